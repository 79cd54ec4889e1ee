/-! constructors -/
def Fr (n : Nat) (R : Nat → Nat → Option Nat) (I : Nat → Nat → Int32) (J : Nat → Nat → Int64) : Prop := ∀ m, n ≤ m → R m = (fun _ => none) ∧ I m = (fun _ => 0) ∧ J m = (fun _ => 0)
section CT
variable {z : Nat} {E : aEt} {n a : Nat} {K N : Nat → Nat} {R : Nat → Nat → Option Nat} {I : Nat → Nat → Int32} {J : Nat → Nat → Int64} {lx : List Value → aH → aO}
theorem r2_id {α : Type} (f : Nat → Nat → α) (m : Nat) (g : Nat → α) (h : f m = g) : r2 f m g = f := by
  funext b
  unfold r2
  split
  · next e => rw [e, h]
  · rfl
theorem wN_F (h : Fr n R I J) (c l : Nat) : wN (St z E n K N R I J) c l = St z E (n + 1) (va_up K n c) (va_up N n l) R I J := by
  obtain ⟨h1, h2, h3⟩ := h n (Nat.le_refl n)
  rw [wN_St, r2_id _ _ _ h1, r2_id _ _ _ h2, r2_id _ _ _ h3]
theorem Fr.s (h : Fr n R I J) : Fr (n + 1) R I J := fun m hm => h m (by omega)
theorem Fr.r (h : Fr n R I J) (ha : a < n) (k : Nat) (v : Option Nat) : Fr n (u2 R a k v) I J := fun m hm => by
  obtain ⟨h1, h2, h3⟩ := h m hm
  exact ⟨by rw [u2_a _ _ _ _ _ (by omega)]; exact h1, h2, h3⟩
theorem Fr.i (h : Fr n R I J) (ha : a < n) (k : Nat) (v : Int32) : Fr n R (u2 I a k v) J := fun m hm => by
  obtain ⟨h1, h2, h3⟩ := h m hm
  exact ⟨h1, by rw [u2_a _ _ _ _ _ (by omega)]; exact h2, h3⟩
theorem Fr.j (h : Fr n R I J) (ha : a < n) (k : Nat) (v : Int64) : Fr n R I (u2 J a k v) := fun m hm => by
  obtain ⟨h1, h2, h3⟩ := h m hm
  exact ⟨h1, h2, by rw [u2_a _ _ _ _ _ (by omega)]; exact h3⟩
theorem up_lt {K : Nat → Nat} {a n c : Nat} (h : a < n) : va_up K n c a = K a := va_up_ne _ _ (Nat.ne_of_lt h)
theorem ct_93 (h : Fr n R I J) (ha : a < n) (hk : K a = 8) : Ca lx 93 [.ref (z + a)] (St z E n K N R I J) = some (none, St z E (n + 3) (va_up (va_up (va_up K n 13) (n + 1) 13) (n + 2) 13) (va_up (va_up (va_up N n 4) (n + 1) 4) (n + 2) 4) (u2 (u2 (u2 R a 4 (some n)) a 5 (some (n + 1))) a 6 (some (n + 2))) I J) := by
  refine q_of (f_93 _ _) ?_
  rw [show (4 : Int32).toNatClampNeg = 4 from rfl]
  rw [gd_t (by decide), lt_s_, z_St, wN_F h, gd_t (by rw [k_St, up_lt (by omega)]; exact hk), lt_s_, wR_St]
  have h := (h.s).r (a := a) (by omega) 4 (some n)
  rw [gd_t (by decide), lt_s_, z_St, wN_F h, gd_t (by rw [k_St, up_lt (by omega), up_lt (by omega)]; exact hk), lt_s_, wR_St]
  have h := (h.s).r (a := a) (by omega) 5 (some (n + 1))
  rw [gd_t (by decide), lt_s_, z_St, wN_F h, gd_t (by rw [k_St, up_lt (by omega), up_lt (by omega), up_lt (by omega)]; exact hk), lt_s_, wR_St]
theorem ct_8 (h : Fr n R I J) (ha : a < n) (hk : K a = 0) : Ca lx 8 [.ref (z + a)] (St z E n K N R I J) = some (none, St z E (n + 3) (va_up (va_up (va_up K n 13) (n + 1) 13) (n + 2) 14) (va_up (va_up (va_up N n 128) (n + 1) 128) (n + 2) 5) (u2 (u2 (u2 R a 0 (some n)) a 1 (some (n + 1))) a 3 (some (n + 2))) I J) := by
  refine q_of (f_8 _ _) ?_
  rw [show (5 : Int32).toNatClampNeg = 5 from rfl]
  rw [show (128 : Int32).toNatClampNeg = 128 from rfl]
  rw [gd_t (by decide), lt_s_, z_St, wN_F h, gd_t (by rw [k_St, up_lt (by omega)]; exact hk), lt_s_, wR_St]
  have h := (h.s).r (a := a) (by omega) 0 (some n)
  rw [gd_t (by decide), lt_s_, z_St, wN_F h, gd_t (by rw [k_St, up_lt (by omega), up_lt (by omega)]; exact hk), lt_s_, wR_St]
  have h := (h.s).r (a := a) (by omega) 1 (some (n + 1))
  rw [gd_t (by decide), lt_s_, z_St, wN_F h, gd_t (by rw [k_St, up_lt (by omega), up_lt (by omega), up_lt (by omega)]; exact hk), lt_s_, wR_St]
theorem ct_22 (h : Fr n R I J) (ha : a < n) (hk : K a = 2) : Ca lx 22 [.ref (z + a)] (St z E n K N R I J) = some (none, St z E (n + 8) (va_up (va_up (va_up (va_up (va_up (va_up (va_up (va_up K n 13) (n + 1) 13) (n + 2) 13) (n + 3) 13) (n + 4) 13) (n + 5) 13) (n + 6) 13) (n + 7) 13) (va_up (va_up (va_up (va_up (va_up (va_up (va_up (va_up N n 64) (n + 1) 4) (n + 2) 4) (n + 3) 4) (n + 4) 36) (n + 5) 6) (n + 6) 6) (n + 7) 6) (u2 (u2 (u2 (u2 (u2 (u2 (u2 (u2 R a 11 (some n)) a 12 (some (n + 1))) a 13 (some (n + 2))) a 14 (some (n + 3))) a 15 (some (n + 4))) a 16 (some (n + 5))) a 17 (some (n + 6))) a 18 (some (n + 7))) I J) := by
  refine q_of (f_22 _ _) ?_
  rw [show (4 : Int32).toNatClampNeg = 4 from rfl]
  rw [show (6 : Int32).toNatClampNeg = 6 from rfl]
  rw [show (36 : Int32).toNatClampNeg = 36 from rfl]
  rw [show (64 : Int32).toNatClampNeg = 64 from rfl]
  rw [gd_t (by decide), lt_s_, z_St, wN_F h, gd_t (by rw [k_St, up_lt (by omega)]; exact hk), lt_s_, wR_St]
  have h := (h.s).r (a := a) (by omega) 11 (some n)
  rw [gd_t (by decide), lt_s_, z_St, wN_F h, gd_t (by rw [k_St, up_lt (by omega), up_lt (by omega)]; exact hk), lt_s_, wR_St]
  have h := (h.s).r (a := a) (by omega) 12 (some (n + 1))
  rw [gd_t (by decide), lt_s_, z_St, wN_F h, gd_t (by rw [k_St, up_lt (by omega), up_lt (by omega), up_lt (by omega)]; exact hk), lt_s_, wR_St]
  have h := (h.s).r (a := a) (by omega) 13 (some (n + 2))
  rw [gd_t (by decide), lt_s_, z_St, wN_F h, gd_t (by rw [k_St, up_lt (by omega), up_lt (by omega), up_lt (by omega), up_lt (by omega)]; exact hk), lt_s_, wR_St]
  have h := (h.s).r (a := a) (by omega) 14 (some (n + 3))
  rw [gd_t (by decide), lt_s_, z_St, wN_F h, gd_t (by rw [k_St, up_lt (by omega), up_lt (by omega), up_lt (by omega), up_lt (by omega), up_lt (by omega)]; exact hk), lt_s_, wR_St]
  have h := (h.s).r (a := a) (by omega) 15 (some (n + 4))
  rw [gd_t (by decide), lt_s_, z_St, wN_F h, gd_t (by rw [k_St, up_lt (by omega), up_lt (by omega), up_lt (by omega), up_lt (by omega), up_lt (by omega), up_lt (by omega)]; exact hk), lt_s_, wR_St]
  have h := (h.s).r (a := a) (by omega) 16 (some (n + 5))
  rw [gd_t (by decide), lt_s_, z_St, wN_F h, gd_t (by rw [k_St, up_lt (by omega), up_lt (by omega), up_lt (by omega), up_lt (by omega), up_lt (by omega), up_lt (by omega), up_lt (by omega)]; exact hk), lt_s_, wR_St]
  have h := (h.s).r (a := a) (by omega) 17 (some (n + 6))
  rw [gd_t (by decide), lt_s_, z_St, wN_F h, gd_t (by rw [k_St, up_lt (by omega), up_lt (by omega), up_lt (by omega), up_lt (by omega), up_lt (by omega), up_lt (by omega), up_lt (by omega), up_lt (by omega)]; exact hk), lt_s_, wR_St]
theorem ct_60 (h : Fr n R I J) (ha : a < n) (hk : K a = 4) : Ca lx 60 [.ref (z + a)] (St z E n K N R I J) = some (none, St z E (n + 4) (va_up (va_up (va_up (va_up K n 13) (n + 1) 13) (n + 2) 13) (n + 3) 13) (va_up (va_up (va_up (va_up N n 320) (n + 1) 320) (n + 2) 64) (n + 3) 15) (u2 (u2 (u2 (u2 R a 0 (some n)) a 1 (some (n + 1))) a 3 (some (n + 2))) a 4 (some (n + 3))) I J) := by
  refine q_of (f_60 _ _) ?_
  rw [show (15 : Int32).toNatClampNeg = 15 from rfl]
  rw [show (64 : Int32).toNatClampNeg = 64 from rfl]
  rw [show (320 : Int32).toNatClampNeg = 320 from rfl]
  rw [gd_t (by decide), lt_s_, z_St, wN_F h, gd_t (by rw [k_St, up_lt (by omega)]; exact hk), lt_s_, wR_St]
  have h := (h.s).r (a := a) (by omega) 0 (some n)
  rw [gd_t (by decide), lt_s_, z_St, wN_F h, gd_t (by rw [k_St, up_lt (by omega), up_lt (by omega)]; exact hk), lt_s_, wR_St]
  have h := (h.s).r (a := a) (by omega) 1 (some (n + 1))
  rw [gd_t (by decide), lt_s_, z_St, wN_F h, gd_t (by rw [k_St, up_lt (by omega), up_lt (by omega), up_lt (by omega)]; exact hk), lt_s_, wR_St]
  have h := (h.s).r (a := a) (by omega) 3 (some (n + 2))
  rw [gd_t (by decide), lt_s_, z_St, wN_F h, gd_t (by rw [k_St, up_lt (by omega), up_lt (by omega), up_lt (by omega), up_lt (by omega)]; exact hk), lt_s_, wR_St]
theorem ct_76 (h : Fr n R I J) (ha : a < n) (hk : K a = 6) : Ca lx 76 [.ref (z + a)] (St z E n K N R I J) = some (none, St z E (n + 1) (va_up K n 13) (va_up N n 700) (u2 R a 0 (some n)) I J) := by
  refine q_of (f_76 _ _) ?_
  rw [show (700 : Int32).toNatClampNeg = 700 from rfl]
  rw [gd_t (by decide), lt_s_, z_St, wN_F h, gd_t (by rw [k_St, up_lt (by omega)]; exact hk), lt_s_, wR_St]
theorem ct_87 (h : Fr n R I J) (ha : a < n) (hk : K a = 7) : Ca lx 87 [.ref (z + a)] (St z E n K N R I J) = some (none, St z E (n + 1) (va_up K n 13) (va_up N n 64) (u2 R a 0 (some n)) I J) := by
  refine q_of (f_87 _ _) ?_
  rw [show (64 : Int32).toNatClampNeg = 64 from rfl]
  rw [gd_t (by decide), lt_s_, z_St, wN_F h, gd_t (by rw [k_St, up_lt (by omega)]; exact hk), lt_s_, wR_St]
theorem ct_174 (h : Fr n R I J) (ha : a < n) (hk : K a = 10) : Ca lx 174 [.ref (z + a)] (St z E n K N R I J) = some (none, St z E (n + 11) (va_up (va_up (va_up (va_up (va_up (va_up (va_up (va_up (va_up (va_up (va_up K n 13) (n + 1) 13) (n + 2) 13) (n + 3) 13) (n + 4) 13) (n + 5) 13) (n + 6) 13) (n + 7) 13) (n + 8) 14) (n + 9) 13) (n + 10) 13) (va_up (va_up (va_up (va_up (va_up (va_up (va_up (va_up (va_up (va_up (va_up N n 64) (n + 1) 4) (n + 2) 4) (n + 3) 4) (n + 4) 36) (n + 5) 6) (n + 6) 6) (n + 7) 6) (n + 8) 8) (n + 9) 8) (n + 10) 8) (u2 (u2 (u2 (u2 (u2 (u2 (u2 (u2 (u2 (u2 (u2 R a 12 (some n)) a 13 (some (n + 1))) a 14 (some (n + 2))) a 15 (some (n + 3))) a 16 (some (n + 4))) a 17 (some (n + 5))) a 18 (some (n + 6))) a 19 (some (n + 7))) a 20 (some (n + 8))) a 21 (some (n + 9))) a 22 (some (n + 10))) (u2 I a 6 (-1)) J) := by
  refine q_of (f_174 _ _) ?_
  rw [show (4 : Int32).toNatClampNeg = 4 from rfl]
  rw [show (6 : Int32).toNatClampNeg = 6 from rfl]
  rw [show (8 : Int32).toNatClampNeg = 8 from rfl]
  rw [show (36 : Int32).toNatClampNeg = 36 from rfl]
  rw [show (64 : Int32).toNatClampNeg = 64 from rfl]
  rw [gd_t (by rw [k_St]; exact hk), lt_s_, wI_St]
  have h := h.i ha 6 (-1)
  rw [gd_t (by decide), lt_s_, z_St, wN_F h, gd_t (by rw [k_St, up_lt (by omega)]; exact hk), lt_s_, wR_St]
  have h := (h.s).r (a := a) (by omega) 12 (some n)
  rw [gd_t (by decide), lt_s_, z_St, wN_F h, gd_t (by rw [k_St, up_lt (by omega), up_lt (by omega)]; exact hk), lt_s_, wR_St]
  have h := (h.s).r (a := a) (by omega) 13 (some (n + 1))
  rw [gd_t (by decide), lt_s_, z_St, wN_F h, gd_t (by rw [k_St, up_lt (by omega), up_lt (by omega), up_lt (by omega)]; exact hk), lt_s_, wR_St]
  have h := (h.s).r (a := a) (by omega) 14 (some (n + 2))
  rw [gd_t (by decide), lt_s_, z_St, wN_F h, gd_t (by rw [k_St, up_lt (by omega), up_lt (by omega), up_lt (by omega), up_lt (by omega)]; exact hk), lt_s_, wR_St]
  have h := (h.s).r (a := a) (by omega) 15 (some (n + 3))
  rw [gd_t (by decide), lt_s_, z_St, wN_F h, gd_t (by rw [k_St, up_lt (by omega), up_lt (by omega), up_lt (by omega), up_lt (by omega), up_lt (by omega)]; exact hk), lt_s_, wR_St]
  have h := (h.s).r (a := a) (by omega) 16 (some (n + 4))
  rw [gd_t (by decide), lt_s_, z_St, wN_F h, gd_t (by rw [k_St, up_lt (by omega), up_lt (by omega), up_lt (by omega), up_lt (by omega), up_lt (by omega), up_lt (by omega)]; exact hk), lt_s_, wR_St]
  have h := (h.s).r (a := a) (by omega) 17 (some (n + 5))
  rw [gd_t (by decide), lt_s_, z_St, wN_F h, gd_t (by rw [k_St, up_lt (by omega), up_lt (by omega), up_lt (by omega), up_lt (by omega), up_lt (by omega), up_lt (by omega), up_lt (by omega)]; exact hk), lt_s_, wR_St]
  have h := (h.s).r (a := a) (by omega) 18 (some (n + 6))
  rw [gd_t (by decide), lt_s_, z_St, wN_F h, gd_t (by rw [k_St, up_lt (by omega), up_lt (by omega), up_lt (by omega), up_lt (by omega), up_lt (by omega), up_lt (by omega), up_lt (by omega), up_lt (by omega)]; exact hk), lt_s_, wR_St]
  have h := (h.s).r (a := a) (by omega) 19 (some (n + 7))
  rw [gd_t (by decide), lt_s_, z_St, wN_F h, gd_t (by rw [k_St, up_lt (by omega), up_lt (by omega), up_lt (by omega), up_lt (by omega), up_lt (by omega), up_lt (by omega), up_lt (by omega), up_lt (by omega), up_lt (by omega)]; exact hk), lt_s_, wR_St]
  have h := (h.s).r (a := a) (by omega) 20 (some (n + 8))
  rw [gd_t (by decide), lt_s_, z_St, wN_F h, gd_t (by rw [k_St, up_lt (by omega), up_lt (by omega), up_lt (by omega), up_lt (by omega), up_lt (by omega), up_lt (by omega), up_lt (by omega), up_lt (by omega), up_lt (by omega), up_lt (by omega)]; exact hk), lt_s_, wR_St]
  have h := (h.s).r (a := a) (by omega) 21 (some (n + 9))
  rw [gd_t (by decide), lt_s_, z_St, wN_F h, gd_t (by rw [k_St, up_lt (by omega), up_lt (by omega), up_lt (by omega), up_lt (by omega), up_lt (by omega), up_lt (by omega), up_lt (by omega), up_lt (by omega), up_lt (by omega), up_lt (by omega), up_lt (by omega)]; exact hk), lt_s_, wR_St]
theorem ct_180 (h : Fr n R I J) (ha : a < n) (hk : K a = 11) : Ca lx 180 [.ref (z + a)] (St z E n K N R I J) = some (none, St z E (n + 13) (va_up (va_up (va_up (va_up (va_up (va_up (va_up (va_up (va_up (va_up (va_up (va_up (va_up K n 12) (n + 1) 13) (n + 2) 13) (n + 3) 13) (n + 4) 13) (n + 5) 13) (n + 6) 15) (n + 7) 15) (n + 8) 13) (n + 9) 13) (n + 10) 13) (n + 11) 13) (n + 12) 13) (va_up (va_up (va_up (va_up (va_up (va_up (va_up (va_up (va_up (va_up (va_up (va_up (va_up N n 700) (n + 1) 145) (n + 2) 145) (n + 3) 2320) (n + 4) 435) (n + 5) 64) (n + 6) 320) (n + 7) 64) (n + 8) 128) (n + 9) 128) (n + 10) 320) (n + 11) 64) (n + 12) 15) (u2 (u2 (u2 (u2 (u2 (u2 (u2 (u2 (u2 (u2 (u2 (u2 (u2 R a 5 (some n)) a 16 (some (n + 1))) a 17 (some (n + 2))) a 18 (some (n + 3))) a 19 (some (n + 4))) a 22 (some (n + 5))) a 23 (some (n + 6))) a 24 (some (n + 7))) a 25 (some (n + 8))) a 26 (some (n + 9))) a 28 (some (n + 10))) a 29 (some (n + 11))) a 30 (some (n + 12))) (u2 I a 2 (-1)) J) := by
  refine q_of (f_180 _ _) ?_
  rw [show (15 : Int32).toNatClampNeg = 15 from rfl]
  rw [show (64 : Int32).toNatClampNeg = 64 from rfl]
  rw [show (128 : Int32).toNatClampNeg = 128 from rfl]
  rw [show (145 : Int32).toNatClampNeg = 145 from rfl]
  rw [show (320 : Int32).toNatClampNeg = 320 from rfl]
  rw [show (435 : Int32).toNatClampNeg = 435 from rfl]
  rw [show (700 : Int32).toNatClampNeg = 700 from rfl]
  rw [show (2320 : Int32).toNatClampNeg = 2320 from rfl]
  rw [gd_t (by rw [k_St]; exact hk), lt_s_, wI_St]
  have h := h.i ha 2 (-1)
  rw [gd_t (by decide), lt_s_, z_St, wN_F h, gd_t (by rw [k_St, up_lt (by omega)]; exact hk), lt_s_, wR_St]
  have h := (h.s).r (a := a) (by omega) 5 (some n)
  rw [gd_t (by decide), lt_s_, z_St, wN_F h, gd_t (by rw [k_St, up_lt (by omega), up_lt (by omega)]; exact hk), lt_s_, wR_St]
  have h := (h.s).r (a := a) (by omega) 16 (some (n + 1))
  rw [gd_t (by decide), lt_s_, z_St, wN_F h, gd_t (by rw [k_St, up_lt (by omega), up_lt (by omega), up_lt (by omega)]; exact hk), lt_s_, wR_St]
  have h := (h.s).r (a := a) (by omega) 17 (some (n + 2))
  rw [gd_t (by decide), lt_s_, z_St, wN_F h, gd_t (by rw [k_St, up_lt (by omega), up_lt (by omega), up_lt (by omega), up_lt (by omega)]; exact hk), lt_s_, wR_St]
  have h := (h.s).r (a := a) (by omega) 18 (some (n + 3))
  rw [gd_t (by decide), lt_s_, z_St, wN_F h, gd_t (by rw [k_St, up_lt (by omega), up_lt (by omega), up_lt (by omega), up_lt (by omega), up_lt (by omega)]; exact hk), lt_s_, wR_St]
  have h := (h.s).r (a := a) (by omega) 19 (some (n + 4))
  rw [gd_t (by decide), lt_s_, z_St, wN_F h, gd_t (by rw [k_St, up_lt (by omega), up_lt (by omega), up_lt (by omega), up_lt (by omega), up_lt (by omega), up_lt (by omega)]; exact hk), lt_s_, wR_St]
  have h := (h.s).r (a := a) (by omega) 22 (some (n + 5))
  rw [gd_t (by decide), lt_s_, z_St, wN_F h, gd_t (by rw [k_St, up_lt (by omega), up_lt (by omega), up_lt (by omega), up_lt (by omega), up_lt (by omega), up_lt (by omega), up_lt (by omega)]; exact hk), lt_s_, wR_St]
  have h := (h.s).r (a := a) (by omega) 23 (some (n + 6))
  rw [gd_t (by decide), lt_s_, z_St, wN_F h, gd_t (by rw [k_St, up_lt (by omega), up_lt (by omega), up_lt (by omega), up_lt (by omega), up_lt (by omega), up_lt (by omega), up_lt (by omega), up_lt (by omega)]; exact hk), lt_s_, wR_St]
  have h := (h.s).r (a := a) (by omega) 24 (some (n + 7))
  rw [gd_t (by decide), lt_s_, z_St, wN_F h, gd_t (by rw [k_St, up_lt (by omega), up_lt (by omega), up_lt (by omega), up_lt (by omega), up_lt (by omega), up_lt (by omega), up_lt (by omega), up_lt (by omega), up_lt (by omega)]; exact hk), lt_s_, wR_St]
  have h := (h.s).r (a := a) (by omega) 25 (some (n + 8))
  rw [gd_t (by decide), lt_s_, z_St, wN_F h, gd_t (by rw [k_St, up_lt (by omega), up_lt (by omega), up_lt (by omega), up_lt (by omega), up_lt (by omega), up_lt (by omega), up_lt (by omega), up_lt (by omega), up_lt (by omega), up_lt (by omega)]; exact hk), lt_s_, wR_St]
  have h := (h.s).r (a := a) (by omega) 26 (some (n + 9))
  rw [gd_t (by decide), lt_s_, z_St, wN_F h, gd_t (by rw [k_St, up_lt (by omega), up_lt (by omega), up_lt (by omega), up_lt (by omega), up_lt (by omega), up_lt (by omega), up_lt (by omega), up_lt (by omega), up_lt (by omega), up_lt (by omega), up_lt (by omega)]; exact hk), lt_s_, wR_St]
  have h := (h.s).r (a := a) (by omega) 28 (some (n + 10))
  rw [gd_t (by decide), lt_s_, z_St, wN_F h, gd_t (by rw [k_St, up_lt (by omega), up_lt (by omega), up_lt (by omega), up_lt (by omega), up_lt (by omega), up_lt (by omega), up_lt (by omega), up_lt (by omega), up_lt (by omega), up_lt (by omega), up_lt (by omega), up_lt (by omega)]; exact hk), lt_s_, wR_St]
  have h := (h.s).r (a := a) (by omega) 29 (some (n + 11))
  rw [gd_t (by decide), lt_s_, z_St, wN_F h, gd_t (by rw [k_St, up_lt (by omega), up_lt (by omega), up_lt (by omega), up_lt (by omega), up_lt (by omega), up_lt (by omega), up_lt (by omega), up_lt (by omega), up_lt (by omega), up_lt (by omega), up_lt (by omega), up_lt (by omega), up_lt (by omega)]; exact hk), lt_s_, wR_St]
theorem ct_34 (h : Fr 2 R I J) (hk : K 1 = 3) : Ca lx 34 [.ref (z + 1)] (St z E 2 K N R I J) = some (none, St z E 15 (va_up (va_up (va_up (va_up (va_up (va_up (va_up (va_up (va_up (va_up (va_up (va_up (va_up K 2 6) 3 13) 4 2) 5 13) 6 13) 7 13) 8 13) 9 13) 10 13) 11 13) 12 13) 13 14) 14 14) (va_up (va_up (va_up (va_up (va_up (va_up (va_up (va_up (va_up (va_up (va_up (va_up (va_up N 2 0) 3 700) 4 0) 5 64) 6 4) 7 4) 8 4) 9 36) 10 6) 11 6) 12 6) 13 4) 14 4) (u2 (u2 (u2 (u2 (u2 (u2 (u2 (u2 (u2 (u2 (u2 (u2 (u2 R 2 0 (some 3)) 1 0 (some 2)) 4 11 (some 5)) 4 12 (some 6)) 4 13 (some 7)) 4 14 (some 8)) 4 15 (some 9)) 4 16 (some 10)) 4 17 (some 11)) 4 18 (some 12)) 1 3 (some 4)) 1 7 (some 13)) 1 8 (some 14)) I J) := by
  refine q_of (f_34 _ _) ?_
  rw [gd_t (by decide), lt_s_, z_St, wN_F h]
  have h := h.s
  simp only [Nat.reduceAdd] at h ⊢
  rw [gd_t (by decide), ct_76 h (by decide) (by simp [va_up]), cV_s]
  try simp only [Nat.reduceAdd]
  have h := ((h.s).r (a := 2) (by decide) 0 (some 3))
  try simp only [Nat.reduceAdd] at h
  rw [gd_t (by rw [k_St]; simp [va_up, hk]), lt_s_, wR_St]
  have h := h.r (a := 1) (by decide) 0 (some 2)
  rw [gd_t (by decide), lt_s_, z_St, wN_F h]
  have h := h.s
  simp only [Nat.reduceAdd] at h ⊢
  rw [gd_t (by decide), ct_22 h (by decide) (by simp [va_up]), cV_s]
  try simp only [Nat.reduceAdd]
  have h := ((((((((((((((((h.s).r (a := 4) (by decide) 11 (some 5)).s).r (a := 4) (by decide) 12 (some 6)).s).r (a := 4) (by decide) 13 (some 7)).s).r (a := 4) (by decide) 14 (some 8)).s).r (a := 4) (by decide) 15 (some 9)).s).r (a := 4) (by decide) 16 (some 10)).s).r (a := 4) (by decide) 17 (some 11)).s).r (a := 4) (by decide) 18 (some 12))
  try simp only [Nat.reduceAdd] at h
  rw [gd_t (by rw [k_St]; simp [va_up, hk]), lt_s_, wR_St]
  have h := h.r (a := 1) (by decide) 3 (some 4)
  rw [show (4 : Int32).toNatClampNeg = 4 from rfl]
  rw [gd_t (by decide), lt_s_, z_St, wN_F h]
  have h := h.s
  simp only [Nat.reduceAdd] at h ⊢
  rw [gd_t (by rw [k_St]; simp [va_up, hk]), lt_s_, wR_St]
  have h := h.r (a := 1) (by decide) 7 (some 13)
  rw [gd_t (by decide), lt_s_, z_St, wN_F h]
  have h := h.s
  simp only [Nat.reduceAdd] at h ⊢
  rw [gd_t (by rw [k_St]; simp [va_up, hk]), lt_s_, wR_St]
theorem fr_34 (h : Fr 2 R I J) : Fr 15 (u2 (u2 (u2 (u2 (u2 (u2 (u2 (u2 (u2 (u2 (u2 (u2 (u2 R 2 0 (some 3)) 1 0 (some 2)) 4 11 (some 5)) 4 12 (some 6)) 4 13 (some 7)) 4 14 (some 8)) 4 15 (some 9)) 4 16 (some 10)) 4 17 (some 11)) 4 18 (some 12)) 1 3 (some 4)) 1 7 (some 13)) 1 8 (some 14)) I J := fun m hm => by
  obtain ⟨h1, h2, h3⟩ := h m (by omega)
  refine ⟨?_, h2, h3⟩
  rw [u2_a _ _ _ _ _ (by omega), u2_a _ _ _ _ _ (by omega), u2_a _ _ _ _ _ (by omega), u2_a _ _ _ _ _ (by omega), u2_a _ _ _ _ _ (by omega), u2_a _ _ _ _ _ (by omega), u2_a _ _ _ _ _ (by omega), u2_a _ _ _ _ _ (by omega), u2_a _ _ _ _ _ (by omega), u2_a _ _ _ _ _ (by omega), u2_a _ _ _ _ _ (by omega), u2_a _ _ _ _ _ (by omega), u2_a _ _ _ _ _ (by omega)]
  exact h1
theorem ct_16 (h : Fr 24 R I J) (hk : K 23 = 1) : Ca lx 16 [.ref (z + 23)] (St z E 24 K N R I J) = some (none, St z E 102 (va_up (va_up (va_up (va_up (va_up (va_up (va_up (va_up (va_up (va_up (va_up (va_up (va_up (va_up (va_up (va_up (va_up (va_up (va_up (va_up (va_up (va_up (va_up (va_up (va_up (va_up (va_up (va_up (va_up (va_up (va_up (va_up (va_up (va_up (va_up (va_up (va_up (va_up (va_up (va_up (va_up (va_up (va_up (va_up (va_up (va_up (va_up (va_up (va_up (va_up (va_up (va_up (va_up (va_up (va_up (va_up (va_up (va_up (va_up (va_up (va_up (va_up (va_up (va_up (va_up (va_up (va_up (va_up (va_up (va_up (va_up (va_up (va_up (va_up (va_up (va_up (va_up (va_up K 24 16) 25 16) 26 8) 27 13) 28 13) 29 13) 30 8) 31 13) 32 13) 33 13) 34 8) 35 13) 36 13) 37 13) 38 8) 39 13) 40 13) 41 13) 42 8) 43 13) 44 13) 45 13) 46 8) 47 13) 48 13) 49 13) 50 8) 51 13) 52 13) 53 13) 54 8) 55 13) 56 13) 57 13) 58 8) 59 13) 60 13) 61 13) 62 8) 63 13) 64 13) 65 13) 66 8) 67 13) 68 13) 69 13) 70 8) 71 13) 72 13) 73 13) 74 8) 75 13) 76 13) 77 13) 78 8) 79 13) 80 13) 81 13) 82 8) 83 13) 84 13) 85 13) 86 8) 87 13) 88 13) 89 13) 90 8) 91 13) 92 13) 93 13) 94 8) 95 13) 96 13) 97 13) 98 8) 99 13) 100 13) 101 13) (va_up (va_up (va_up (va_up (va_up (va_up (va_up (va_up (va_up (va_up (va_up (va_up (va_up (va_up (va_up (va_up (va_up (va_up (va_up (va_up (va_up (va_up (va_up (va_up (va_up (va_up (va_up (va_up (va_up (va_up (va_up (va_up (va_up (va_up (va_up (va_up (va_up (va_up (va_up (va_up (va_up (va_up (va_up (va_up (va_up (va_up (va_up (va_up (va_up (va_up (va_up (va_up (va_up (va_up (va_up (va_up (va_up (va_up (va_up (va_up (va_up (va_up (va_up (va_up (va_up (va_up (va_up (va_up (va_up (va_up (va_up (va_up (va_up (va_up (va_up (va_up (va_up (va_up N 24 16) 25 3) 26 0) 27 4) 28 4) 29 4) 30 0) 31 4) 32 4) 33 4) 34 0) 35 4) 36 4) 37 4) 38 0) 39 4) 40 4) 41 4) 42 0) 43 4) 44 4) 45 4) 46 0) 47 4) 48 4) 49 4) 50 0) 51 4) 52 4) 53 4) 54 0) 55 4) 56 4) 57 4) 58 0) 59 4) 60 4) 61 4) 62 0) 63 4) 64 4) 65 4) 66 0) 67 4) 68 4) 69 4) 70 0) 71 4) 72 4) 73 4) 74 0) 75 4) 76 4) 77 4) 78 0) 79 4) 80 4) 81 4) 82 0) 83 4) 84 4) 85 4) 86 0) 87 4) 88 4) 89 4) 90 0) 91 4) 92 4) 93 4) 94 0) 95 4) 96 4) 97 4) 98 0) 99 4) 100 4) 101 4) (u2 (u2 (u2 (u2 (u2 (u2 (u2 (u2 (u2 (u2 (u2 (u2 (u2 (u2 (u2 (u2 (u2 (u2 (u2 (u2 (u2 (u2 (u2 (u2 (u2 (u2 (u2 (u2 (u2 (u2 (u2 (u2 (u2 (u2 (u2 (u2 (u2 (u2 (u2 (u2 (u2 (u2 (u2 (u2 (u2 (u2 (u2 (u2 (u2 (u2 (u2 (u2 (u2 (u2 (u2 (u2 (u2 (u2 (u2 (u2 (u2 (u2 (u2 (u2 (u2 (u2 (u2 (u2 (u2 (u2 (u2 (u2 (u2 (u2 (u2 (u2 (u2 (u2 R 23 0 (some 24)) 23 1 (some 25)) 26 4 (some 27)) 26 5 (some 28)) 26 6 (some 29)) 24 0 (some 26)) 30 4 (some 31)) 30 5 (some 32)) 30 6 (some 33)) 24 1 (some 30)) 34 4 (some 35)) 34 5 (some 36)) 34 6 (some 37)) 24 2 (some 34)) 38 4 (some 39)) 38 5 (some 40)) 38 6 (some 41)) 24 3 (some 38)) 42 4 (some 43)) 42 5 (some 44)) 42 6 (some 45)) 24 4 (some 42)) 46 4 (some 47)) 46 5 (some 48)) 46 6 (some 49)) 24 5 (some 46)) 50 4 (some 51)) 50 5 (some 52)) 50 6 (some 53)) 24 6 (some 50)) 54 4 (some 55)) 54 5 (some 56)) 54 6 (some 57)) 24 7 (some 54)) 58 4 (some 59)) 58 5 (some 60)) 58 6 (some 61)) 24 8 (some 58)) 62 4 (some 63)) 62 5 (some 64)) 62 6 (some 65)) 24 9 (some 62)) 66 4 (some 67)) 66 5 (some 68)) 66 6 (some 69)) 24 10 (some 66)) 70 4 (some 71)) 70 5 (some 72)) 70 6 (some 73)) 24 11 (some 70)) 74 4 (some 75)) 74 5 (some 76)) 74 6 (some 77)) 24 12 (some 74)) 78 4 (some 79)) 78 5 (some 80)) 78 6 (some 81)) 24 13 (some 78)) 82 4 (some 83)) 82 5 (some 84)) 82 6 (some 85)) 24 14 (some 82)) 86 4 (some 87)) 86 5 (some 88)) 86 6 (some 89)) 24 15 (some 86)) 90 4 (some 91)) 90 5 (some 92)) 90 6 (some 93)) 25 0 (some 90)) 94 4 (some 95)) 94 5 (some 96)) 94 6 (some 97)) 25 1 (some 94)) 98 4 (some 99)) 98 5 (some 100)) 98 6 (some 101)) 25 2 (some 98)) I J) := by
  refine q_of (f_16 _ _) ?_
  rw [show (16 : Int32).toNatClampNeg = 16 from rfl, show (3 : Int32).toNatClampNeg = 3 from rfl]
  rw [gd_t (by decide), lt_s_, z_St, wN_F h]
  have h := h.s
  simp only [Nat.reduceAdd] at h ⊢
  rw [gd_t (by rw [k_St]; simp [va_up, hk]), lt_s_, wR_St]
  have h := h.r (a := 23) (by decide) 0 (some 24)
  rw [gd_t (by decide), lt_s_, z_St, wN_F h]
  have h := h.s
  simp only [Nat.reduceAdd] at h ⊢
  rw [gd_t (by rw [k_St]; simp [va_up, hk]), lt_s_, wR_St]
  have h := h.r (a := 23) (by decide) 1 (some 25)
  refine q_of (e_16_13 _ _ _ _) ?_
  rw [if_neg (by decide), gd_t (by rw [k_St]; simp [va_up, hk]), r_St, show (u2 (u2 R 23 0 (some 24)) 23 1 (some 25)) 23 0 = some 24 by simp [u2]]
  rw [show (some 24 : Option Nat).map (fun b => z + b) = some (z + 24) from rfl, nR_s]
  rw [gd_t (by decide), lt_s_, z_St, wN_F h]
  have h := h.s
  simp only [Nat.reduceAdd] at h ⊢
  rw [gd_t (by decide), ct_93 h (by decide) (by simp [va_up]), cV_s]
  try simp only [Nat.reduceAdd]
  have h := ((((((h.s).r (a := 26) (by decide) 4 (some 27)).s).r (a := 26) (by decide) 5 (some 28)).s).r (a := 26) (by decide) 6 (some 29))
  try simp only [Nat.reduceAdd] at h
  rw [gd_t (by refine ⟨?_, ?_, ?_⟩ <;> simp only [k_St, n_St] <;> first | (simp [va_up]; done) | (simp only [va_up]; decide)), lt_s_, wR_St]
  have h := h.r (a := 24) (by decide) 0 (some 26)
  simp only [show ((0 : Int32)).toNatClampNeg = 0 from rfl, show ((0 : Int32) + 1) = 1 from rfl]
  refine q_of (e_16_13 _ _ _ _) ?_
  rw [if_neg (by decide), gd_t (by rw [k_St]; simp [va_up, hk]), r_St, show (u2 (u2 (u2 (u2 (u2 (u2 R 23 0 (some 24)) 23 1 (some 25)) 26 4 (some 27)) 26 5 (some 28)) 26 6 (some 29)) 24 0 (some 26)) 23 0 = some 24 by simp [u2]]
  rw [show (some 24 : Option Nat).map (fun b => z + b) = some (z + 24) from rfl, nR_s]
  rw [gd_t (by decide), lt_s_, z_St, wN_F h]
  have h := h.s
  simp only [Nat.reduceAdd] at h ⊢
  rw [gd_t (by decide), ct_93 h (by decide) (by simp [va_up]), cV_s]
  try simp only [Nat.reduceAdd]
  have h := ((((((h.s).r (a := 30) (by decide) 4 (some 31)).s).r (a := 30) (by decide) 5 (some 32)).s).r (a := 30) (by decide) 6 (some 33))
  try simp only [Nat.reduceAdd] at h
  rw [gd_t (by refine ⟨?_, ?_, ?_⟩ <;> simp only [k_St, n_St] <;> first | (simp [va_up]; done) | (simp only [va_up]; decide)), lt_s_, wR_St]
  have h := h.r (a := 24) (by decide) 1 (some 30)
  simp only [show ((1 : Int32)).toNatClampNeg = 1 from rfl, show ((1 : Int32) + 1) = 2 from rfl]
  refine q_of (e_16_13 _ _ _ _) ?_
  rw [if_neg (by decide), gd_t (by rw [k_St]; simp [va_up, hk]), r_St, show (u2 (u2 (u2 (u2 (u2 (u2 (u2 (u2 (u2 (u2 R 23 0 (some 24)) 23 1 (some 25)) 26 4 (some 27)) 26 5 (some 28)) 26 6 (some 29)) 24 0 (some 26)) 30 4 (some 31)) 30 5 (some 32)) 30 6 (some 33)) 24 1 (some 30)) 23 0 = some 24 by simp [u2]]
  rw [show (some 24 : Option Nat).map (fun b => z + b) = some (z + 24) from rfl, nR_s]
  rw [gd_t (by decide), lt_s_, z_St, wN_F h]
  have h := h.s
  simp only [Nat.reduceAdd] at h ⊢
  rw [gd_t (by decide), ct_93 h (by decide) (by simp [va_up]), cV_s]
  try simp only [Nat.reduceAdd]
  have h := ((((((h.s).r (a := 34) (by decide) 4 (some 35)).s).r (a := 34) (by decide) 5 (some 36)).s).r (a := 34) (by decide) 6 (some 37))
  try simp only [Nat.reduceAdd] at h
  rw [gd_t (by refine ⟨?_, ?_, ?_⟩ <;> simp only [k_St, n_St] <;> first | (simp [va_up]; done) | (simp only [va_up]; decide)), lt_s_, wR_St]
  have h := h.r (a := 24) (by decide) 2 (some 34)
  simp only [show ((2 : Int32)).toNatClampNeg = 2 from rfl, show ((2 : Int32) + 1) = 3 from rfl]
  refine q_of (e_16_13 _ _ _ _) ?_
  rw [if_neg (by decide), gd_t (by rw [k_St]; simp [va_up, hk]), r_St, show (u2 (u2 (u2 (u2 (u2 (u2 (u2 (u2 (u2 (u2 (u2 (u2 (u2 (u2 R 23 0 (some 24)) 23 1 (some 25)) 26 4 (some 27)) 26 5 (some 28)) 26 6 (some 29)) 24 0 (some 26)) 30 4 (some 31)) 30 5 (some 32)) 30 6 (some 33)) 24 1 (some 30)) 34 4 (some 35)) 34 5 (some 36)) 34 6 (some 37)) 24 2 (some 34)) 23 0 = some 24 by simp [u2]]
  rw [show (some 24 : Option Nat).map (fun b => z + b) = some (z + 24) from rfl, nR_s]
  rw [gd_t (by decide), lt_s_, z_St, wN_F h]
  have h := h.s
  simp only [Nat.reduceAdd] at h ⊢
  rw [gd_t (by decide), ct_93 h (by decide) (by simp [va_up]), cV_s]
  try simp only [Nat.reduceAdd]
  have h := ((((((h.s).r (a := 38) (by decide) 4 (some 39)).s).r (a := 38) (by decide) 5 (some 40)).s).r (a := 38) (by decide) 6 (some 41))
  try simp only [Nat.reduceAdd] at h
  rw [gd_t (by refine ⟨?_, ?_, ?_⟩ <;> simp only [k_St, n_St] <;> first | (simp [va_up]; done) | (simp only [va_up]; decide)), lt_s_, wR_St]
  have h := h.r (a := 24) (by decide) 3 (some 38)
  simp only [show ((3 : Int32)).toNatClampNeg = 3 from rfl, show ((3 : Int32) + 1) = 4 from rfl]
  refine q_of (e_16_13 _ _ _ _) ?_
  rw [if_neg (by decide), gd_t (by rw [k_St]; simp [va_up, hk]), r_St, show (u2 (u2 (u2 (u2 (u2 (u2 (u2 (u2 (u2 (u2 (u2 (u2 (u2 (u2 (u2 (u2 (u2 (u2 R 23 0 (some 24)) 23 1 (some 25)) 26 4 (some 27)) 26 5 (some 28)) 26 6 (some 29)) 24 0 (some 26)) 30 4 (some 31)) 30 5 (some 32)) 30 6 (some 33)) 24 1 (some 30)) 34 4 (some 35)) 34 5 (some 36)) 34 6 (some 37)) 24 2 (some 34)) 38 4 (some 39)) 38 5 (some 40)) 38 6 (some 41)) 24 3 (some 38)) 23 0 = some 24 by simp [u2]]
  rw [show (some 24 : Option Nat).map (fun b => z + b) = some (z + 24) from rfl, nR_s]
  rw [gd_t (by decide), lt_s_, z_St, wN_F h]
  have h := h.s
  simp only [Nat.reduceAdd] at h ⊢
  rw [gd_t (by decide), ct_93 h (by decide) (by simp [va_up]), cV_s]
  try simp only [Nat.reduceAdd]
  have h := ((((((h.s).r (a := 42) (by decide) 4 (some 43)).s).r (a := 42) (by decide) 5 (some 44)).s).r (a := 42) (by decide) 6 (some 45))
  try simp only [Nat.reduceAdd] at h
  rw [gd_t (by refine ⟨?_, ?_, ?_⟩ <;> simp only [k_St, n_St] <;> first | (simp [va_up]; done) | (simp only [va_up]; decide)), lt_s_, wR_St]
  have h := h.r (a := 24) (by decide) 4 (some 42)
  simp only [show ((4 : Int32)).toNatClampNeg = 4 from rfl, show ((4 : Int32) + 1) = 5 from rfl]
  refine q_of (e_16_13 _ _ _ _) ?_
  rw [if_neg (by decide), gd_t (by rw [k_St]; simp [va_up, hk]), r_St, show (u2 (u2 (u2 (u2 (u2 (u2 (u2 (u2 (u2 (u2 (u2 (u2 (u2 (u2 (u2 (u2 (u2 (u2 (u2 (u2 (u2 (u2 R 23 0 (some 24)) 23 1 (some 25)) 26 4 (some 27)) 26 5 (some 28)) 26 6 (some 29)) 24 0 (some 26)) 30 4 (some 31)) 30 5 (some 32)) 30 6 (some 33)) 24 1 (some 30)) 34 4 (some 35)) 34 5 (some 36)) 34 6 (some 37)) 24 2 (some 34)) 38 4 (some 39)) 38 5 (some 40)) 38 6 (some 41)) 24 3 (some 38)) 42 4 (some 43)) 42 5 (some 44)) 42 6 (some 45)) 24 4 (some 42)) 23 0 = some 24 by simp [u2]]
  rw [show (some 24 : Option Nat).map (fun b => z + b) = some (z + 24) from rfl, nR_s]
  rw [gd_t (by decide), lt_s_, z_St, wN_F h]
  have h := h.s
  simp only [Nat.reduceAdd] at h ⊢
  rw [gd_t (by decide), ct_93 h (by decide) (by simp [va_up]), cV_s]
  try simp only [Nat.reduceAdd]
  have h := ((((((h.s).r (a := 46) (by decide) 4 (some 47)).s).r (a := 46) (by decide) 5 (some 48)).s).r (a := 46) (by decide) 6 (some 49))
  try simp only [Nat.reduceAdd] at h
  rw [gd_t (by refine ⟨?_, ?_, ?_⟩ <;> simp only [k_St, n_St] <;> first | (simp [va_up]; done) | (simp only [va_up]; decide)), lt_s_, wR_St]
  have h := h.r (a := 24) (by decide) 5 (some 46)
  simp only [show ((5 : Int32)).toNatClampNeg = 5 from rfl, show ((5 : Int32) + 1) = 6 from rfl]
  refine q_of (e_16_13 _ _ _ _) ?_
  rw [if_neg (by decide), gd_t (by rw [k_St]; simp [va_up, hk]), r_St, show (u2 (u2 (u2 (u2 (u2 (u2 (u2 (u2 (u2 (u2 (u2 (u2 (u2 (u2 (u2 (u2 (u2 (u2 (u2 (u2 (u2 (u2 (u2 (u2 (u2 (u2 R 23 0 (some 24)) 23 1 (some 25)) 26 4 (some 27)) 26 5 (some 28)) 26 6 (some 29)) 24 0 (some 26)) 30 4 (some 31)) 30 5 (some 32)) 30 6 (some 33)) 24 1 (some 30)) 34 4 (some 35)) 34 5 (some 36)) 34 6 (some 37)) 24 2 (some 34)) 38 4 (some 39)) 38 5 (some 40)) 38 6 (some 41)) 24 3 (some 38)) 42 4 (some 43)) 42 5 (some 44)) 42 6 (some 45)) 24 4 (some 42)) 46 4 (some 47)) 46 5 (some 48)) 46 6 (some 49)) 24 5 (some 46)) 23 0 = some 24 by simp [u2]]
  rw [show (some 24 : Option Nat).map (fun b => z + b) = some (z + 24) from rfl, nR_s]
  rw [gd_t (by decide), lt_s_, z_St, wN_F h]
  have h := h.s
  simp only [Nat.reduceAdd] at h ⊢
  rw [gd_t (by decide), ct_93 h (by decide) (by simp [va_up]), cV_s]
  try simp only [Nat.reduceAdd]
  have h := ((((((h.s).r (a := 50) (by decide) 4 (some 51)).s).r (a := 50) (by decide) 5 (some 52)).s).r (a := 50) (by decide) 6 (some 53))
  try simp only [Nat.reduceAdd] at h
  rw [gd_t (by refine ⟨?_, ?_, ?_⟩ <;> simp only [k_St, n_St] <;> first | (simp [va_up]; done) | (simp only [va_up]; decide)), lt_s_, wR_St]
  have h := h.r (a := 24) (by decide) 6 (some 50)
  simp only [show ((6 : Int32)).toNatClampNeg = 6 from rfl, show ((6 : Int32) + 1) = 7 from rfl]
  refine q_of (e_16_13 _ _ _ _) ?_
  rw [if_neg (by decide), gd_t (by rw [k_St]; simp [va_up, hk]), r_St, show (u2 (u2 (u2 (u2 (u2 (u2 (u2 (u2 (u2 (u2 (u2 (u2 (u2 (u2 (u2 (u2 (u2 (u2 (u2 (u2 (u2 (u2 (u2 (u2 (u2 (u2 (u2 (u2 (u2 (u2 R 23 0 (some 24)) 23 1 (some 25)) 26 4 (some 27)) 26 5 (some 28)) 26 6 (some 29)) 24 0 (some 26)) 30 4 (some 31)) 30 5 (some 32)) 30 6 (some 33)) 24 1 (some 30)) 34 4 (some 35)) 34 5 (some 36)) 34 6 (some 37)) 24 2 (some 34)) 38 4 (some 39)) 38 5 (some 40)) 38 6 (some 41)) 24 3 (some 38)) 42 4 (some 43)) 42 5 (some 44)) 42 6 (some 45)) 24 4 (some 42)) 46 4 (some 47)) 46 5 (some 48)) 46 6 (some 49)) 24 5 (some 46)) 50 4 (some 51)) 50 5 (some 52)) 50 6 (some 53)) 24 6 (some 50)) 23 0 = some 24 by simp [u2]]
  rw [show (some 24 : Option Nat).map (fun b => z + b) = some (z + 24) from rfl, nR_s]
  rw [gd_t (by decide), lt_s_, z_St, wN_F h]
  have h := h.s
  simp only [Nat.reduceAdd] at h ⊢
  rw [gd_t (by decide), ct_93 h (by decide) (by simp [va_up]), cV_s]
  try simp only [Nat.reduceAdd]
  have h := ((((((h.s).r (a := 54) (by decide) 4 (some 55)).s).r (a := 54) (by decide) 5 (some 56)).s).r (a := 54) (by decide) 6 (some 57))
  try simp only [Nat.reduceAdd] at h
  rw [gd_t (by refine ⟨?_, ?_, ?_⟩ <;> simp only [k_St, n_St] <;> first | (simp [va_up]; done) | (simp only [va_up]; decide)), lt_s_, wR_St]
  have h := h.r (a := 24) (by decide) 7 (some 54)
  simp only [show ((7 : Int32)).toNatClampNeg = 7 from rfl, show ((7 : Int32) + 1) = 8 from rfl]
  refine q_of (e_16_13 _ _ _ _) ?_
  rw [if_neg (by decide), gd_t (by rw [k_St]; simp [va_up, hk]), r_St, show (u2 (u2 (u2 (u2 (u2 (u2 (u2 (u2 (u2 (u2 (u2 (u2 (u2 (u2 (u2 (u2 (u2 (u2 (u2 (u2 (u2 (u2 (u2 (u2 (u2 (u2 (u2 (u2 (u2 (u2 (u2 (u2 (u2 (u2 R 23 0 (some 24)) 23 1 (some 25)) 26 4 (some 27)) 26 5 (some 28)) 26 6 (some 29)) 24 0 (some 26)) 30 4 (some 31)) 30 5 (some 32)) 30 6 (some 33)) 24 1 (some 30)) 34 4 (some 35)) 34 5 (some 36)) 34 6 (some 37)) 24 2 (some 34)) 38 4 (some 39)) 38 5 (some 40)) 38 6 (some 41)) 24 3 (some 38)) 42 4 (some 43)) 42 5 (some 44)) 42 6 (some 45)) 24 4 (some 42)) 46 4 (some 47)) 46 5 (some 48)) 46 6 (some 49)) 24 5 (some 46)) 50 4 (some 51)) 50 5 (some 52)) 50 6 (some 53)) 24 6 (some 50)) 54 4 (some 55)) 54 5 (some 56)) 54 6 (some 57)) 24 7 (some 54)) 23 0 = some 24 by simp [u2]]
  rw [show (some 24 : Option Nat).map (fun b => z + b) = some (z + 24) from rfl, nR_s]
  rw [gd_t (by decide), lt_s_, z_St, wN_F h]
  have h := h.s
  simp only [Nat.reduceAdd] at h ⊢
  rw [gd_t (by decide), ct_93 h (by decide) (by simp [va_up]), cV_s]
  try simp only [Nat.reduceAdd]
  have h := ((((((h.s).r (a := 58) (by decide) 4 (some 59)).s).r (a := 58) (by decide) 5 (some 60)).s).r (a := 58) (by decide) 6 (some 61))
  try simp only [Nat.reduceAdd] at h
  rw [gd_t (by refine ⟨?_, ?_, ?_⟩ <;> simp only [k_St, n_St] <;> first | (simp [va_up]; done) | (simp only [va_up]; decide)), lt_s_, wR_St]
  have h := h.r (a := 24) (by decide) 8 (some 58)
  simp only [show ((8 : Int32)).toNatClampNeg = 8 from rfl, show ((8 : Int32) + 1) = 9 from rfl]
  refine q_of (e_16_13 _ _ _ _) ?_
  rw [if_neg (by decide), gd_t (by rw [k_St]; simp [va_up, hk]), r_St, show (u2 (u2 (u2 (u2 (u2 (u2 (u2 (u2 (u2 (u2 (u2 (u2 (u2 (u2 (u2 (u2 (u2 (u2 (u2 (u2 (u2 (u2 (u2 (u2 (u2 (u2 (u2 (u2 (u2 (u2 (u2 (u2 (u2 (u2 (u2 (u2 (u2 (u2 R 23 0 (some 24)) 23 1 (some 25)) 26 4 (some 27)) 26 5 (some 28)) 26 6 (some 29)) 24 0 (some 26)) 30 4 (some 31)) 30 5 (some 32)) 30 6 (some 33)) 24 1 (some 30)) 34 4 (some 35)) 34 5 (some 36)) 34 6 (some 37)) 24 2 (some 34)) 38 4 (some 39)) 38 5 (some 40)) 38 6 (some 41)) 24 3 (some 38)) 42 4 (some 43)) 42 5 (some 44)) 42 6 (some 45)) 24 4 (some 42)) 46 4 (some 47)) 46 5 (some 48)) 46 6 (some 49)) 24 5 (some 46)) 50 4 (some 51)) 50 5 (some 52)) 50 6 (some 53)) 24 6 (some 50)) 54 4 (some 55)) 54 5 (some 56)) 54 6 (some 57)) 24 7 (some 54)) 58 4 (some 59)) 58 5 (some 60)) 58 6 (some 61)) 24 8 (some 58)) 23 0 = some 24 by simp [u2]]
  rw [show (some 24 : Option Nat).map (fun b => z + b) = some (z + 24) from rfl, nR_s]
  rw [gd_t (by decide), lt_s_, z_St, wN_F h]
  have h := h.s
  simp only [Nat.reduceAdd] at h ⊢
  rw [gd_t (by decide), ct_93 h (by decide) (by simp [va_up]), cV_s]
  try simp only [Nat.reduceAdd]
  have h := ((((((h.s).r (a := 62) (by decide) 4 (some 63)).s).r (a := 62) (by decide) 5 (some 64)).s).r (a := 62) (by decide) 6 (some 65))
  try simp only [Nat.reduceAdd] at h
  rw [gd_t (by refine ⟨?_, ?_, ?_⟩ <;> simp only [k_St, n_St] <;> first | (simp [va_up]; done) | (simp only [va_up]; decide)), lt_s_, wR_St]
  have h := h.r (a := 24) (by decide) 9 (some 62)
  simp only [show ((9 : Int32)).toNatClampNeg = 9 from rfl, show ((9 : Int32) + 1) = 10 from rfl]
  refine q_of (e_16_13 _ _ _ _) ?_
  rw [if_neg (by decide), gd_t (by rw [k_St]; simp [va_up, hk]), r_St, show (u2 (u2 (u2 (u2 (u2 (u2 (u2 (u2 (u2 (u2 (u2 (u2 (u2 (u2 (u2 (u2 (u2 (u2 (u2 (u2 (u2 (u2 (u2 (u2 (u2 (u2 (u2 (u2 (u2 (u2 (u2 (u2 (u2 (u2 (u2 (u2 (u2 (u2 (u2 (u2 (u2 (u2 R 23 0 (some 24)) 23 1 (some 25)) 26 4 (some 27)) 26 5 (some 28)) 26 6 (some 29)) 24 0 (some 26)) 30 4 (some 31)) 30 5 (some 32)) 30 6 (some 33)) 24 1 (some 30)) 34 4 (some 35)) 34 5 (some 36)) 34 6 (some 37)) 24 2 (some 34)) 38 4 (some 39)) 38 5 (some 40)) 38 6 (some 41)) 24 3 (some 38)) 42 4 (some 43)) 42 5 (some 44)) 42 6 (some 45)) 24 4 (some 42)) 46 4 (some 47)) 46 5 (some 48)) 46 6 (some 49)) 24 5 (some 46)) 50 4 (some 51)) 50 5 (some 52)) 50 6 (some 53)) 24 6 (some 50)) 54 4 (some 55)) 54 5 (some 56)) 54 6 (some 57)) 24 7 (some 54)) 58 4 (some 59)) 58 5 (some 60)) 58 6 (some 61)) 24 8 (some 58)) 62 4 (some 63)) 62 5 (some 64)) 62 6 (some 65)) 24 9 (some 62)) 23 0 = some 24 by simp [u2]]
  rw [show (some 24 : Option Nat).map (fun b => z + b) = some (z + 24) from rfl, nR_s]
  rw [gd_t (by decide), lt_s_, z_St, wN_F h]
  have h := h.s
  simp only [Nat.reduceAdd] at h ⊢
  rw [gd_t (by decide), ct_93 h (by decide) (by simp [va_up]), cV_s]
  try simp only [Nat.reduceAdd]
  have h := ((((((h.s).r (a := 66) (by decide) 4 (some 67)).s).r (a := 66) (by decide) 5 (some 68)).s).r (a := 66) (by decide) 6 (some 69))
  try simp only [Nat.reduceAdd] at h
  rw [gd_t (by refine ⟨?_, ?_, ?_⟩ <;> simp only [k_St, n_St] <;> first | (simp [va_up]; done) | (simp only [va_up]; decide)), lt_s_, wR_St]
  have h := h.r (a := 24) (by decide) 10 (some 66)
  simp only [show ((10 : Int32)).toNatClampNeg = 10 from rfl, show ((10 : Int32) + 1) = 11 from rfl]
  refine q_of (e_16_13 _ _ _ _) ?_
  rw [if_neg (by decide), gd_t (by rw [k_St]; simp [va_up, hk]), r_St, show (u2 (u2 (u2 (u2 (u2 (u2 (u2 (u2 (u2 (u2 (u2 (u2 (u2 (u2 (u2 (u2 (u2 (u2 (u2 (u2 (u2 (u2 (u2 (u2 (u2 (u2 (u2 (u2 (u2 (u2 (u2 (u2 (u2 (u2 (u2 (u2 (u2 (u2 (u2 (u2 (u2 (u2 (u2 (u2 (u2 (u2 R 23 0 (some 24)) 23 1 (some 25)) 26 4 (some 27)) 26 5 (some 28)) 26 6 (some 29)) 24 0 (some 26)) 30 4 (some 31)) 30 5 (some 32)) 30 6 (some 33)) 24 1 (some 30)) 34 4 (some 35)) 34 5 (some 36)) 34 6 (some 37)) 24 2 (some 34)) 38 4 (some 39)) 38 5 (some 40)) 38 6 (some 41)) 24 3 (some 38)) 42 4 (some 43)) 42 5 (some 44)) 42 6 (some 45)) 24 4 (some 42)) 46 4 (some 47)) 46 5 (some 48)) 46 6 (some 49)) 24 5 (some 46)) 50 4 (some 51)) 50 5 (some 52)) 50 6 (some 53)) 24 6 (some 50)) 54 4 (some 55)) 54 5 (some 56)) 54 6 (some 57)) 24 7 (some 54)) 58 4 (some 59)) 58 5 (some 60)) 58 6 (some 61)) 24 8 (some 58)) 62 4 (some 63)) 62 5 (some 64)) 62 6 (some 65)) 24 9 (some 62)) 66 4 (some 67)) 66 5 (some 68)) 66 6 (some 69)) 24 10 (some 66)) 23 0 = some 24 by simp [u2]]
  rw [show (some 24 : Option Nat).map (fun b => z + b) = some (z + 24) from rfl, nR_s]
  rw [gd_t (by decide), lt_s_, z_St, wN_F h]
  have h := h.s
  simp only [Nat.reduceAdd] at h ⊢
  rw [gd_t (by decide), ct_93 h (by decide) (by simp [va_up]), cV_s]
  try simp only [Nat.reduceAdd]
  have h := ((((((h.s).r (a := 70) (by decide) 4 (some 71)).s).r (a := 70) (by decide) 5 (some 72)).s).r (a := 70) (by decide) 6 (some 73))
  try simp only [Nat.reduceAdd] at h
  rw [gd_t (by refine ⟨?_, ?_, ?_⟩ <;> simp only [k_St, n_St] <;> first | (simp [va_up]; done) | (simp only [va_up]; decide)), lt_s_, wR_St]
  have h := h.r (a := 24) (by decide) 11 (some 70)
  simp only [show ((11 : Int32)).toNatClampNeg = 11 from rfl, show ((11 : Int32) + 1) = 12 from rfl]
  refine q_of (e_16_13 _ _ _ _) ?_
  rw [if_neg (by decide), gd_t (by rw [k_St]; simp [va_up, hk]), r_St, show (u2 (u2 (u2 (u2 (u2 (u2 (u2 (u2 (u2 (u2 (u2 (u2 (u2 (u2 (u2 (u2 (u2 (u2 (u2 (u2 (u2 (u2 (u2 (u2 (u2 (u2 (u2 (u2 (u2 (u2 (u2 (u2 (u2 (u2 (u2 (u2 (u2 (u2 (u2 (u2 (u2 (u2 (u2 (u2 (u2 (u2 (u2 (u2 (u2 (u2 R 23 0 (some 24)) 23 1 (some 25)) 26 4 (some 27)) 26 5 (some 28)) 26 6 (some 29)) 24 0 (some 26)) 30 4 (some 31)) 30 5 (some 32)) 30 6 (some 33)) 24 1 (some 30)) 34 4 (some 35)) 34 5 (some 36)) 34 6 (some 37)) 24 2 (some 34)) 38 4 (some 39)) 38 5 (some 40)) 38 6 (some 41)) 24 3 (some 38)) 42 4 (some 43)) 42 5 (some 44)) 42 6 (some 45)) 24 4 (some 42)) 46 4 (some 47)) 46 5 (some 48)) 46 6 (some 49)) 24 5 (some 46)) 50 4 (some 51)) 50 5 (some 52)) 50 6 (some 53)) 24 6 (some 50)) 54 4 (some 55)) 54 5 (some 56)) 54 6 (some 57)) 24 7 (some 54)) 58 4 (some 59)) 58 5 (some 60)) 58 6 (some 61)) 24 8 (some 58)) 62 4 (some 63)) 62 5 (some 64)) 62 6 (some 65)) 24 9 (some 62)) 66 4 (some 67)) 66 5 (some 68)) 66 6 (some 69)) 24 10 (some 66)) 70 4 (some 71)) 70 5 (some 72)) 70 6 (some 73)) 24 11 (some 70)) 23 0 = some 24 by simp [u2]]
  rw [show (some 24 : Option Nat).map (fun b => z + b) = some (z + 24) from rfl, nR_s]
  rw [gd_t (by decide), lt_s_, z_St, wN_F h]
  have h := h.s
  simp only [Nat.reduceAdd] at h ⊢
  rw [gd_t (by decide), ct_93 h (by decide) (by simp [va_up]), cV_s]
  try simp only [Nat.reduceAdd]
  have h := ((((((h.s).r (a := 74) (by decide) 4 (some 75)).s).r (a := 74) (by decide) 5 (some 76)).s).r (a := 74) (by decide) 6 (some 77))
  try simp only [Nat.reduceAdd] at h
  rw [gd_t (by refine ⟨?_, ?_, ?_⟩ <;> simp only [k_St, n_St] <;> first | (simp [va_up]; done) | (simp only [va_up]; decide)), lt_s_, wR_St]
  have h := h.r (a := 24) (by decide) 12 (some 74)
  simp only [show ((12 : Int32)).toNatClampNeg = 12 from rfl, show ((12 : Int32) + 1) = 13 from rfl]
  refine q_of (e_16_13 _ _ _ _) ?_
  rw [if_neg (by decide), gd_t (by rw [k_St]; simp [va_up, hk]), r_St, show (u2 (u2 (u2 (u2 (u2 (u2 (u2 (u2 (u2 (u2 (u2 (u2 (u2 (u2 (u2 (u2 (u2 (u2 (u2 (u2 (u2 (u2 (u2 (u2 (u2 (u2 (u2 (u2 (u2 (u2 (u2 (u2 (u2 (u2 (u2 (u2 (u2 (u2 (u2 (u2 (u2 (u2 (u2 (u2 (u2 (u2 (u2 (u2 (u2 (u2 (u2 (u2 (u2 (u2 R 23 0 (some 24)) 23 1 (some 25)) 26 4 (some 27)) 26 5 (some 28)) 26 6 (some 29)) 24 0 (some 26)) 30 4 (some 31)) 30 5 (some 32)) 30 6 (some 33)) 24 1 (some 30)) 34 4 (some 35)) 34 5 (some 36)) 34 6 (some 37)) 24 2 (some 34)) 38 4 (some 39)) 38 5 (some 40)) 38 6 (some 41)) 24 3 (some 38)) 42 4 (some 43)) 42 5 (some 44)) 42 6 (some 45)) 24 4 (some 42)) 46 4 (some 47)) 46 5 (some 48)) 46 6 (some 49)) 24 5 (some 46)) 50 4 (some 51)) 50 5 (some 52)) 50 6 (some 53)) 24 6 (some 50)) 54 4 (some 55)) 54 5 (some 56)) 54 6 (some 57)) 24 7 (some 54)) 58 4 (some 59)) 58 5 (some 60)) 58 6 (some 61)) 24 8 (some 58)) 62 4 (some 63)) 62 5 (some 64)) 62 6 (some 65)) 24 9 (some 62)) 66 4 (some 67)) 66 5 (some 68)) 66 6 (some 69)) 24 10 (some 66)) 70 4 (some 71)) 70 5 (some 72)) 70 6 (some 73)) 24 11 (some 70)) 74 4 (some 75)) 74 5 (some 76)) 74 6 (some 77)) 24 12 (some 74)) 23 0 = some 24 by simp [u2]]
  rw [show (some 24 : Option Nat).map (fun b => z + b) = some (z + 24) from rfl, nR_s]
  rw [gd_t (by decide), lt_s_, z_St, wN_F h]
  have h := h.s
  simp only [Nat.reduceAdd] at h ⊢
  rw [gd_t (by decide), ct_93 h (by decide) (by simp [va_up]), cV_s]
  try simp only [Nat.reduceAdd]
  have h := ((((((h.s).r (a := 78) (by decide) 4 (some 79)).s).r (a := 78) (by decide) 5 (some 80)).s).r (a := 78) (by decide) 6 (some 81))
  try simp only [Nat.reduceAdd] at h
  rw [gd_t (by refine ⟨?_, ?_, ?_⟩ <;> simp only [k_St, n_St] <;> first | (simp [va_up]; done) | (simp only [va_up]; decide)), lt_s_, wR_St]
  have h := h.r (a := 24) (by decide) 13 (some 78)
  simp only [show ((13 : Int32)).toNatClampNeg = 13 from rfl, show ((13 : Int32) + 1) = 14 from rfl]
  refine q_of (e_16_13 _ _ _ _) ?_
  rw [if_neg (by decide), gd_t (by rw [k_St]; simp [va_up, hk]), r_St, show (u2 (u2 (u2 (u2 (u2 (u2 (u2 (u2 (u2 (u2 (u2 (u2 (u2 (u2 (u2 (u2 (u2 (u2 (u2 (u2 (u2 (u2 (u2 (u2 (u2 (u2 (u2 (u2 (u2 (u2 (u2 (u2 (u2 (u2 (u2 (u2 (u2 (u2 (u2 (u2 (u2 (u2 (u2 (u2 (u2 (u2 (u2 (u2 (u2 (u2 (u2 (u2 (u2 (u2 (u2 (u2 (u2 (u2 R 23 0 (some 24)) 23 1 (some 25)) 26 4 (some 27)) 26 5 (some 28)) 26 6 (some 29)) 24 0 (some 26)) 30 4 (some 31)) 30 5 (some 32)) 30 6 (some 33)) 24 1 (some 30)) 34 4 (some 35)) 34 5 (some 36)) 34 6 (some 37)) 24 2 (some 34)) 38 4 (some 39)) 38 5 (some 40)) 38 6 (some 41)) 24 3 (some 38)) 42 4 (some 43)) 42 5 (some 44)) 42 6 (some 45)) 24 4 (some 42)) 46 4 (some 47)) 46 5 (some 48)) 46 6 (some 49)) 24 5 (some 46)) 50 4 (some 51)) 50 5 (some 52)) 50 6 (some 53)) 24 6 (some 50)) 54 4 (some 55)) 54 5 (some 56)) 54 6 (some 57)) 24 7 (some 54)) 58 4 (some 59)) 58 5 (some 60)) 58 6 (some 61)) 24 8 (some 58)) 62 4 (some 63)) 62 5 (some 64)) 62 6 (some 65)) 24 9 (some 62)) 66 4 (some 67)) 66 5 (some 68)) 66 6 (some 69)) 24 10 (some 66)) 70 4 (some 71)) 70 5 (some 72)) 70 6 (some 73)) 24 11 (some 70)) 74 4 (some 75)) 74 5 (some 76)) 74 6 (some 77)) 24 12 (some 74)) 78 4 (some 79)) 78 5 (some 80)) 78 6 (some 81)) 24 13 (some 78)) 23 0 = some 24 by simp [u2]]
  rw [show (some 24 : Option Nat).map (fun b => z + b) = some (z + 24) from rfl, nR_s]
  rw [gd_t (by decide), lt_s_, z_St, wN_F h]
  have h := h.s
  simp only [Nat.reduceAdd] at h ⊢
  rw [gd_t (by decide), ct_93 h (by decide) (by simp [va_up]), cV_s]
  try simp only [Nat.reduceAdd]
  have h := ((((((h.s).r (a := 82) (by decide) 4 (some 83)).s).r (a := 82) (by decide) 5 (some 84)).s).r (a := 82) (by decide) 6 (some 85))
  try simp only [Nat.reduceAdd] at h
  rw [gd_t (by refine ⟨?_, ?_, ?_⟩ <;> simp only [k_St, n_St] <;> first | (simp [va_up]; done) | (simp only [va_up]; decide)), lt_s_, wR_St]
  have h := h.r (a := 24) (by decide) 14 (some 82)
  simp only [show ((14 : Int32)).toNatClampNeg = 14 from rfl, show ((14 : Int32) + 1) = 15 from rfl]
  refine q_of (e_16_13 _ _ _ _) ?_
  rw [if_neg (by decide), gd_t (by rw [k_St]; simp [va_up, hk]), r_St, show (u2 (u2 (u2 (u2 (u2 (u2 (u2 (u2 (u2 (u2 (u2 (u2 (u2 (u2 (u2 (u2 (u2 (u2 (u2 (u2 (u2 (u2 (u2 (u2 (u2 (u2 (u2 (u2 (u2 (u2 (u2 (u2 (u2 (u2 (u2 (u2 (u2 (u2 (u2 (u2 (u2 (u2 (u2 (u2 (u2 (u2 (u2 (u2 (u2 (u2 (u2 (u2 (u2 (u2 (u2 (u2 (u2 (u2 (u2 (u2 (u2 (u2 R 23 0 (some 24)) 23 1 (some 25)) 26 4 (some 27)) 26 5 (some 28)) 26 6 (some 29)) 24 0 (some 26)) 30 4 (some 31)) 30 5 (some 32)) 30 6 (some 33)) 24 1 (some 30)) 34 4 (some 35)) 34 5 (some 36)) 34 6 (some 37)) 24 2 (some 34)) 38 4 (some 39)) 38 5 (some 40)) 38 6 (some 41)) 24 3 (some 38)) 42 4 (some 43)) 42 5 (some 44)) 42 6 (some 45)) 24 4 (some 42)) 46 4 (some 47)) 46 5 (some 48)) 46 6 (some 49)) 24 5 (some 46)) 50 4 (some 51)) 50 5 (some 52)) 50 6 (some 53)) 24 6 (some 50)) 54 4 (some 55)) 54 5 (some 56)) 54 6 (some 57)) 24 7 (some 54)) 58 4 (some 59)) 58 5 (some 60)) 58 6 (some 61)) 24 8 (some 58)) 62 4 (some 63)) 62 5 (some 64)) 62 6 (some 65)) 24 9 (some 62)) 66 4 (some 67)) 66 5 (some 68)) 66 6 (some 69)) 24 10 (some 66)) 70 4 (some 71)) 70 5 (some 72)) 70 6 (some 73)) 24 11 (some 70)) 74 4 (some 75)) 74 5 (some 76)) 74 6 (some 77)) 24 12 (some 74)) 78 4 (some 79)) 78 5 (some 80)) 78 6 (some 81)) 24 13 (some 78)) 82 4 (some 83)) 82 5 (some 84)) 82 6 (some 85)) 24 14 (some 82)) 23 0 = some 24 by simp [u2]]
  rw [show (some 24 : Option Nat).map (fun b => z + b) = some (z + 24) from rfl, nR_s]
  rw [gd_t (by decide), lt_s_, z_St, wN_F h]
  have h := h.s
  simp only [Nat.reduceAdd] at h ⊢
  rw [gd_t (by decide), ct_93 h (by decide) (by simp [va_up]), cV_s]
  try simp only [Nat.reduceAdd]
  have h := ((((((h.s).r (a := 86) (by decide) 4 (some 87)).s).r (a := 86) (by decide) 5 (some 88)).s).r (a := 86) (by decide) 6 (some 89))
  try simp only [Nat.reduceAdd] at h
  rw [gd_t (by refine ⟨?_, ?_, ?_⟩ <;> simp only [k_St, n_St] <;> first | (simp [va_up]; done) | (simp only [va_up]; decide)), lt_s_, wR_St]
  have h := h.r (a := 24) (by decide) 15 (some 86)
  simp only [show ((15 : Int32)).toNatClampNeg = 15 from rfl, show ((15 : Int32) + 1) = 16 from rfl]
  refine q_of (e_16_13 _ _ _ _) ?_
  rw [if_pos (by decide)]
  refine q_of (e_16_28 _ _ _ _) ?_
  rw [if_neg (by decide), gd_t (by rw [k_St]; simp [va_up, hk]), r_St, show (u2 (u2 (u2 (u2 (u2 (u2 (u2 (u2 (u2 (u2 (u2 (u2 (u2 (u2 (u2 (u2 (u2 (u2 (u2 (u2 (u2 (u2 (u2 (u2 (u2 (u2 (u2 (u2 (u2 (u2 (u2 (u2 (u2 (u2 (u2 (u2 (u2 (u2 (u2 (u2 (u2 (u2 (u2 (u2 (u2 (u2 (u2 (u2 (u2 (u2 (u2 (u2 (u2 (u2 (u2 (u2 (u2 (u2 (u2 (u2 (u2 (u2 (u2 (u2 (u2 (u2 R 23 0 (some 24)) 23 1 (some 25)) 26 4 (some 27)) 26 5 (some 28)) 26 6 (some 29)) 24 0 (some 26)) 30 4 (some 31)) 30 5 (some 32)) 30 6 (some 33)) 24 1 (some 30)) 34 4 (some 35)) 34 5 (some 36)) 34 6 (some 37)) 24 2 (some 34)) 38 4 (some 39)) 38 5 (some 40)) 38 6 (some 41)) 24 3 (some 38)) 42 4 (some 43)) 42 5 (some 44)) 42 6 (some 45)) 24 4 (some 42)) 46 4 (some 47)) 46 5 (some 48)) 46 6 (some 49)) 24 5 (some 46)) 50 4 (some 51)) 50 5 (some 52)) 50 6 (some 53)) 24 6 (some 50)) 54 4 (some 55)) 54 5 (some 56)) 54 6 (some 57)) 24 7 (some 54)) 58 4 (some 59)) 58 5 (some 60)) 58 6 (some 61)) 24 8 (some 58)) 62 4 (some 63)) 62 5 (some 64)) 62 6 (some 65)) 24 9 (some 62)) 66 4 (some 67)) 66 5 (some 68)) 66 6 (some 69)) 24 10 (some 66)) 70 4 (some 71)) 70 5 (some 72)) 70 6 (some 73)) 24 11 (some 70)) 74 4 (some 75)) 74 5 (some 76)) 74 6 (some 77)) 24 12 (some 74)) 78 4 (some 79)) 78 5 (some 80)) 78 6 (some 81)) 24 13 (some 78)) 82 4 (some 83)) 82 5 (some 84)) 82 6 (some 85)) 24 14 (some 82)) 86 4 (some 87)) 86 5 (some 88)) 86 6 (some 89)) 24 15 (some 86)) 23 1 = some 25 by simp [u2]]
  rw [show (some 25 : Option Nat).map (fun b => z + b) = some (z + 25) from rfl, nR_s]
  rw [gd_t (by decide), lt_s_, z_St, wN_F h]
  have h := h.s
  simp only [Nat.reduceAdd] at h ⊢
  rw [gd_t (by decide), ct_93 h (by decide) (by simp [va_up]), cV_s]
  try simp only [Nat.reduceAdd]
  have h := ((((((h.s).r (a := 90) (by decide) 4 (some 91)).s).r (a := 90) (by decide) 5 (some 92)).s).r (a := 90) (by decide) 6 (some 93))
  try simp only [Nat.reduceAdd] at h
  rw [gd_t (by refine ⟨?_, ?_, ?_⟩ <;> simp only [k_St, n_St] <;> first | (simp [va_up]; done) | (simp only [va_up]; decide)), lt_s_, wR_St]
  have h := h.r (a := 25) (by decide) 0 (some 90)
  simp only [show ((0 : Int32)).toNatClampNeg = 0 from rfl, show ((0 : Int32) + 1) = 1 from rfl]
  refine q_of (e_16_28 _ _ _ _) ?_
  rw [if_neg (by decide), gd_t (by rw [k_St]; simp [va_up, hk]), r_St, show (u2 (u2 (u2 (u2 (u2 (u2 (u2 (u2 (u2 (u2 (u2 (u2 (u2 (u2 (u2 (u2 (u2 (u2 (u2 (u2 (u2 (u2 (u2 (u2 (u2 (u2 (u2 (u2 (u2 (u2 (u2 (u2 (u2 (u2 (u2 (u2 (u2 (u2 (u2 (u2 (u2 (u2 (u2 (u2 (u2 (u2 (u2 (u2 (u2 (u2 (u2 (u2 (u2 (u2 (u2 (u2 (u2 (u2 (u2 (u2 (u2 (u2 (u2 (u2 (u2 (u2 (u2 (u2 (u2 (u2 R 23 0 (some 24)) 23 1 (some 25)) 26 4 (some 27)) 26 5 (some 28)) 26 6 (some 29)) 24 0 (some 26)) 30 4 (some 31)) 30 5 (some 32)) 30 6 (some 33)) 24 1 (some 30)) 34 4 (some 35)) 34 5 (some 36)) 34 6 (some 37)) 24 2 (some 34)) 38 4 (some 39)) 38 5 (some 40)) 38 6 (some 41)) 24 3 (some 38)) 42 4 (some 43)) 42 5 (some 44)) 42 6 (some 45)) 24 4 (some 42)) 46 4 (some 47)) 46 5 (some 48)) 46 6 (some 49)) 24 5 (some 46)) 50 4 (some 51)) 50 5 (some 52)) 50 6 (some 53)) 24 6 (some 50)) 54 4 (some 55)) 54 5 (some 56)) 54 6 (some 57)) 24 7 (some 54)) 58 4 (some 59)) 58 5 (some 60)) 58 6 (some 61)) 24 8 (some 58)) 62 4 (some 63)) 62 5 (some 64)) 62 6 (some 65)) 24 9 (some 62)) 66 4 (some 67)) 66 5 (some 68)) 66 6 (some 69)) 24 10 (some 66)) 70 4 (some 71)) 70 5 (some 72)) 70 6 (some 73)) 24 11 (some 70)) 74 4 (some 75)) 74 5 (some 76)) 74 6 (some 77)) 24 12 (some 74)) 78 4 (some 79)) 78 5 (some 80)) 78 6 (some 81)) 24 13 (some 78)) 82 4 (some 83)) 82 5 (some 84)) 82 6 (some 85)) 24 14 (some 82)) 86 4 (some 87)) 86 5 (some 88)) 86 6 (some 89)) 24 15 (some 86)) 90 4 (some 91)) 90 5 (some 92)) 90 6 (some 93)) 25 0 (some 90)) 23 1 = some 25 by simp [u2]]
  rw [show (some 25 : Option Nat).map (fun b => z + b) = some (z + 25) from rfl, nR_s]
  rw [gd_t (by decide), lt_s_, z_St, wN_F h]
  have h := h.s
  simp only [Nat.reduceAdd] at h ⊢
  rw [gd_t (by decide), ct_93 h (by decide) (by simp [va_up]), cV_s]
  try simp only [Nat.reduceAdd]
  have h := ((((((h.s).r (a := 94) (by decide) 4 (some 95)).s).r (a := 94) (by decide) 5 (some 96)).s).r (a := 94) (by decide) 6 (some 97))
  try simp only [Nat.reduceAdd] at h
  rw [gd_t (by refine ⟨?_, ?_, ?_⟩ <;> simp only [k_St, n_St] <;> first | (simp [va_up]; done) | (simp only [va_up]; decide)), lt_s_, wR_St]
  have h := h.r (a := 25) (by decide) 1 (some 94)
  simp only [show ((1 : Int32)).toNatClampNeg = 1 from rfl, show ((1 : Int32) + 1) = 2 from rfl]
  refine q_of (e_16_28 _ _ _ _) ?_
  rw [if_neg (by decide), gd_t (by rw [k_St]; simp [va_up, hk]), r_St, show (u2 (u2 (u2 (u2 (u2 (u2 (u2 (u2 (u2 (u2 (u2 (u2 (u2 (u2 (u2 (u2 (u2 (u2 (u2 (u2 (u2 (u2 (u2 (u2 (u2 (u2 (u2 (u2 (u2 (u2 (u2 (u2 (u2 (u2 (u2 (u2 (u2 (u2 (u2 (u2 (u2 (u2 (u2 (u2 (u2 (u2 (u2 (u2 (u2 (u2 (u2 (u2 (u2 (u2 (u2 (u2 (u2 (u2 (u2 (u2 (u2 (u2 (u2 (u2 (u2 (u2 (u2 (u2 (u2 (u2 (u2 (u2 (u2 (u2 R 23 0 (some 24)) 23 1 (some 25)) 26 4 (some 27)) 26 5 (some 28)) 26 6 (some 29)) 24 0 (some 26)) 30 4 (some 31)) 30 5 (some 32)) 30 6 (some 33)) 24 1 (some 30)) 34 4 (some 35)) 34 5 (some 36)) 34 6 (some 37)) 24 2 (some 34)) 38 4 (some 39)) 38 5 (some 40)) 38 6 (some 41)) 24 3 (some 38)) 42 4 (some 43)) 42 5 (some 44)) 42 6 (some 45)) 24 4 (some 42)) 46 4 (some 47)) 46 5 (some 48)) 46 6 (some 49)) 24 5 (some 46)) 50 4 (some 51)) 50 5 (some 52)) 50 6 (some 53)) 24 6 (some 50)) 54 4 (some 55)) 54 5 (some 56)) 54 6 (some 57)) 24 7 (some 54)) 58 4 (some 59)) 58 5 (some 60)) 58 6 (some 61)) 24 8 (some 58)) 62 4 (some 63)) 62 5 (some 64)) 62 6 (some 65)) 24 9 (some 62)) 66 4 (some 67)) 66 5 (some 68)) 66 6 (some 69)) 24 10 (some 66)) 70 4 (some 71)) 70 5 (some 72)) 70 6 (some 73)) 24 11 (some 70)) 74 4 (some 75)) 74 5 (some 76)) 74 6 (some 77)) 24 12 (some 74)) 78 4 (some 79)) 78 5 (some 80)) 78 6 (some 81)) 24 13 (some 78)) 82 4 (some 83)) 82 5 (some 84)) 82 6 (some 85)) 24 14 (some 82)) 86 4 (some 87)) 86 5 (some 88)) 86 6 (some 89)) 24 15 (some 86)) 90 4 (some 91)) 90 5 (some 92)) 90 6 (some 93)) 25 0 (some 90)) 94 4 (some 95)) 94 5 (some 96)) 94 6 (some 97)) 25 1 (some 94)) 23 1 = some 25 by simp [u2]]
  rw [show (some 25 : Option Nat).map (fun b => z + b) = some (z + 25) from rfl, nR_s]
  rw [gd_t (by decide), lt_s_, z_St, wN_F h]
  have h := h.s
  simp only [Nat.reduceAdd] at h ⊢
  rw [gd_t (by decide), ct_93 h (by decide) (by simp [va_up]), cV_s]
  try simp only [Nat.reduceAdd]
  have h := ((((((h.s).r (a := 98) (by decide) 4 (some 99)).s).r (a := 98) (by decide) 5 (some 100)).s).r (a := 98) (by decide) 6 (some 101))
  try simp only [Nat.reduceAdd] at h
  rw [gd_t (by refine ⟨?_, ?_, ?_⟩ <;> simp only [k_St, n_St] <;> first | (simp [va_up]; done) | (simp only [va_up]; decide)), lt_s_, wR_St]
  have h := h.r (a := 25) (by decide) 2 (some 98)
  simp only [show ((2 : Int32)).toNatClampNeg = 2 from rfl, show ((2 : Int32) + 1) = 3 from rfl]
  refine q_of (e_16_28 _ _ _ _) ?_
  rw [if_pos (by decide)]
theorem fr_16 (h : Fr 24 R I J) : Fr 102 (u2 (u2 (u2 (u2 (u2 (u2 (u2 (u2 (u2 (u2 (u2 (u2 (u2 (u2 (u2 (u2 (u2 (u2 (u2 (u2 (u2 (u2 (u2 (u2 (u2 (u2 (u2 (u2 (u2 (u2 (u2 (u2 (u2 (u2 (u2 (u2 (u2 (u2 (u2 (u2 (u2 (u2 (u2 (u2 (u2 (u2 (u2 (u2 (u2 (u2 (u2 (u2 (u2 (u2 (u2 (u2 (u2 (u2 (u2 (u2 (u2 (u2 (u2 (u2 (u2 (u2 (u2 (u2 (u2 (u2 (u2 (u2 (u2 (u2 (u2 (u2 (u2 (u2 R 23 0 (some 24)) 23 1 (some 25)) 26 4 (some 27)) 26 5 (some 28)) 26 6 (some 29)) 24 0 (some 26)) 30 4 (some 31)) 30 5 (some 32)) 30 6 (some 33)) 24 1 (some 30)) 34 4 (some 35)) 34 5 (some 36)) 34 6 (some 37)) 24 2 (some 34)) 38 4 (some 39)) 38 5 (some 40)) 38 6 (some 41)) 24 3 (some 38)) 42 4 (some 43)) 42 5 (some 44)) 42 6 (some 45)) 24 4 (some 42)) 46 4 (some 47)) 46 5 (some 48)) 46 6 (some 49)) 24 5 (some 46)) 50 4 (some 51)) 50 5 (some 52)) 50 6 (some 53)) 24 6 (some 50)) 54 4 (some 55)) 54 5 (some 56)) 54 6 (some 57)) 24 7 (some 54)) 58 4 (some 59)) 58 5 (some 60)) 58 6 (some 61)) 24 8 (some 58)) 62 4 (some 63)) 62 5 (some 64)) 62 6 (some 65)) 24 9 (some 62)) 66 4 (some 67)) 66 5 (some 68)) 66 6 (some 69)) 24 10 (some 66)) 70 4 (some 71)) 70 5 (some 72)) 70 6 (some 73)) 24 11 (some 70)) 74 4 (some 75)) 74 5 (some 76)) 74 6 (some 77)) 24 12 (some 74)) 78 4 (some 79)) 78 5 (some 80)) 78 6 (some 81)) 24 13 (some 78)) 82 4 (some 83)) 82 5 (some 84)) 82 6 (some 85)) 24 14 (some 82)) 86 4 (some 87)) 86 5 (some 88)) 86 6 (some 89)) 24 15 (some 86)) 90 4 (some 91)) 90 5 (some 92)) 90 6 (some 93)) 25 0 (some 90)) 94 4 (some 95)) 94 5 (some 96)) 94 6 (some 97)) 25 1 (some 94)) 98 4 (some 99)) 98 5 (some 100)) 98 6 (some 101)) 25 2 (some 98)) I J := fun m hm => by
  obtain ⟨h1, h2, h3⟩ := h m (by omega)
  refine ⟨?_, h2, h3⟩
  rw [u2_a _ _ _ _ _ (by omega), u2_a _ _ _ _ _ (by omega), u2_a _ _ _ _ _ (by omega), u2_a _ _ _ _ _ (by omega), u2_a _ _ _ _ _ (by omega), u2_a _ _ _ _ _ (by omega), u2_a _ _ _ _ _ (by omega), u2_a _ _ _ _ _ (by omega), u2_a _ _ _ _ _ (by omega), u2_a _ _ _ _ _ (by omega), u2_a _ _ _ _ _ (by omega), u2_a _ _ _ _ _ (by omega), u2_a _ _ _ _ _ (by omega), u2_a _ _ _ _ _ (by omega), u2_a _ _ _ _ _ (by omega), u2_a _ _ _ _ _ (by omega), u2_a _ _ _ _ _ (by omega), u2_a _ _ _ _ _ (by omega), u2_a _ _ _ _ _ (by omega), u2_a _ _ _ _ _ (by omega), u2_a _ _ _ _ _ (by omega), u2_a _ _ _ _ _ (by omega), u2_a _ _ _ _ _ (by omega), u2_a _ _ _ _ _ (by omega), u2_a _ _ _ _ _ (by omega), u2_a _ _ _ _ _ (by omega), u2_a _ _ _ _ _ (by omega), u2_a _ _ _ _ _ (by omega), u2_a _ _ _ _ _ (by omega), u2_a _ _ _ _ _ (by omega), u2_a _ _ _ _ _ (by omega), u2_a _ _ _ _ _ (by omega), u2_a _ _ _ _ _ (by omega), u2_a _ _ _ _ _ (by omega), u2_a _ _ _ _ _ (by omega), u2_a _ _ _ _ _ (by omega), u2_a _ _ _ _ _ (by omega), u2_a _ _ _ _ _ (by omega), u2_a _ _ _ _ _ (by omega), u2_a _ _ _ _ _ (by omega), u2_a _ _ _ _ _ (by omega), u2_a _ _ _ _ _ (by omega), u2_a _ _ _ _ _ (by omega), u2_a _ _ _ _ _ (by omega), u2_a _ _ _ _ _ (by omega), u2_a _ _ _ _ _ (by omega), u2_a _ _ _ _ _ (by omega), u2_a _ _ _ _ _ (by omega), u2_a _ _ _ _ _ (by omega), u2_a _ _ _ _ _ (by omega), u2_a _ _ _ _ _ (by omega), u2_a _ _ _ _ _ (by omega), u2_a _ _ _ _ _ (by omega), u2_a _ _ _ _ _ (by omega), u2_a _ _ _ _ _ (by omega), u2_a _ _ _ _ _ (by omega), u2_a _ _ _ _ _ (by omega), u2_a _ _ _ _ _ (by omega), u2_a _ _ _ _ _ (by omega), u2_a _ _ _ _ _ (by omega), u2_a _ _ _ _ _ (by omega), u2_a _ _ _ _ _ (by omega), u2_a _ _ _ _ _ (by omega), u2_a _ _ _ _ _ (by omega), u2_a _ _ _ _ _ (by omega), u2_a _ _ _ _ _ (by omega), u2_a _ _ _ _ _ (by omega), u2_a _ _ _ _ _ (by omega), u2_a _ _ _ _ _ (by omega), u2_a _ _ _ _ _ (by omega), u2_a _ _ _ _ _ (by omega), u2_a _ _ _ _ _ (by omega), u2_a _ _ _ _ _ (by omega), u2_a _ _ _ _ _ (by omega), u2_a _ _ _ _ _ (by omega), u2_a _ _ _ _ _ (by omega), u2_a _ _ _ _ _ (by omega), u2_a _ _ _ _ _ (by omega)]
  exact h1
set_option maxHeartbeats 4000000 in
theorem ct_111 (h : Fr 1 R I J) (hk : K 0 = 9) : Ca lx 111 [.ref (z + 0)] (St z E 1 K N R I J) = some (none, St z E 132 (va_up (va_up (va_up (va_up (va_up (va_up (va_up (va_up (va_up (va_up (va_up (va_up (va_up (va_up (va_up (va_up (va_up (va_up (va_up (va_up (va_up (va_up (va_up (va_up (va_up (va_up (va_up (va_up (va_up (va_up (va_up (va_up (va_up (va_up (va_up (va_up (va_up (va_up (va_up (va_up (va_up (va_up (va_up (va_up (va_up (va_up (va_up (va_up (va_up (va_up (va_up (va_up (va_up (va_up (va_up (va_up (va_up (va_up (va_up (va_up (va_up (va_up (va_up (va_up (va_up (va_up (va_up (va_up (va_up (va_up (va_up (va_up (va_up (va_up (va_up (va_up (va_up (va_up (va_up (va_up (va_up (va_up (va_up (va_up (va_up (va_up (va_up (va_up (va_up (va_up (va_up (va_up (va_up (va_up (va_up (va_up (va_up (va_up (va_up (va_up (va_up (va_up (va_up (va_up (va_up (va_up (va_up (va_up (va_up (va_up (va_up (va_up (va_up (va_up (va_up (va_up (va_up (va_up (va_up (va_up (va_up (va_up (va_up (va_up (va_up (va_up (va_up (va_up (va_up (va_up (va_up K 1 3) 2 6) 3 13) 4 2) 5 13) 6 13) 7 13) 8 13) 9 13) 10 13) 11 13) 12 13) 13 14) 14 14) 15 8) 16 13) 17 13) 18 13) 19 8) 20 13) 21 13) 22 13) 23 1) 24 16) 25 16) 26 8) 27 13) 28 13) 29 13) 30 8) 31 13) 32 13) 33 13) 34 8) 35 13) 36 13) 37 13) 38 8) 39 13) 40 13) 41 13) 42 8) 43 13) 44 13) 45 13) 46 8) 47 13) 48 13) 49 13) 50 8) 51 13) 52 13) 53 13) 54 8) 55 13) 56 13) 57 13) 58 8) 59 13) 60 13) 61 13) 62 8) 63 13) 64 13) 65 13) 66 8) 67 13) 68 13) 69 13) 70 8) 71 13) 72 13) 73 13) 74 8) 75 13) 76 13) 77 13) 78 8) 79 13) 80 13) 81 13) 82 8) 83 13) 84 13) 85 13) 86 8) 87 13) 88 13) 89 13) 90 8) 91 13) 92 13) 93 13) 94 8) 95 13) 96 13) 97 13) 98 8) 99 13) 100 13) 101 13) 102 7) 103 13) 104 0) 105 13) 106 13) 107 14) 108 4) 109 13) 110 13) 111 13) 112 13) 113 5) 114 2) 115 13) 116 13) 117 13) 118 13) 119 13) 120 13) 121 13) 122 13) 123 2) 124 13) 125 13) 126 13) 127 13) 128 13) 129 13) 130 13) 131 13) (va_up (va_up (va_up (va_up (va_up (va_up (va_up (va_up (va_up (va_up (va_up (va_up (va_up (va_up (va_up (va_up (va_up (va_up (va_up (va_up (va_up (va_up (va_up (va_up (va_up (va_up (va_up (va_up (va_up (va_up (va_up (va_up (va_up (va_up (va_up (va_up (va_up (va_up (va_up (va_up (va_up (va_up (va_up (va_up (va_up (va_up (va_up (va_up (va_up (va_up (va_up (va_up (va_up (va_up (va_up (va_up (va_up (va_up (va_up (va_up (va_up (va_up (va_up (va_up (va_up (va_up (va_up (va_up (va_up (va_up (va_up (va_up (va_up (va_up (va_up (va_up (va_up (va_up (va_up (va_up (va_up (va_up (va_up (va_up (va_up (va_up (va_up (va_up (va_up (va_up (va_up (va_up (va_up (va_up (va_up (va_up (va_up (va_up (va_up (va_up (va_up (va_up (va_up (va_up (va_up (va_up (va_up (va_up (va_up (va_up (va_up (va_up (va_up (va_up (va_up (va_up (va_up (va_up (va_up (va_up (va_up (va_up (va_up (va_up (va_up (va_up (va_up (va_up (va_up (va_up (va_up N 1 0) 2 0) 3 700) 4 0) 5 64) 6 4) 7 4) 8 4) 9 36) 10 6) 11 6) 12 6) 13 4) 14 4) 15 0) 16 4) 17 4) 18 4) 19 0) 20 4) 21 4) 22 4) 23 0) 24 16) 25 3) 26 0) 27 4) 28 4) 29 4) 30 0) 31 4) 32 4) 33 4) 34 0) 35 4) 36 4) 37 4) 38 0) 39 4) 40 4) 41 4) 42 0) 43 4) 44 4) 45 4) 46 0) 47 4) 48 4) 49 4) 50 0) 51 4) 52 4) 53 4) 54 0) 55 4) 56 4) 57 4) 58 0) 59 4) 60 4) 61 4) 62 0) 63 4) 64 4) 65 4) 66 0) 67 4) 68 4) 69 4) 70 0) 71 4) 72 4) 73 4) 74 0) 75 4) 76 4) 77 4) 78 0) 79 4) 80 4) 81 4) 82 0) 83 4) 84 4) 85 4) 86 0) 87 4) 88 4) 89 4) 90 0) 91 4) 92 4) 93 4) 94 0) 95 4) 96 4) 97 4) 98 0) 99 4) 100 4) 101 4) 102 0) 103 64) 104 0) 105 128) 106 128) 107 5) 108 0) 109 320) 110 320) 111 64) 112 15) 113 0) 114 0) 115 64) 116 4) 117 4) 118 4) 119 36) 120 6) 121 6) 122 6) 123 0) 124 64) 125 4) 126 4) 127 4) 128 36) 129 6) 130 6) 131 6) (u2 (u2 (u2 (u2 (u2 (u2 (u2 (u2 (u2 (u2 (u2 (u2 (u2 (u2 (u2 (u2 (u2 (u2 (u2 (u2 (u2 (u2 (u2 (u2 (u2 (u2 (u2 (u2 (u2 (u2 (u2 (u2 (u2 (u2 (u2 (u2 (u2 (u2 (u2 (u2 (u2 (u2 (u2 (u2 (u2 (u2 (u2 (u2 (u2 (u2 (u2 (u2 (u2 (u2 (u2 (u2 (u2 (u2 (u2 (u2 (u2 (u2 (u2 (u2 (u2 (u2 (u2 (u2 (u2 (u2 (u2 (u2 (u2 (u2 (u2 (u2 (u2 (u2 (u2 (u2 (u2 (u2 (u2 (u2 (u2 (u2 (u2 (u2 (u2 (u2 (u2 (u2 (u2 (u2 (u2 (u2 (u2 (u2 (u2 (u2 (u2 (u2 (u2 (u2 (u2 (u2 (u2 (u2 (u2 (u2 (u2 (u2 (u2 (u2 (u2 (u2 (u2 (u2 (u2 (u2 (u2 (u2 (u2 (u2 (u2 (u2 (u2 (u2 (u2 (u2 (u2 R 2 0 (some 3)) 1 0 (some 2)) 4 11 (some 5)) 4 12 (some 6)) 4 13 (some 7)) 4 14 (some 8)) 4 15 (some 9)) 4 16 (some 10)) 4 17 (some 11)) 4 18 (some 12)) 1 3 (some 4)) 1 7 (some 13)) 1 8 (some 14)) 0 0 (some 1)) 15 4 (some 16)) 15 5 (some 17)) 15 6 (some 18)) 0 1 (some 15)) 19 4 (some 20)) 19 5 (some 21)) 19 6 (some 22)) 0 2 (some 19)) 23 0 (some 24)) 23 1 (some 25)) 26 4 (some 27)) 26 5 (some 28)) 26 6 (some 29)) 24 0 (some 26)) 30 4 (some 31)) 30 5 (some 32)) 30 6 (some 33)) 24 1 (some 30)) 34 4 (some 35)) 34 5 (some 36)) 34 6 (some 37)) 24 2 (some 34)) 38 4 (some 39)) 38 5 (some 40)) 38 6 (some 41)) 24 3 (some 38)) 42 4 (some 43)) 42 5 (some 44)) 42 6 (some 45)) 24 4 (some 42)) 46 4 (some 47)) 46 5 (some 48)) 46 6 (some 49)) 24 5 (some 46)) 50 4 (some 51)) 50 5 (some 52)) 50 6 (some 53)) 24 6 (some 50)) 54 4 (some 55)) 54 5 (some 56)) 54 6 (some 57)) 24 7 (some 54)) 58 4 (some 59)) 58 5 (some 60)) 58 6 (some 61)) 24 8 (some 58)) 62 4 (some 63)) 62 5 (some 64)) 62 6 (some 65)) 24 9 (some 62)) 66 4 (some 67)) 66 5 (some 68)) 66 6 (some 69)) 24 10 (some 66)) 70 4 (some 71)) 70 5 (some 72)) 70 6 (some 73)) 24 11 (some 70)) 74 4 (some 75)) 74 5 (some 76)) 74 6 (some 77)) 24 12 (some 74)) 78 4 (some 79)) 78 5 (some 80)) 78 6 (some 81)) 24 13 (some 78)) 82 4 (some 83)) 82 5 (some 84)) 82 6 (some 85)) 24 14 (some 82)) 86 4 (some 87)) 86 5 (some 88)) 86 6 (some 89)) 24 15 (some 86)) 90 4 (some 91)) 90 5 (some 92)) 90 6 (some 93)) 25 0 (some 90)) 94 4 (some 95)) 94 5 (some 96)) 94 6 (some 97)) 25 1 (some 94)) 98 4 (some 99)) 98 5 (some 100)) 98 6 (some 101)) 25 2 (some 98)) 0 3 (some 23)) 102 0 (some 103)) 0 4 (some 102)) 104 0 (some 105)) 104 1 (some 106)) 104 3 (some 107)) 0 5 (some 104)) 108 0 (some 109)) 108 1 (some 110)) 108 3 (some 111)) 108 4 (some 112)) 0 6 (some 108)) 0 7 (some 113)) 114 11 (some 115)) 114 12 (some 116)) 114 13 (some 117)) 114 14 (some 118)) 114 15 (some 119)) 114 16 (some 120)) 114 17 (some 121)) 114 18 (some 122)) 0 8 (some 114)) 123 11 (some 124)) 123 12 (some 125)) 123 13 (some 126)) 123 14 (some 127)) 123 15 (some 128)) 123 16 (some 129)) 123 17 (some 130)) 123 18 (some 131)) 0 9 (some 123)) (u2 (u2 I 0 10 0) 0 11 0) J) := by
  refine q_of (f_111 _ _) ?_
  rw [gd_t (by decide), lt_s_, z_St, wN_F h]
  have h := h.s
  simp only [Nat.reduceAdd] at h ⊢
  rw [gd_t (by decide), ct_34 h (by simp [va_up]), cV_s]
  try simp only [Nat.reduceAdd]
  have h := fr_34 h
  try simp only [Nat.reduceAdd] at h
  rw [gd_t (by rw [k_St]; simp [va_up, hk]), lt_s_, wR_St]
  have h := h.r (a := 0) (by decide) 0 (some 1)
  rw [gd_t (by decide), lt_s_, z_St, wN_F h]
  have h := h.s
  simp only [Nat.reduceAdd] at h ⊢
  rw [gd_t (by decide), ct_93 h (by decide) (by simp [va_up]), cV_s]
  try simp only [Nat.reduceAdd]
  have h := ((((((h.s).r (a := 15) (by decide) 4 (some 16)).s).r (a := 15) (by decide) 5 (some 17)).s).r (a := 15) (by decide) 6 (some 18))
  try simp only [Nat.reduceAdd] at h
  rw [gd_t (by rw [k_St]; simp [va_up, hk]), lt_s_, wR_St]
  have h := h.r (a := 0) (by decide) 1 (some 15)
  rw [gd_t (by decide), lt_s_, z_St, wN_F h]
  have h := h.s
  simp only [Nat.reduceAdd] at h ⊢
  rw [gd_t (by decide), ct_93 h (by decide) (by simp [va_up]), cV_s]
  try simp only [Nat.reduceAdd]
  have h := ((((((h.s).r (a := 19) (by decide) 4 (some 20)).s).r (a := 19) (by decide) 5 (some 21)).s).r (a := 19) (by decide) 6 (some 22))
  try simp only [Nat.reduceAdd] at h
  rw [gd_t (by rw [k_St]; simp [va_up, hk]), lt_s_, wR_St]
  have h := h.r (a := 0) (by decide) 2 (some 19)
  rw [gd_t (by decide), lt_s_, z_St, wN_F h]
  have h := h.s
  simp only [Nat.reduceAdd] at h ⊢
  rw [gd_t (by decide), ct_16 h (by simp [va_up]), cV_s]
  try simp only [Nat.reduceAdd]
  have h := fr_16 h
  try simp only [Nat.reduceAdd] at h
  rw [gd_t (by rw [k_St]; simp [va_up, hk]), lt_s_, wR_St]
  have h := h.r (a := 0) (by decide) 3 (some 23)
  rw [gd_t (by decide), lt_s_, z_St, wN_F h]
  have h := h.s
  simp only [Nat.reduceAdd] at h ⊢
  rw [gd_t (by decide), ct_87 h (by decide) (by simp [va_up]), cV_s]
  try simp only [Nat.reduceAdd]
  have h := ((h.s).r (a := 102) (by decide) 0 (some 103))
  try simp only [Nat.reduceAdd] at h
  rw [gd_t (by rw [k_St]; simp [va_up, hk]), lt_s_, wR_St]
  have h := h.r (a := 0) (by decide) 4 (some 102)
  rw [gd_t (by decide), lt_s_, z_St, wN_F h]
  have h := h.s
  simp only [Nat.reduceAdd] at h ⊢
  rw [gd_t (by decide), ct_8 h (by decide) (by simp [va_up]), cV_s]
  try simp only [Nat.reduceAdd]
  have h := ((((((h.s).r (a := 104) (by decide) 0 (some 105)).s).r (a := 104) (by decide) 1 (some 106)).s).r (a := 104) (by decide) 3 (some 107))
  try simp only [Nat.reduceAdd] at h
  rw [gd_t (by rw [k_St]; simp [va_up, hk]), lt_s_, wR_St]
  have h := h.r (a := 0) (by decide) 5 (some 104)
  rw [gd_t (by decide), lt_s_, z_St, wN_F h]
  have h := h.s
  simp only [Nat.reduceAdd] at h ⊢
  rw [gd_t (by decide), ct_60 h (by decide) (by simp [va_up]), cV_s]
  try simp only [Nat.reduceAdd]
  have h := ((((((((h.s).r (a := 108) (by decide) 0 (some 109)).s).r (a := 108) (by decide) 1 (some 110)).s).r (a := 108) (by decide) 3 (some 111)).s).r (a := 108) (by decide) 4 (some 112))
  try simp only [Nat.reduceAdd] at h
  rw [gd_t (by rw [k_St]; simp [va_up, hk]), lt_s_, wR_St]
  have h := h.r (a := 0) (by decide) 6 (some 108)
  rw [gd_t (by decide), lt_s_, z_St, wN_F h]
  have h := h.s
  simp only [Nat.reduceAdd] at h ⊢
  rw [show ∀ S : aH, Ca lx 70 [.ref (z + 113)] S = some (none, S) from fun S => q_of (f_70 _ _) rfl, cV_s]
  rw [gd_t (by rw [k_St]; simp [va_up, hk]), lt_s_, wR_St]
  have h := h.r (a := 0) (by decide) 7 (some 113)
  rw [gd_t (by decide), lt_s_, z_St, wN_F h]
  have h := h.s
  simp only [Nat.reduceAdd] at h ⊢
  rw [gd_t (by decide), ct_22 h (by decide) (by simp [va_up]), cV_s]
  try simp only [Nat.reduceAdd]
  have h := ((((((((((((((((h.s).r (a := 114) (by decide) 11 (some 115)).s).r (a := 114) (by decide) 12 (some 116)).s).r (a := 114) (by decide) 13 (some 117)).s).r (a := 114) (by decide) 14 (some 118)).s).r (a := 114) (by decide) 15 (some 119)).s).r (a := 114) (by decide) 16 (some 120)).s).r (a := 114) (by decide) 17 (some 121)).s).r (a := 114) (by decide) 18 (some 122))
  try simp only [Nat.reduceAdd] at h
  rw [gd_t (by rw [k_St]; simp [va_up, hk]), lt_s_, wR_St]
  have h := h.r (a := 0) (by decide) 8 (some 114)
  rw [gd_t (by decide), lt_s_, z_St, wN_F h]
  have h := h.s
  simp only [Nat.reduceAdd] at h ⊢
  rw [gd_t (by decide), ct_22 h (by decide) (by simp [va_up]), cV_s]
  try simp only [Nat.reduceAdd]
  have h := ((((((((((((((((h.s).r (a := 123) (by decide) 11 (some 124)).s).r (a := 123) (by decide) 12 (some 125)).s).r (a := 123) (by decide) 13 (some 126)).s).r (a := 123) (by decide) 14 (some 127)).s).r (a := 123) (by decide) 15 (some 128)).s).r (a := 123) (by decide) 16 (some 129)).s).r (a := 123) (by decide) 17 (some 130)).s).r (a := 123) (by decide) 18 (some 131))
  try simp only [Nat.reduceAdd] at h
  rw [gd_t (by rw [k_St]; simp [va_up, hk]), lt_s_, wR_St]
  have h := h.r (a := 0) (by decide) 9 (some 123)
  rw [gd_t (by rw [k_St]; simp [va_up, hk]), gd_t (by decide), lt_s_, wI_St]
  rw [gd_t (by rw [k_St]; simp [va_up, hk]), lt_s_, wI_St]
theorem fr_111 (h : Fr 1 R I J) : Fr 132 (u2 (u2 (u2 (u2 (u2 (u2 (u2 (u2 (u2 (u2 (u2 (u2 (u2 (u2 (u2 (u2 (u2 (u2 (u2 (u2 (u2 (u2 (u2 (u2 (u2 (u2 (u2 (u2 (u2 (u2 (u2 (u2 (u2 (u2 (u2 (u2 (u2 (u2 (u2 (u2 (u2 (u2 (u2 (u2 (u2 (u2 (u2 (u2 (u2 (u2 (u2 (u2 (u2 (u2 (u2 (u2 (u2 (u2 (u2 (u2 (u2 (u2 (u2 (u2 (u2 (u2 (u2 (u2 (u2 (u2 (u2 (u2 (u2 (u2 (u2 (u2 (u2 (u2 (u2 (u2 (u2 (u2 (u2 (u2 (u2 (u2 (u2 (u2 (u2 (u2 (u2 (u2 (u2 (u2 (u2 (u2 (u2 (u2 (u2 (u2 (u2 (u2 (u2 (u2 (u2 (u2 (u2 (u2 (u2 (u2 (u2 (u2 (u2 (u2 (u2 (u2 (u2 (u2 (u2 (u2 (u2 (u2 (u2 (u2 (u2 (u2 (u2 (u2 (u2 (u2 (u2 R 2 0 (some 3)) 1 0 (some 2)) 4 11 (some 5)) 4 12 (some 6)) 4 13 (some 7)) 4 14 (some 8)) 4 15 (some 9)) 4 16 (some 10)) 4 17 (some 11)) 4 18 (some 12)) 1 3 (some 4)) 1 7 (some 13)) 1 8 (some 14)) 0 0 (some 1)) 15 4 (some 16)) 15 5 (some 17)) 15 6 (some 18)) 0 1 (some 15)) 19 4 (some 20)) 19 5 (some 21)) 19 6 (some 22)) 0 2 (some 19)) 23 0 (some 24)) 23 1 (some 25)) 26 4 (some 27)) 26 5 (some 28)) 26 6 (some 29)) 24 0 (some 26)) 30 4 (some 31)) 30 5 (some 32)) 30 6 (some 33)) 24 1 (some 30)) 34 4 (some 35)) 34 5 (some 36)) 34 6 (some 37)) 24 2 (some 34)) 38 4 (some 39)) 38 5 (some 40)) 38 6 (some 41)) 24 3 (some 38)) 42 4 (some 43)) 42 5 (some 44)) 42 6 (some 45)) 24 4 (some 42)) 46 4 (some 47)) 46 5 (some 48)) 46 6 (some 49)) 24 5 (some 46)) 50 4 (some 51)) 50 5 (some 52)) 50 6 (some 53)) 24 6 (some 50)) 54 4 (some 55)) 54 5 (some 56)) 54 6 (some 57)) 24 7 (some 54)) 58 4 (some 59)) 58 5 (some 60)) 58 6 (some 61)) 24 8 (some 58)) 62 4 (some 63)) 62 5 (some 64)) 62 6 (some 65)) 24 9 (some 62)) 66 4 (some 67)) 66 5 (some 68)) 66 6 (some 69)) 24 10 (some 66)) 70 4 (some 71)) 70 5 (some 72)) 70 6 (some 73)) 24 11 (some 70)) 74 4 (some 75)) 74 5 (some 76)) 74 6 (some 77)) 24 12 (some 74)) 78 4 (some 79)) 78 5 (some 80)) 78 6 (some 81)) 24 13 (some 78)) 82 4 (some 83)) 82 5 (some 84)) 82 6 (some 85)) 24 14 (some 82)) 86 4 (some 87)) 86 5 (some 88)) 86 6 (some 89)) 24 15 (some 86)) 90 4 (some 91)) 90 5 (some 92)) 90 6 (some 93)) 25 0 (some 90)) 94 4 (some 95)) 94 5 (some 96)) 94 6 (some 97)) 25 1 (some 94)) 98 4 (some 99)) 98 5 (some 100)) 98 6 (some 101)) 25 2 (some 98)) 0 3 (some 23)) 102 0 (some 103)) 0 4 (some 102)) 104 0 (some 105)) 104 1 (some 106)) 104 3 (some 107)) 0 5 (some 104)) 108 0 (some 109)) 108 1 (some 110)) 108 3 (some 111)) 108 4 (some 112)) 0 6 (some 108)) 0 7 (some 113)) 114 11 (some 115)) 114 12 (some 116)) 114 13 (some 117)) 114 14 (some 118)) 114 15 (some 119)) 114 16 (some 120)) 114 17 (some 121)) 114 18 (some 122)) 0 8 (some 114)) 123 11 (some 124)) 123 12 (some 125)) 123 13 (some 126)) 123 14 (some 127)) 123 15 (some 128)) 123 16 (some 129)) 123 17 (some 130)) 123 18 (some 131)) 0 9 (some 123)) (u2 (u2 I 0 10 0) 0 11 0) J := fun m hm => by
  obtain ⟨h1, h2, h3⟩ := h m (by omega)
  refine ⟨?_, ?_, h3⟩
  · rw [u2_a _ _ _ _ _ (by omega), u2_a _ _ _ _ _ (by omega), u2_a _ _ _ _ _ (by omega), u2_a _ _ _ _ _ (by omega), u2_a _ _ _ _ _ (by omega), u2_a _ _ _ _ _ (by omega), u2_a _ _ _ _ _ (by omega), u2_a _ _ _ _ _ (by omega), u2_a _ _ _ _ _ (by omega), u2_a _ _ _ _ _ (by omega), u2_a _ _ _ _ _ (by omega), u2_a _ _ _ _ _ (by omega), u2_a _ _ _ _ _ (by omega), u2_a _ _ _ _ _ (by omega), u2_a _ _ _ _ _ (by omega), u2_a _ _ _ _ _ (by omega), u2_a _ _ _ _ _ (by omega), u2_a _ _ _ _ _ (by omega), u2_a _ _ _ _ _ (by omega), u2_a _ _ _ _ _ (by omega), u2_a _ _ _ _ _ (by omega), u2_a _ _ _ _ _ (by omega), u2_a _ _ _ _ _ (by omega), u2_a _ _ _ _ _ (by omega), u2_a _ _ _ _ _ (by omega), u2_a _ _ _ _ _ (by omega), u2_a _ _ _ _ _ (by omega), u2_a _ _ _ _ _ (by omega), u2_a _ _ _ _ _ (by omega), u2_a _ _ _ _ _ (by omega), u2_a _ _ _ _ _ (by omega), u2_a _ _ _ _ _ (by omega), u2_a _ _ _ _ _ (by omega), u2_a _ _ _ _ _ (by omega), u2_a _ _ _ _ _ (by omega), u2_a _ _ _ _ _ (by omega), u2_a _ _ _ _ _ (by omega), u2_a _ _ _ _ _ (by omega), u2_a _ _ _ _ _ (by omega), u2_a _ _ _ _ _ (by omega), u2_a _ _ _ _ _ (by omega), u2_a _ _ _ _ _ (by omega), u2_a _ _ _ _ _ (by omega), u2_a _ _ _ _ _ (by omega), u2_a _ _ _ _ _ (by omega), u2_a _ _ _ _ _ (by omega), u2_a _ _ _ _ _ (by omega), u2_a _ _ _ _ _ (by omega), u2_a _ _ _ _ _ (by omega), u2_a _ _ _ _ _ (by omega), u2_a _ _ _ _ _ (by omega), u2_a _ _ _ _ _ (by omega), u2_a _ _ _ _ _ (by omega), u2_a _ _ _ _ _ (by omega), u2_a _ _ _ _ _ (by omega), u2_a _ _ _ _ _ (by omega), u2_a _ _ _ _ _ (by omega), u2_a _ _ _ _ _ (by omega), u2_a _ _ _ _ _ (by omega), u2_a _ _ _ _ _ (by omega), u2_a _ _ _ _ _ (by omega), u2_a _ _ _ _ _ (by omega), u2_a _ _ _ _ _ (by omega), u2_a _ _ _ _ _ (by omega), u2_a _ _ _ _ _ (by omega), u2_a _ _ _ _ _ (by omega), u2_a _ _ _ _ _ (by omega), u2_a _ _ _ _ _ (by omega), u2_a _ _ _ _ _ (by omega), u2_a _ _ _ _ _ (by omega), u2_a _ _ _ _ _ (by omega), u2_a _ _ _ _ _ (by omega), u2_a _ _ _ _ _ (by omega), u2_a _ _ _ _ _ (by omega), u2_a _ _ _ _ _ (by omega), u2_a _ _ _ _ _ (by omega), u2_a _ _ _ _ _ (by omega), u2_a _ _ _ _ _ (by omega), u2_a _ _ _ _ _ (by omega), u2_a _ _ _ _ _ (by omega), u2_a _ _ _ _ _ (by omega), u2_a _ _ _ _ _ (by omega), u2_a _ _ _ _ _ (by omega), u2_a _ _ _ _ _ (by omega), u2_a _ _ _ _ _ (by omega), u2_a _ _ _ _ _ (by omega), u2_a _ _ _ _ _ (by omega), u2_a _ _ _ _ _ (by omega), u2_a _ _ _ _ _ (by omega), u2_a _ _ _ _ _ (by omega), u2_a _ _ _ _ _ (by omega), u2_a _ _ _ _ _ (by omega), u2_a _ _ _ _ _ (by omega), u2_a _ _ _ _ _ (by omega), u2_a _ _ _ _ _ (by omega), u2_a _ _ _ _ _ (by omega), u2_a _ _ _ _ _ (by omega), u2_a _ _ _ _ _ (by omega), u2_a _ _ _ _ _ (by omega), u2_a _ _ _ _ _ (by omega), u2_a _ _ _ _ _ (by omega), u2_a _ _ _ _ _ (by omega), u2_a _ _ _ _ _ (by omega), u2_a _ _ _ _ _ (by omega), u2_a _ _ _ _ _ (by omega), u2_a _ _ _ _ _ (by omega), u2_a _ _ _ _ _ (by omega), u2_a _ _ _ _ _ (by omega), u2_a _ _ _ _ _ (by omega), u2_a _ _ _ _ _ (by omega), u2_a _ _ _ _ _ (by omega), u2_a _ _ _ _ _ (by omega), u2_a _ _ _ _ _ (by omega), u2_a _ _ _ _ _ (by omega), u2_a _ _ _ _ _ (by omega), u2_a _ _ _ _ _ (by omega), u2_a _ _ _ _ _ (by omega), u2_a _ _ _ _ _ (by omega), u2_a _ _ _ _ _ (by omega), u2_a _ _ _ _ _ (by omega), u2_a _ _ _ _ _ (by omega), u2_a _ _ _ _ _ (by omega), u2_a _ _ _ _ _ (by omega), u2_a _ _ _ _ _ (by omega), u2_a _ _ _ _ _ (by omega), u2_a _ _ _ _ _ (by omega), u2_a _ _ _ _ _ (by omega), u2_a _ _ _ _ _ (by omega), u2_a _ _ _ _ _ (by omega), u2_a _ _ _ _ _ (by omega), u2_a _ _ _ _ _ (by omega)]
    exact h1
  · rw [u2_a _ _ _ _ _ (by omega), u2_a _ _ _ _ _ (by omega)]
    exact h2
def K0_ : Nat → Nat := (va_up (va_up (va_up (va_up (va_up (va_up (va_up (va_up (va_up (va_up (va_up (va_up (va_up (va_up (va_up (va_up (va_up (va_up (va_up (va_up (va_up (va_up (va_up (va_up (va_up (va_up (va_up (va_up (va_up (va_up (va_up (va_up (va_up (va_up (va_up (va_up (va_up (va_up (va_up (va_up (va_up (va_up (va_up (va_up (va_up (va_up (va_up (va_up (va_up (va_up (va_up (va_up (va_up (va_up (va_up (va_up (va_up (va_up (va_up (va_up (va_up (va_up (va_up (va_up (va_up (va_up (va_up (va_up (va_up (va_up (va_up (va_up (va_up (va_up (va_up (va_up (va_up (va_up (va_up (va_up (va_up (va_up (va_up (va_up (va_up (va_up (va_up (va_up (va_up (va_up (va_up (va_up (va_up (va_up (va_up (va_up (va_up (va_up (va_up (va_up (va_up (va_up (va_up (va_up (va_up (va_up (va_up (va_up (va_up (va_up (va_up (va_up (va_up (va_up (va_up (va_up (va_up (va_up (va_up (va_up (va_up (va_up (va_up (va_up (va_up (va_up (va_up (va_up (va_up (va_up (va_up (va_up (va_up (va_up (va_up (va_up (va_up (va_up (va_up (va_up (va_up (va_up (va_up (va_up (va_up (va_up (va_up (fun _ => 99) 0 9) 1 3) 2 6) 3 13) 4 2) 5 13) 6 13) 7 13) 8 13) 9 13) 10 13) 11 13) 12 13) 13 14) 14 14) 15 8) 16 13) 17 13) 18 13) 19 8) 20 13) 21 13) 22 13) 23 1) 24 16) 25 16) 26 8) 27 13) 28 13) 29 13) 30 8) 31 13) 32 13) 33 13) 34 8) 35 13) 36 13) 37 13) 38 8) 39 13) 40 13) 41 13) 42 8) 43 13) 44 13) 45 13) 46 8) 47 13) 48 13) 49 13) 50 8) 51 13) 52 13) 53 13) 54 8) 55 13) 56 13) 57 13) 58 8) 59 13) 60 13) 61 13) 62 8) 63 13) 64 13) 65 13) 66 8) 67 13) 68 13) 69 13) 70 8) 71 13) 72 13) 73 13) 74 8) 75 13) 76 13) 77 13) 78 8) 79 13) 80 13) 81 13) 82 8) 83 13) 84 13) 85 13) 86 8) 87 13) 88 13) 89 13) 90 8) 91 13) 92 13) 93 13) 94 8) 95 13) 96 13) 97 13) 98 8) 99 13) 100 13) 101 13) 102 7) 103 13) 104 0) 105 13) 106 13) 107 14) 108 4) 109 13) 110 13) 111 13) 112 13) 113 5) 114 2) 115 13) 116 13) 117 13) 118 13) 119 13) 120 13) 121 13) 122 13) 123 2) 124 13) 125 13) 126 13) 127 13) 128 13) 129 13) 130 13) 131 13) 132 11) 133 12) 134 13) 135 13) 136 13) 137 13) 138 13) 139 15) 140 15) 141 13) 142 13) 143 13) 144 13) 145 13) 146 14)
def N0_ : Nat → Nat := (va_up (va_up (va_up (va_up (va_up (va_up (va_up (va_up (va_up (va_up (va_up (va_up (va_up (va_up (va_up (va_up (va_up (va_up (va_up (va_up (va_up (va_up (va_up (va_up (va_up (va_up (va_up (va_up (va_up (va_up (va_up (va_up (va_up (va_up (va_up (va_up (va_up (va_up (va_up (va_up (va_up (va_up (va_up (va_up (va_up (va_up (va_up (va_up (va_up (va_up (va_up (va_up (va_up (va_up (va_up (va_up (va_up (va_up (va_up (va_up (va_up (va_up (va_up (va_up (va_up (va_up (va_up (va_up (va_up (va_up (va_up (va_up (va_up (va_up (va_up (va_up (va_up (va_up (va_up (va_up (va_up (va_up (va_up (va_up (va_up (va_up (va_up (va_up (va_up (va_up (va_up (va_up (va_up (va_up (va_up (va_up (va_up (va_up (va_up (va_up (va_up (va_up (va_up (va_up (va_up (va_up (va_up (va_up (va_up (va_up (va_up (va_up (va_up (va_up (va_up (va_up (va_up (va_up (va_up (va_up (va_up (va_up (va_up (va_up (va_up (va_up (va_up (va_up (va_up (va_up (va_up (va_up (va_up (va_up (va_up (va_up (va_up (va_up (va_up (va_up (va_up (va_up (va_up (va_up (va_up (va_up (va_up (fun _ => 0) 0 0) 1 0) 2 0) 3 700) 4 0) 5 64) 6 4) 7 4) 8 4) 9 36) 10 6) 11 6) 12 6) 13 4) 14 4) 15 0) 16 4) 17 4) 18 4) 19 0) 20 4) 21 4) 22 4) 23 0) 24 16) 25 3) 26 0) 27 4) 28 4) 29 4) 30 0) 31 4) 32 4) 33 4) 34 0) 35 4) 36 4) 37 4) 38 0) 39 4) 40 4) 41 4) 42 0) 43 4) 44 4) 45 4) 46 0) 47 4) 48 4) 49 4) 50 0) 51 4) 52 4) 53 4) 54 0) 55 4) 56 4) 57 4) 58 0) 59 4) 60 4) 61 4) 62 0) 63 4) 64 4) 65 4) 66 0) 67 4) 68 4) 69 4) 70 0) 71 4) 72 4) 73 4) 74 0) 75 4) 76 4) 77 4) 78 0) 79 4) 80 4) 81 4) 82 0) 83 4) 84 4) 85 4) 86 0) 87 4) 88 4) 89 4) 90 0) 91 4) 92 4) 93 4) 94 0) 95 4) 96 4) 97 4) 98 0) 99 4) 100 4) 101 4) 102 0) 103 64) 104 0) 105 128) 106 128) 107 5) 108 0) 109 320) 110 320) 111 64) 112 15) 113 0) 114 0) 115 64) 116 4) 117 4) 118 4) 119 36) 120 6) 121 6) 122 6) 123 0) 124 64) 125 4) 126 4) 127 4) 128 36) 129 6) 130 6) 131 6) 132 0) 133 700) 134 145) 135 145) 136 2320) 137 435) 138 64) 139 320) 140 64) 141 128) 142 128) 143 320) 144 64) 145 15) 146 1)
def R0_ : Nat → Nat → Option Nat := (u2 (u2 (u2 (u2 (u2 (u2 (u2 (u2 (u2 (u2 (u2 (u2 (u2 (u2 (u2 (u2 (u2 (u2 (u2 (u2 (u2 (u2 (u2 (u2 (u2 (u2 (u2 (u2 (u2 (u2 (u2 (u2 (u2 (u2 (u2 (u2 (u2 (u2 (u2 (u2 (u2 (u2 (u2 (u2 (u2 (u2 (u2 (u2 (u2 (u2 (u2 (u2 (u2 (u2 (u2 (u2 (u2 (u2 (u2 (u2 (u2 (u2 (u2 (u2 (u2 (u2 (u2 (u2 (u2 (u2 (u2 (u2 (u2 (u2 (u2 (u2 (u2 (u2 (u2 (u2 (u2 (u2 (u2 (u2 (u2 (u2 (u2 (u2 (u2 (u2 (u2 (u2 (u2 (u2 (u2 (u2 (u2 (u2 (u2 (u2 (u2 (u2 (u2 (u2 (u2 (u2 (u2 (u2 (u2 (u2 (u2 (u2 (u2 (u2 (u2 (u2 (u2 (u2 (u2 (u2 (u2 (u2 (u2 (u2 (u2 (u2 (u2 (u2 (u2 (u2 (u2 (u2 (u2 (u2 (u2 (u2 (u2 (u2 (u2 (u2 (u2 (u2 (u2 (u2 (fun _ _ => none) 2 0 (some 3)) 1 0 (some 2)) 4 11 (some 5)) 4 12 (some 6)) 4 13 (some 7)) 4 14 (some 8)) 4 15 (some 9)) 4 16 (some 10)) 4 17 (some 11)) 4 18 (some 12)) 1 3 (some 4)) 1 7 (some 13)) 1 8 (some 14)) 0 0 (some 1)) 15 4 (some 16)) 15 5 (some 17)) 15 6 (some 18)) 0 1 (some 15)) 19 4 (some 20)) 19 5 (some 21)) 19 6 (some 22)) 0 2 (some 19)) 23 0 (some 24)) 23 1 (some 25)) 26 4 (some 27)) 26 5 (some 28)) 26 6 (some 29)) 24 0 (some 26)) 30 4 (some 31)) 30 5 (some 32)) 30 6 (some 33)) 24 1 (some 30)) 34 4 (some 35)) 34 5 (some 36)) 34 6 (some 37)) 24 2 (some 34)) 38 4 (some 39)) 38 5 (some 40)) 38 6 (some 41)) 24 3 (some 38)) 42 4 (some 43)) 42 5 (some 44)) 42 6 (some 45)) 24 4 (some 42)) 46 4 (some 47)) 46 5 (some 48)) 46 6 (some 49)) 24 5 (some 46)) 50 4 (some 51)) 50 5 (some 52)) 50 6 (some 53)) 24 6 (some 50)) 54 4 (some 55)) 54 5 (some 56)) 54 6 (some 57)) 24 7 (some 54)) 58 4 (some 59)) 58 5 (some 60)) 58 6 (some 61)) 24 8 (some 58)) 62 4 (some 63)) 62 5 (some 64)) 62 6 (some 65)) 24 9 (some 62)) 66 4 (some 67)) 66 5 (some 68)) 66 6 (some 69)) 24 10 (some 66)) 70 4 (some 71)) 70 5 (some 72)) 70 6 (some 73)) 24 11 (some 70)) 74 4 (some 75)) 74 5 (some 76)) 74 6 (some 77)) 24 12 (some 74)) 78 4 (some 79)) 78 5 (some 80)) 78 6 (some 81)) 24 13 (some 78)) 82 4 (some 83)) 82 5 (some 84)) 82 6 (some 85)) 24 14 (some 82)) 86 4 (some 87)) 86 5 (some 88)) 86 6 (some 89)) 24 15 (some 86)) 90 4 (some 91)) 90 5 (some 92)) 90 6 (some 93)) 25 0 (some 90)) 94 4 (some 95)) 94 5 (some 96)) 94 6 (some 97)) 25 1 (some 94)) 98 4 (some 99)) 98 5 (some 100)) 98 6 (some 101)) 25 2 (some 98)) 0 3 (some 23)) 102 0 (some 103)) 0 4 (some 102)) 104 0 (some 105)) 104 1 (some 106)) 104 3 (some 107)) 0 5 (some 104)) 108 0 (some 109)) 108 1 (some 110)) 108 3 (some 111)) 108 4 (some 112)) 0 6 (some 108)) 0 7 (some 113)) 114 11 (some 115)) 114 12 (some 116)) 114 13 (some 117)) 114 14 (some 118)) 114 15 (some 119)) 114 16 (some 120)) 114 17 (some 121)) 114 18 (some 122)) 0 8 (some 114)) 123 11 (some 124)) 123 12 (some 125)) 123 13 (some 126)) 123 14 (some 127)) 123 15 (some 128)) 123 16 (some 129)) 123 17 (some 130)) 123 18 (some 131)) 0 9 (some 123)) 132 5 (some 133)) 132 16 (some 134)) 132 17 (some 135)) 132 18 (some 136)) 132 19 (some 137)) 132 22 (some 138)) 132 23 (some 139)) 132 24 (some 140)) 132 25 (some 141)) 132 26 (some 142)) 132 28 (some 143)) 132 29 (some 144)) 132 30 (some 145))
def I0_ : Nat → Nat → Int32 := u2 (u2 (u2 (fun _ _ => 0) 0 10 0) 0 11 0) 132 2 (-1)
def KL0 : List Nat := [9, 3, 6, 13, 2, 13, 13, 13, 13, 13, 13, 13, 13, 14, 14, 8, 13, 13, 13, 8, 13, 13, 13, 1, 16, 16, 8, 13, 13, 13, 8, 13, 13, 13, 8, 13, 13, 13, 8, 13, 13, 13, 8, 13, 13, 13, 8, 13, 13, 13, 8, 13, 13, 13, 8, 13, 13, 13, 8, 13, 13, 13, 8, 13, 13, 13, 8, 13, 13, 13, 8, 13, 13, 13, 8, 13, 13, 13, 8, 13, 13, 13, 8, 13, 13, 13, 8, 13, 13, 13, 8, 13, 13, 13, 8, 13, 13, 13, 8, 13, 13, 13, 7, 13, 0, 13, 13, 14, 4, 13, 13, 13, 13, 5, 2, 13, 13, 13, 13, 13, 13, 13, 13, 2, 13, 13, 13, 13, 13, 13, 13, 13, 11, 12, 13, 13, 13, 13, 13, 15, 15, 13, 13, 13, 13, 13, 14]
def NL0 : List Nat := [0, 0, 0, 700, 0, 64, 4, 4, 4, 36, 6, 6, 6, 4, 4, 0, 4, 4, 4, 0, 4, 4, 4, 0, 16, 3, 0, 4, 4, 4, 0, 4, 4, 4, 0, 4, 4, 4, 0, 4, 4, 4, 0, 4, 4, 4, 0, 4, 4, 4, 0, 4, 4, 4, 0, 4, 4, 4, 0, 4, 4, 4, 0, 4, 4, 4, 0, 4, 4, 4, 0, 4, 4, 4, 0, 4, 4, 4, 0, 4, 4, 4, 0, 4, 4, 4, 0, 4, 4, 4, 0, 4, 4, 4, 0, 4, 4, 4, 0, 4, 4, 4, 0, 64, 0, 128, 128, 5, 0, 320, 320, 64, 15, 0, 0, 64, 4, 4, 4, 36, 6, 6, 6, 0, 64, 4, 4, 4, 36, 6, 6, 6, 0, 700, 145, 145, 2320, 435, 64, 320, 64, 128, 128, 320, 64, 15, 1]
def RL0 : List (Nat × Nat × Nat) := [(2, 0, 3), (1, 0, 2), (4, 11, 5), (4, 12, 6), (4, 13, 7), (4, 14, 8), (4, 15, 9), (4, 16, 10), (4, 17, 11), (4, 18, 12), (1, 3, 4), (1, 7, 13), (1, 8, 14), (0, 0, 1), (15, 4, 16), (15, 5, 17), (15, 6, 18), (0, 1, 15), (19, 4, 20), (19, 5, 21), (19, 6, 22), (0, 2, 19), (23, 0, 24), (23, 1, 25), (26, 4, 27), (26, 5, 28), (26, 6, 29), (24, 0, 26), (30, 4, 31), (30, 5, 32), (30, 6, 33), (24, 1, 30), (34, 4, 35), (34, 5, 36), (34, 6, 37), (24, 2, 34), (38, 4, 39), (38, 5, 40), (38, 6, 41), (24, 3, 38), (42, 4, 43), (42, 5, 44), (42, 6, 45), (24, 4, 42), (46, 4, 47), (46, 5, 48), (46, 6, 49), (24, 5, 46), (50, 4, 51), (50, 5, 52), (50, 6, 53), (24, 6, 50), (54, 4, 55), (54, 5, 56), (54, 6, 57), (24, 7, 54), (58, 4, 59), (58, 5, 60), (58, 6, 61), (24, 8, 58), (62, 4, 63), (62, 5, 64), (62, 6, 65), (24, 9, 62), (66, 4, 67), (66, 5, 68), (66, 6, 69), (24, 10, 66), (70, 4, 71), (70, 5, 72), (70, 6, 73), (24, 11, 70), (74, 4, 75), (74, 5, 76), (74, 6, 77), (24, 12, 74), (78, 4, 79), (78, 5, 80), (78, 6, 81), (24, 13, 78), (82, 4, 83), (82, 5, 84), (82, 6, 85), (24, 14, 82), (86, 4, 87), (86, 5, 88), (86, 6, 89), (24, 15, 86), (90, 4, 91), (90, 5, 92), (90, 6, 93), (25, 0, 90), (94, 4, 95), (94, 5, 96), (94, 6, 97), (25, 1, 94), (98, 4, 99), (98, 5, 100), (98, 6, 101), (25, 2, 98), (0, 3, 23), (102, 0, 103), (0, 4, 102), (104, 0, 105), (104, 1, 106), (104, 3, 107), (0, 5, 104), (108, 0, 109), (108, 1, 110), (108, 3, 111), (108, 4, 112), (0, 6, 108), (0, 7, 113), (114, 11, 115), (114, 12, 116), (114, 13, 117), (114, 14, 118), (114, 15, 119), (114, 16, 120), (114, 17, 121), (114, 18, 122), (0, 8, 114), (123, 11, 124), (123, 12, 125), (123, 13, 126), (123, 14, 127), (123, 15, 128), (123, 16, 129), (123, 17, 130), (123, 18, 131), (0, 9, 123), (132, 5, 133), (132, 16, 134), (132, 17, 135), (132, 18, 136), (132, 19, 137), (132, 22, 138), (132, 23, 139), (132, 24, 140), (132, 25, 141), (132, 26, 142), (132, 28, 143), (132, 29, 144), (132, 30, 145)]
theorem K0_at : ∀ a, a < 147 → K0_ a = KL0.getD a 0 := by decide +kernel
theorem N0_at : ∀ a, a < 147 → N0_ a = NL0.getD a 0 := by decide +kernel
theorem R0_at : ∀ q ∈ RL0, R0_ q.1 q.2.1 = some q.2.2 := by decide +kernel
theorem fr_0 : Fr 146 R0_ I0_ (fun _ _ => 0) := by
  have h1 : Fr 1 (fun _ _ => none) (fun _ _ => 0) (fun _ _ => 0) := fun m hm => ⟨rfl, rfl, rfl⟩
  have h2 := fr_111 h1
  intro m hm
  obtain ⟨h3, h4, h5⟩ := h2 m (by omega)
  refine ⟨?_, ?_, h5⟩
  · unfold R0_
    rw [u2_a _ _ _ _ _ (by omega), u2_a _ _ _ _ _ (by omega), u2_a _ _ _ _ _ (by omega), u2_a _ _ _ _ _ (by omega), u2_a _ _ _ _ _ (by omega), u2_a _ _ _ _ _ (by omega), u2_a _ _ _ _ _ (by omega), u2_a _ _ _ _ _ (by omega), u2_a _ _ _ _ _ (by omega), u2_a _ _ _ _ _ (by omega), u2_a _ _ _ _ _ (by omega), u2_a _ _ _ _ _ (by omega), u2_a _ _ _ _ _ (by omega)]
    exact h3
  · unfold I0_
    rw [u2_a _ _ _ _ _ (by omega)]
    exact h4
set_option maxHeartbeats 4000000 in
theorem pre_law {l0 : Nat} {r : Option Value × aH} (hr : Am lx 315 14 [some (.ref l0), some (.ref (z + 0)), some (.ref (z + 132)), some (.ref (z + 146)), some (.int 0), none, none] [] (600877, 7285489) (St z E 147 K0_ N0_ R0_ I0_ (fun _ _ => 0)) = some r) : Am lx 315 0 [some (.ref l0), none, none, none, none, none, none] [] (601024, 7293034) (St z E 0 (fun _ => 99) (fun _ => 0) (fun _ _ => none) (fun _ _ => 0) (fun _ _ => 0)) = some r := by
  refine q_of (e_315_0 _ _ _) ?_
  have h : Fr 0 (fun _ _ => none) (fun _ _ => 0) (fun _ _ => 0) := fun m hm => ⟨rfl, rfl, rfl⟩
  rw [gd_t (by decide), lt_s_, z_St, wN_F h]
  have h := h.s
  simp only [Nat.reduceAdd] at h ⊢
  rw [gd_t (by decide), ct_111 h (by simp [va_up]), cV_s]
  have h := fr_111 h
  rw [gd_t (by decide), lt_s_, z_St, wN_F h]
  have h := h.s
  simp only [Nat.reduceAdd] at h ⊢
  rw [gd_t (by decide), ct_180 h (by decide) (by simp [va_up]), cV_s, gd_t (by decide), lt_s_, z_St]
  simp only [Nat.reduceAdd]
  have h9 := fr_0
  unfold R0_ I0_ at h9
  rw [wN_F h9]
  exact hr
end CT
