/-! the flat heap seen from its first new address z on -/
def St (z : Nat) (E : aEt) (n : Nat) (K N : Nat → Nat) (R : Nat → Nat → Option Nat) (I : Nat → Nat → Int32) (J : Nat → Nat → Int64) : aH :=
  (fun a => if z ≤ a then K (a - z) else 99, fun a => if z ≤ a then N (a - z) else 0, fun a k => if z ≤ a then I (a - z) k else 0, fun a k => if z ≤ a then J (a - z) k else 0, fun a k => if z ≤ a then (R (a - z) k).map (fun b => z + b) else none, z + n, E)
section ST
variable {z : Nat} {E : aEt} {n : Nat} {K N : Nat → Nat} {R : Nat → Nat → Option Nat} {I : Nat → Nat → Int32} {J : Nat → Nat → Int64}
theorem k_St (a : Nat) : aK (St z E n K N R I J) (z + a) = K a := by simp [aK, St]
theorem n_St (a : Nat) : aN (St z E n K N R I J) (z + a) = N a := by simp [aN, St]
theorem i_St (a k : Nat) : aI (St z E n K N R I J) (z + a) k = I a k := by simp [aI, St]
theorem j_St (a k : Nat) : aJ (St z E n K N R I J) (z + a) k = J a k := by simp [aJ, St]
theorem r_St (a k : Nat) : aR (St z E n K N R I J) (z + a) k = (R a k).map (fun b => z + b) := by simp [aR, St]
theorem z_St : aZ (St z E n K N R I J) = z + n := rfl
theorem e_St : aE (St z E n K N R I J) = E := rfl
theorem g_St (k : Nat) : aG (St z E n K N R I J) k = E.1 k := rfl
theorem u2_off {α : Type} (f : Nat → Nat → α) (d : Nat → α) (a k : Nat) (v : α) : u2 (fun b j => if z ≤ b then f (b - z) j else d j) (z + a) k v = fun b j => if z ≤ b then u2 f a k v (b - z) j else d j := by
  funext b j
  unfold u2
  by_cases hb : b = z + a
  · subst hb
    by_cases hj : j = k
    · simp [hj]
    · simp [hj]
  · by_cases hz : z ≤ b
    · have : b - z ≠ a := by omega
      simp [hb, hz, this]
    · simp [hb, hz]
theorem wI_St (a k : Nat) (v : Int32) : wI (St z E n K N R I J) (z + a) k v = St z E n K N R (u2 I a k v) J := by
  unfold wI St
  simp only
  rw [u2_off I (fun _ => 0)]
theorem wJ_St (a k : Nat) (v : Int64) : wJ (St z E n K N R I J) (z + a) k v = St z E n K N R I (u2 J a k v) := by
  unfold wJ St
  simp only
  rw [u2_off J (fun _ => 0)]
theorem wR_St (a k b : Nat) : wR (St z E n K N R I J) (z + a) k (some (z + b)) = St z E n K N (u2 R a k (some b)) I J := by
  unfold wR St
  simp only
  have e := u2_off (z := z) (fun x j => (R x j).map (fun b => z + b)) (fun _ => none) a k (some (z + b))
  rw [e]
  congr 6
  funext x j
  by_cases hx : z ≤ x
  · simp only [hx, if_true]
    unfold u2
    split
    · split <;> rfl
    · rfl
  · simp [hx]
theorem up_off (f : Nat → Nat) (d a v : Nat) : va_up (fun b => if z ≤ b then f (b - z) else d) (z + a) v = fun b => if z ≤ b then va_up f a v (b - z) else d := by
  funext b
  unfold va_up
  by_cases hb : b = z + a
  · subst hb; simp
  · by_cases hz : z ≤ b
    · have : b - z ≠ a := by omega
      simp [hb, hz, this]
    · simp [hb, hz]
theorem r2_off {α : Type} (f : Nat → Nat → α) (d : Nat → α) (a : Nat) (g : Nat → α) : r2 (fun b j => if z ≤ b then f (b - z) j else d j) (z + a) g = fun b j => if z ≤ b then r2 f a g (b - z) j else d j := by
  funext b j
  unfold r2
  by_cases hb : b = z + a
  · subst hb; simp
  · by_cases hz : z ≤ b
    · have : b - z ≠ a := by omega
      simp [hb, hz, this]
    · simp [hb, hz]
theorem wN_St (c l : Nat) : wN (St z E n K N R I J) c l = St z E (n + 1) (va_up K n c) (va_up N n l) (r2 R n (fun _ => none)) (r2 I n (fun _ => 0)) (r2 J n (fun _ => 0)) := by
  unfold wN aZ St
  simp only
  rw [up_off K 99, up_off N 0, r2_off I (fun _ => 0), r2_off J (fun _ => 0)]
  have e := r2_off (z := z) (fun x j => (R x j).map (fun b => z + b)) (fun _ => none) n (fun _ => none)
  rw [e]
  refine Prod.ext rfl (Prod.ext rfl (Prod.ext rfl (Prod.ext rfl (Prod.ext ?_ (Prod.ext ?_ rfl)))))
  · funext x j
    by_cases hx : z ≤ x
    · simp only [hx, if_true]
      unfold r2
      split <;> rfl
    · simp [hx]
  · show z + n + 1 = z + (n + 1); omega
theorem S0_St (g : Nat → Nat) (b L : Nat) (xs : Nat → Int32) : S0_ z g b L xs = St z (g, b, L, xs) 0 (fun _ => 99) (fun _ => 0) (fun _ _ => none) (fun _ _ => 0) (fun _ _ => 0) := by
  unfold S0_ St
  refine Prod.ext ?_ (Prod.ext ?_ (Prod.ext ?_ (Prod.ext ?_ (Prod.ext ?_ (Prod.ext rfl rfl))))) <;> simp
theorem bmp_St : bmp (St z E n K N R I J) = St z E (n + 1) K N R I J := by
  unfold bmp St aZ
  refine Prod.ext rfl (Prod.ext rfl (Prod.ext rfl (Prod.ext rfl (Prod.ext rfl (Prod.ext ?_ rfl)))))
  show z + n + 1 = z + (n + 1); omega
end ST
-- runs, as equations
theorem q_of {X Y : aO} {r : Option Value × aH} (h : X = Y) (hy : Y = some r) : X = some r := h.trans hy
theorem gd_t {c : Prop} [Decidable c] {x : aO} (h : c) : gd c x = x := if_pos h
theorem cI_s {x : Int32} {S : aH} {f : Int32 → aH → aO} : cI (some (some (.int x), S)) f = f x S := rfl
theorem cJ_s {x : Int64} {S : aH} {f : Int64 → aH → aO} : cJ (some (some (.long x), S)) f = f x S := rfl
theorem cV_s {S : aH} {f : aH → aO} : cV (some (none, S)) f = f S := rfl
theorem nR_s {a : Nat} {f : Nat → aO} : nR (some a) f = f a := rfl
theorem nQ_s {a : Nat} {f : Nat → aO} {g : aO} : nQ (some a) f g = f a := rfl
theorem nQ_n {f : Nat → aO} {g : aO} : nQ none f g = g := rfl
theorem lt_s_ {e : aH} {f : aH → aO} : lt_ e f = f e := rfl
theorem u2_s {α : Type} (f : Nat → Nat → α) (a k : Nat) (v : α) : u2 f a k v a k = v := by simp [u2]
theorem u2_a {α : Type} (f : Nat → Nat → α) (a k b : Nat) (v : α) (h : b ≠ a) : u2 f a k v b = f b := by funext j; simp [u2, h]
theorem u2_k {α : Type} (f : Nat → Nat → α) (a k j : Nat) (v : α) (h : j ≠ k) : u2 f a k v a j = f a j := by simp [u2, h]
theorem u2_row {α : Type} (f : Nat → Nat → α) (a k : Nat) (v : α) : u2 f a k v a = va_up (f a) k v := by funext j; simp [u2, va_up]
theorem ix_n {i l : Nat} (h : i < l) (hl : l < 2 ^ 31) : ix_ (nI i) l := nI_in h hl
theorem ca_900 {lx : List Value → aH → aO} (x : Int32) (S : aH) : Ca lx 900 [.int x] S = some (some (.int (if 0 ≤ x then x else 0 - x)), S) := rfl
theorem ca_901 {lx : List Value → aH → aO} (x y : Int32) (S : aH) : Ca lx 901 [.int x, .int y] S = some (some (.int (if x < y then y else x)), S) := rfl
theorem ca_902 {lx : List Value → aH → aO} (x y : Int32) (S : aH) : Ca lx 902 [.int x, .int y] S = some (some (.int (if y < x then y else x)), S) := rfl
theorem ca_905 {lx : List Value → aH → aO} (as : List Value) (S : aH) : Ca lx 905 as S = lx as S := rfl
theorem ca_903 {lx : List Value → aH → aO} (a : Nat) (S : aH) : Ca lx 903 [.ref a] S = nR (strNo (aG S) a) fun n => some (some (.int (Int32.ofNat (stLenL.getD n 0))), S) := rfl
theorem ca_904 {lx : List Value → aH → aO} (a : Nat) (i : Int32) (S : aH) : Ca lx 904 [.ref a, .int i] S = nR (strNo (aG S) a) fun n => gd (ix_ i (stLenL.getD n 0)) (some (some (.int ((stBytL.getD n []).getD i.toNatClampNeg 0)), S)) := rfl
