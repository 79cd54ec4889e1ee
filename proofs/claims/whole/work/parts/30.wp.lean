/-! what a run comes to, asked from behind -/
noncomputable def Am (lx : List Value → aH → aO) (id : Nat) : aKt := Amg aCode aML aMb (xtF lx) id
noncomputable def Ca (lx : List Value → aH → aO) : aC := Cag aCode aML aMb (xtF lx)
def Wp (x : aO) (P : Option Value → aH → Prop) : Prop := ∃ v S, x = some (v, S) ∧ P v S
theorem wp_am {lx : List Value → aH → aO} {id k : Nat} {ls : aL} {st : List Value} {b : aB} {S : aH} {P : Option Value → aH → Prop} {code : List aM} (f : Nat) (hc : aCode id = code) (h : Wp (blk code (Am lx id) (Ca lx) f k ls st b S) P) : Wp (Am lx id k ls st b S) P := by
  obtain ⟨v, S', h1, h2⟩ := h
  subst hc
  exact ⟨v, S', Amg_blk aCode aML aMb (xtF lx) f k ls st b S h1, h2⟩
theorem wp_none {P : Option Value → aH → Prop} : Wp none P ↔ False := ⟨fun ⟨_, _, h, _⟩ => (by cases h), fun h => h.elim⟩
theorem wp_some {v : Option Value} {S : aH} {P : Option Value → aH → Prop} : Wp (some (v, S)) P ↔ P v S := ⟨fun ⟨_, _, h, hp⟩ => (by cases h; exact hp), fun h => ⟨v, S, rfl, h⟩⟩
theorem wp_gd {c : Prop} [Decidable c] {x : aO} {P : Option Value → aH → Prop} : Wp (gd c x) P ↔ c ∧ Wp x P := by
  unfold gd; split
  · next h => exact ⟨fun q => ⟨h, q⟩, fun q => q.2⟩
  · next h => exact ⟨fun q => (wp_none.mp q).elim, fun q => absurd q.1 h⟩
theorem wp_ite {c : Prop} [Decidable c] {x y : aO} {P : Option Value → aH → Prop} : Wp (if c then x else y) P ↔ (c → Wp x P) ∧ (¬ c → Wp y P) := by
  split
  · next h => exact ⟨fun q => ⟨fun _ => q, fun z => absurd h z⟩, fun q => q.1 h⟩
  · next h => exact ⟨fun q => ⟨fun z => absurd z h, fun _ => q⟩, fun q => q.2 h⟩
theorem wp_nR {r : Option Nat} {f : Nat → aO} {P : Option Value → aH → Prop} : Wp (nR r f) P ↔ ∃ a, r = some a ∧ Wp (f a) P := by
  cases r with
  | none => exact ⟨fun q => (wp_none.mp q).elim, fun ⟨_, q, _⟩ => (by cases q)⟩
  | some a => exact ⟨fun q => ⟨a, rfl, q⟩, fun ⟨_, q, h⟩ => (by cases q; exact h)⟩
theorem wp_nQ {r : Option Nat} {f : Nat → aO} {g : aO} {P : Option Value → aH → Prop} : Wp (nQ r f g) P ↔ (∀ a, r = some a → Wp (f a) P) ∧ (r = none → Wp g P) := by
  cases r with
  | none => exact ⟨fun q => ⟨fun a h => (by cases h), fun _ => q⟩, fun q => q.2 rfl⟩
  | some a => exact ⟨fun q => ⟨fun b h => (by cases h; exact q), fun h => (by cases h)⟩, fun q => q.1 a rfl⟩
theorem wp_cI {q : aO} {f : Int32 → aH → aO} {P : Option Value → aH → Prop} : Wp (cI q f) P ↔ Wp q (fun v S => ∃ x, v = some (.int x) ∧ Wp (f x S) P) := by
  unfold cI; split
  · next x S => exact ⟨fun h => wp_some.mpr ⟨x, rfl, h⟩, fun h => (by obtain ⟨y, e, h⟩ := wp_some.mp h; cases e; exact h)⟩
  · next hn => exact ⟨fun h => (wp_none.mp h).elim, fun ⟨v, S, e, x, e2, h⟩ => absurd (e.trans (by rw [e2])) (hn x S)⟩
theorem wp_cJ {q : aO} {f : Int64 → aH → aO} {P : Option Value → aH → Prop} : Wp (cJ q f) P ↔ Wp q (fun v S => ∃ x, v = some (.long x) ∧ Wp (f x S) P) := by
  unfold cJ; split
  · next x S => exact ⟨fun h => wp_some.mpr ⟨x, rfl, h⟩, fun h => (by obtain ⟨y, e, h⟩ := wp_some.mp h; cases e; exact h)⟩
  · next hn => exact ⟨fun h => (wp_none.mp h).elim, fun ⟨v, S, e, x, e2, h⟩ => absurd (e.trans (by rw [e2])) (hn x S)⟩
theorem wp_cV {q : aO} {f : aH → aO} {P : Option Value → aH → Prop} : Wp (cV q f) P ↔ Wp q (fun v S => v = none ∧ Wp (f S) P) := by
  unfold cV; split
  · next S => exact ⟨fun h => wp_some.mpr ⟨rfl, h⟩, fun h => (wp_some.mp h).2⟩
  · next hn => exact ⟨fun h => (wp_none.mp h).elim, fun ⟨v, S, e, e2, h⟩ => absurd (e.trans (by rw [e2])) (hn S)⟩
theorem Wp.mono {x : aO} {P Q : Option Value → aH → Prop} (h : Wp x P) (hpq : ∀ v S, P v S → Q v S) : Wp x Q := by
  obtain ⟨v, S, e, hp⟩ := h
  exact ⟨v, S, e, hpq v S hp⟩
/-- a call of a method of the tables -/
theorem wp_ca {lx : List Value → aH → aO} {u : Nat} {as : List Value} {S : aH} {P : Option Value → aH → Prop} (hu : u < 900) (hl : cs_ as ≤ aML u) (h : Wp (Am lx u 0 (pd_ (ea_ as) (aML u)) [] (aMb u) S) P) : Wp (Ca lx u as S) P := by
  unfold Ca Cag
  rw [if_pos hu]
  have : Nat.ble (cs_ as) (aML u) = true := by rw [Nat.ble_eq]; exact hl
  rw [this]
  exact h
def lt_ (e : aH) (f : aH → aO) : aO := f e
theorem wp_lt {e : aH} {f : aH → aO} {P : Option Value → aH → Prop} : Wp (lt_ e f) P ↔ ∀ S, S = e → Wp (f S) P := ⟨fun h S hS => hS ▸ h, fun h => h e rfl⟩
