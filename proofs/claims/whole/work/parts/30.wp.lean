/-! what a run comes to, asked from behind -/
noncomputable def Am (lx : List Value → aH → aO) (id : Nat) : aKt := Amg aCode aML aMb (xtF lx) id
noncomputable def Ca (lx : List Value → aH → aO) : aC := Cag aCode aML aMb (xtF lx)
def Wp (x : aO) (P : Option Value → aH → Prop) : Prop := ∃ v S, x = some (v, S) ∧ P v S
theorem wp_am {lx : List Value → aH → aO} {id k : Nat} {ls : aL} {st : List Value} {b : aB} {S : aH} {P : Option Value → aH → Prop} {code : List aM} (f : Nat) (hc : aCode id = code) (h : Wp (blk code (Am lx id) (Ca lx) f k ls st b S) P) : Wp (Am lx id k ls st b S) P := by
  obtain ⟨v, S', h1, h2⟩ := h
  subst hc
  exact ⟨v, S', Amg_blk aCode aML aMb (xtF lx) f k ls st b S h1, h2⟩
theorem wp_none {P : Option Value → aH → Prop} : Wp none P ↔ False := ⟨fun ⟨_, _, h, _⟩ => (by cases h), fun h => h.elim⟩
theorem wp_some {v : Option Value} {S : aH} {P : Option Value → aH → Prop} : Wp (some (v, S)) P ↔ P v S := ⟨fun ⟨_, _, h, hp⟩ => (by cases h; exact hp), fun h => ⟨v, S, rfl, h⟩⟩
theorem wp_gd {c : Prop} [Decidable c] {x : aO} {P : Option Value → aH → Prop} : Wp (gd c x) P ↔ c ∧ Wp x P := by
  unfold gd; split
  · next h => exact ⟨fun q => ⟨h, q⟩, fun q => q.2⟩
  · next h => exact ⟨fun q => (wp_none.mp q).elim, fun q => absurd q.1 h⟩
theorem wp_ite {c : Prop} [Decidable c] {x y : aO} {P : Option Value → aH → Prop} : Wp (if c then x else y) P ↔ (c → Wp x P) ∧ (¬ c → Wp y P) := by
  split
  · next h => exact ⟨fun q => ⟨fun _ => q, fun z => absurd h z⟩, fun q => q.1 h⟩
  · next h => exact ⟨fun q => ⟨fun z => absurd z h, fun _ => q⟩, fun q => q.2 h⟩
theorem wp_nR {r : Option Nat} {f : Nat → aO} {P : Option Value → aH → Prop} : Wp (nR r f) P ↔ ∃ a, r = some a ∧ Wp (f a) P := by
  cases r with
  | none => exact ⟨fun q => (wp_none.mp q).elim, fun ⟨_, q, _⟩ => (by cases q)⟩
  | some a => exact ⟨fun q => ⟨a, rfl, q⟩, fun ⟨_, q, h⟩ => (by cases q; exact h)⟩
theorem wp_nQ {r : Option Nat} {f : Nat → aO} {g : aO} {P : Option Value → aH → Prop} : Wp (nQ r f g) P ↔ (∀ a, r = some a → Wp (f a) P) ∧ (r = none → Wp g P) := by
  cases r with
  | none => exact ⟨fun q => ⟨fun a h => (by cases h), fun _ => q⟩, fun q => q.2 rfl⟩
  | some a => exact ⟨fun q => ⟨fun b h => (by cases h; exact q), fun h => (by cases h)⟩, fun q => q.1 a rfl⟩
theorem wp_cI {q : aO} {f : Int32 → aH → aO} {P : Option Value → aH → Prop} : Wp (cI q f) P ↔ Wp q (fun v S => ∃ x, v = some (.int x) ∧ Wp (f x S) P) := by
  unfold cI; split
  · next x S => exact ⟨fun h => wp_some.mpr ⟨x, rfl, h⟩, fun h => (by obtain ⟨y, e, h⟩ := wp_some.mp h; cases e; exact h)⟩
  · next hn => exact ⟨fun h => (wp_none.mp h).elim, fun ⟨v, S, e, x, e2, h⟩ => absurd (e.trans (by rw [e2])) (hn x S)⟩
theorem wp_cJ {q : aO} {f : Int64 → aH → aO} {P : Option Value → aH → Prop} : Wp (cJ q f) P ↔ Wp q (fun v S => ∃ x, v = some (.long x) ∧ Wp (f x S) P) := by
  unfold cJ; split
  · next x S => exact ⟨fun h => wp_some.mpr ⟨x, rfl, h⟩, fun h => (by obtain ⟨y, e, h⟩ := wp_some.mp h; cases e; exact h)⟩
  · next hn => exact ⟨fun h => (wp_none.mp h).elim, fun ⟨v, S, e, x, e2, h⟩ => absurd (e.trans (by rw [e2])) (hn x S)⟩
theorem wp_cV {q : aO} {f : aH → aO} {P : Option Value → aH → Prop} : Wp (cV q f) P ↔ Wp q (fun v S => v = none ∧ Wp (f S) P) := by
  unfold cV; split
  · next S => exact ⟨fun h => wp_some.mpr ⟨rfl, h⟩, fun h => (wp_some.mp h).2⟩
  · next hn => exact ⟨fun h => (wp_none.mp h).elim, fun ⟨v, S, e, e2, h⟩ => absurd (e.trans (by rw [e2])) (hn S)⟩
theorem Wp.mono {x : aO} {P Q : Option Value → aH → Prop} (h : Wp x P) (hpq : ∀ v S, P v S → Q v S) : Wp x Q := by
  obtain ⟨v, S, e, hp⟩ := h
  exact ⟨v, S, e, hpq v S hp⟩
/-- a call of a method of the tables -/
theorem wp_ca {lx : List Value → aH → aO} {u : Nat} {as : List Value} {S : aH} {P : Option Value → aH → Prop} (hu : u < 900) (hl : cs_ as ≤ aML u) (h : Wp (Am lx u 0 (pd_ (ea_ as) (aML u)) [] (aMb u) S) P) : Wp (Ca lx u as S) P := by
  unfold Ca Cag
  rw [if_pos hu]
  have : Nat.ble (cs_ as) (aML u) = true := by rw [Nat.ble_eq]; exact hl
  rw [this]
  exact h
def lt_ (e : aH) (f : aH → aO) : aO := f e
theorem wp_lt {e : aH} {f : aH → aO} {P : Option Value → aH → Prop} : Wp (lt_ e f) P ↔ ∀ S, S = e → Wp (f S) P := ⟨fun h S hS => hS ▸ h, fun h => h e rfl⟩
/-! the machine's runs as equations -/
theorem ex1_mono {i : aM} {k : Nat} {ls : aL} {st : List Value} {b : aB} {S : aH} {K K' : aKt} {C C' : aC} {r : Option Value × aH} (hK : ∀ k ls st b S r, K k ls st b S = some r → K' k ls st b S = some r) (hC : ∀ u as S r, C u as S = some r → C' u as S = some r) (h : ex1 i k ls st b S K C = some r) : ex1 i k ls st b S K' C' = some r := by
  obtain ⟨n, hn⟩ := ex1_cn (i := i) (k := k) (ls := ls) (st := st) (b := b) (S := S) (Kq := fun _ => K') (Cq := fun _ => C') (fun k ls st b S r h => ⟨0, fun _ _ => hK k ls st b S r h⟩) (fun u as S r h => ⟨0, fun _ _ => hC u as S r h⟩) r h
  exact hn n (Nat.le_refl n)
section AE
variable (cd : Nat → List aM) (ml : Nat → Nat) (mb : Nat → aB) (xt : aC)
theorem bo_mono {c : Bool} {x y : aO} {r : Option Value × aH} (h : x = some r → y = some r) (hb : bo_ c x = some r) : bo_ c y = some r := by
  cases c
  · cases hb
  · exact h hb
theorem am_mono : ∀ (n id k : Nat) (ls : aL) (st : List Value) (b : aB) (S : aH) (r : Option Value × aH), am cd ml mb xt n id k ls st b S = some r → am cd ml mb xt (n + 1) id k ls st b S = some r
  | 0, id, k, ls, st, b, S, r, h => by cases h
  | n + 1, id, k, ls, st, b, S, r, h => by
    unfold am at h ⊢
    cases hi : cg_ (cd id) k with
    | none => rw [hi] at h; cases h
    | some i =>
      rw [hi] at h
      refine ex1_mono (fun k ls st b S r h => am_mono n id k ls st b S r h) (fun u as S r h => ?_) h
      by_cases hu : u < 900
      · rw [if_pos hu] at h ⊢
        exact bo_mono (am_mono n u 0 _ _ _ S r) h
      · rw [if_neg hu] at h ⊢
        exact h
theorem am_le {n m id k : Nat} {ls : aL} {st : List Value} {b : aB} {S : aH} {r : Option Value × aH} (h : am cd ml mb xt n id k ls st b S = some r) (hm : n ≤ m) : am cd ml mb xt m id k ls st b S = some r := by
  induction m with
  | zero => rw [show n = 0 by omega] at h; exact h
  | succ m ih =>
    by_cases he : n = m + 1
    · rw [← he]; exact h
    · exact am_mono cd ml mb xt m id k ls st b S r (ih (by omega))
theorem Amg_of {n id k : Nat} {ls : aL} {st : List Value} {b : aB} {S : aH} {r : Option Value × aH} (h : am cd ml mb xt n id k ls st b S = some r) : Amg cd ml mb xt id k ls st b S = some r := (Amg_iff cd ml mb xt).mpr ⟨n, fun m hm => am_le cd ml mb xt h hm⟩
theorem Amg_unf (id k : Nat) (ls : aL) (st : List Value) (b : aB) (S : aH) : Amg cd ml mb xt id k ls st b S = (match cg_ (cd id) k with
    | none => none
    | some i => ex1 i k ls st b S (Amg cd ml mb xt id) (Cag cd ml mb xt)) := by
  cases hi : cg_ (cd id) k with
  | none =>
    cases h : Amg cd ml mb xt id k ls st b S with
    | none => rfl
    | some r =>
      obtain ⟨n, hn⟩ := (Amg_iff cd ml mb xt).mp h
      have := hn (n + 1) (by omega)
      unfold am at this
      rw [hi] at this
      cases this
  | some i =>
    show Amg cd ml mb xt id k ls st b S = ex1 i k ls st b S (Amg cd ml mb xt id) (Cag cd ml mb xt)
    cases h : ex1 i k ls st b S (Amg cd ml mb xt id) (Cag cd ml mb xt) with
    | some r => exact Amg_step cd ml mb xt hi h
    | none =>
      cases h2 : Amg cd ml mb xt id k ls st b S with
      | none => rfl
      | some r =>
        obtain ⟨n, hn⟩ := (Amg_iff cd ml mb xt).mp h2
        have h3 := hn (n + 1) (by omega)
        unfold am at h3
        rw [hi] at h3
        have h4 : ex1 i k ls st b S (Amg cd ml mb xt id) (Cag cd ml mb xt) = some r := ex1_mono (fun k ls st b S r h => Amg_of cd ml mb xt h) (fun u as S r h => by
          unfold Cag
          by_cases hu : u < 900
          · rw [if_pos hu] at h ⊢
            exact bo_mono (fun h => Amg_of cd ml mb xt h) h
          · rw [if_neg hu] at h ⊢
            exact h) h3
        rw [h] at h4
        cases h4
theorem Amg_eq (id : Nat) : ∀ f : Nat, blk (cd id) (Amg cd ml mb xt id) (Cag cd ml mb xt) f = Amg cd ml mb xt id
  | 0 => rfl
  | f + 1 => by
    funext k ls st b S
    rw [Amg_unf]
    unfold blk
    rw [Amg_eq id f]
    cases hi : cg_ (cd id) k with
    | none => rfl
    | some i =>
      show (match ic_ i with
        | true => Amg cd ml mb xt id (k + 1) (mk_ i.2.2.2.2 ls) st b S
        | false => ex1 i k ls st b S (Amg cd ml mb xt id) (Cag cd ml mb xt)) = ex1 i k ls st b S (Amg cd ml mb xt id) (Cag cd ml mb xt)
      split
      · next hc =>
        obtain ⟨ins, ⟨u, v, w, z⟩, c, d, ts⟩ := i
        cases ins <;> first | (simp [ic_] at hc; done) | (simp only [ex1]; split <;> first | (simp [ic_] at hc; done) | rfl)
      · rfl
end AE
theorem am_eq {lx : List Value → aH → aO} {id k : Nat} {ls : aL} {st : List Value} {b : aB} {S : aH} {code : List aM} (f : Nat) (hc : aCode id = code) : Am lx id k ls st b S = blk code (Am lx id) (Ca lx) f k ls st b S := by
  subst hc
  exact (congrFun (congrFun (congrFun (congrFun (congrFun (Amg_eq aCode aML aMb (xtF lx) id f) k) ls) st) b) S).symm
theorem ca_eq {lx : List Value → aH → aO} {u : Nat} {as : List Value} {S : aH} (hu : u < 900) (hl : cs_ as ≤ aML u) : Ca lx u as S = Am lx u 0 (pd_ (ea_ as) (aML u)) [] (aMb u) S := by
  unfold Ca Cag
  rw [if_pos hu]
  have : Nat.ble (cs_ as) (aML u) = true := by rw [Nat.ble_eq]; exact hl
  rw [this]
  rfl
