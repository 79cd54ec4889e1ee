/-! a flow of ways that share no cell: g says over which edges it goes, us which cells it uses -/
def op (w : Nat) : Nat := if w ≤ 2 then w + 2 else w - 2
def ou (g : Nat → Nat → Bool) (c : Nat) : Nat := (g c 1).toNat + (g c 2).toNat + (g c 3).toNat + (g c 4).toNat
def it (g : Nat → Nat → Bool) (d w : Nat) : Nat := if nxc d w < 64 then (g (nxc d w) (op w)).toNat else 0
def ic (g : Nat → Nat → Bool) (d : Nat) : Nat := it g d 1 + it g d 2 + it g d 3 + it g d 4
def FV (F : Nat → Nat → Nat) (g : Nat → Nat → Bool) : Prop := ∀ c w, g c w = true → 1 ≤ w ∧ w ≤ 4 ∧ isS F c = true ∧ isS F (nxc c w) = true
def Bal (g : Nat → Nat → Bool) (us : Nat → Bool) (a b k x : Nat) : Prop := us a = false ∧ us b = false ∧ (∀ c, c < 64 → c ≠ a → c ≠ b → (us c).toNat = ic g c + (if x = 2 * c then 1 else 0)) ∧ (∀ c, c < 64 → c ≠ a → c ≠ b → ou g c = (us c).toNat + (if x = 2 * c + 1 then 1 else 0)) ∧ ic g a = 0 ∧ ou g b = 0 ∧ ou g a = k + (if x = 2 * a + 1 then 1 else 0)
theorem nx_opF : ∀ c : Fin 64, ∀ w : Fin 5, 1 ≤ w.val → nxc c.val w.val < 64 → (nxc (nxc c.val w.val) (op w.val) = c.val ∧ op (op w.val) = w.val ∧ 1 ≤ op w.val ∧ op w.val < 5) := by decide +kernel
theorem nx_op (c : Nat) (hc : c < 64) (w : Nat) (hw : w < 5) (h1 : 1 ≤ w) (h2 : nxc c w < 64) : nxc (nxc c w) (op w) = c ∧ op (op w) = w ∧ 1 ≤ op w ∧ op w < 5 := nx_opF ⟨c, hc⟩ ⟨w, hw⟩ h1 h2
theorem nx_wF : ∀ c : Fin 64, ∀ w : Fin 5, ∀ v : Fin 5, 1 ≤ w.val → 1 ≤ v.val → nxc c.val w.val < 64 → nxc c.val w.val = nxc c.val v.val → w.val = v.val := by decide +kernel
theorem nx_w (c : Nat) (hc : c < 64) (w : Nat) (hw : w < 5) (v : Nat) (hv : v < 5) (h1 : 1 ≤ w) (h2 : 1 ≤ v) (h3 : nxc c w < 64) (h4 : nxc c w = nxc c v) : w = v := nx_wF ⟨c, hc⟩ ⟨w, hw⟩ ⟨v, hv⟩ h1 h2 h3 h4
theorem nx_n : ∀ c, c < 64 → ∀ w, w < 5 → nxc c w ≠ c := by decide +kernel
theorem nx_0 : ∀ c, c < 64 → ∀ w, w < 5 → nxc c w ≤ 64 := by decide +kernel
section CU0
variable {g g' : Nat → Nat → Bool} {us us' : Nat → Bool} {F : Nat → Nat → Nat} {a b k x c d w : Nat}
theorem u2_w {α : Type} (f : Nat → Nat → α) (a k b j : Nat) (v : α) (h : j ≠ k) : u2 f a k v b j = f b j := by
  by_cases e : b = a
  · rw [e]; exact u2_k _ _ _ _ _ h
  · rw [u2_a _ _ _ _ _ e]
theorem ou_u (v : Bool) (hw : 1 ≤ w) (hw2 : w ≤ 4) : ou (u2 g c w v) d + (if d = c then (g c w).toNat else 0) = ou g d + (if d = c then v.toNat else 0) := by
  unfold ou
  by_cases e : d = c
  · subst e
    rw [if_pos rfl, if_pos rfl]
    have : w = 1 ∨ w = 2 ∨ w = 3 ∨ w = 4 := by omega
    rcases this with h | h | h | h <;> subst h <;> simp only [u2_s, u2_k _ _ _ _ _ (show (1 : Nat) ≠ 2 by decide), u2_k _ _ _ _ _ (show (1 : Nat) ≠ 3 by decide), u2_k _ _ _ _ _ (show (1 : Nat) ≠ 4 by decide), u2_k _ _ _ _ _ (show (2 : Nat) ≠ 1 by decide), u2_k _ _ _ _ _ (show (2 : Nat) ≠ 3 by decide), u2_k _ _ _ _ _ (show (2 : Nat) ≠ 4 by decide), u2_k _ _ _ _ _ (show (3 : Nat) ≠ 1 by decide), u2_k _ _ _ _ _ (show (3 : Nat) ≠ 2 by decide), u2_k _ _ _ _ _ (show (3 : Nat) ≠ 4 by decide), u2_k _ _ _ _ _ (show (4 : Nat) ≠ 1 by decide), u2_k _ _ _ _ _ (show (4 : Nat) ≠ 2 by decide), u2_k _ _ _ _ _ (show (4 : Nat) ≠ 3 by decide)] <;> omega
  · rw [if_neg e, if_neg e, u2_a _ _ _ _ _ e]
theorem it_u (v : Bool) (hc : c < 64) (hw : 1 ≤ w) (hw2 : w ≤ 4) (hn : nxc c w < 64) (hd : d < 64) {j : Nat} (hj : 1 ≤ j) (hj2 : j ≤ 4) : it (u2 g c w v) d j + (if d = nxc c w ∧ j = op w then (g c w).toNat else 0) = it g d j + (if d = nxc c w ∧ j = op w then v.toNat else 0) := by
  obtain ⟨n1, n2, n3, n4⟩ := nx_op c hc w (by omega) hw hn
  unfold it
  by_cases e : d = nxc c w ∧ j = op w
  · obtain ⟨e1, e2⟩ := e
    rw [e1, e2, n1, n2, if_pos hc, if_pos hc, u2_s]; simp; omega
  · rw [if_neg e, if_neg e]
    by_cases l : nxc d j < 64
    · rw [if_pos l, if_pos l]
      obtain ⟨m1, m2, m3, m4⟩ := nx_op d hd j (by omega) hj l
      by_cases e1 : nxc d j = c
      · by_cases e2 : op j = w
        · exfalso
          apply e
          rw [← e1, ← e2, m1, m2]; exact ⟨rfl, rfl⟩
        · rw [u2_w _ _ _ _ _ _ e2]
      · rw [u2_a _ _ _ _ _ e1]
    · rw [if_neg l, if_neg l]
theorem ic_u (v : Bool) (hc : c < 64) (hw : 1 ≤ w) (hw2 : w ≤ 4) (hn : nxc c w < 64) (hd : d < 64) : ic (u2 g c w v) d + (if d = nxc c w then (g c w).toNat else 0) = ic g d + (if d = nxc c w then v.toNat else 0) := by
  have h1 := it_u (g := g) v hc hw hw2 hn hd (j := 1) (by decide) (by decide)
  have h2 := it_u (g := g) v hc hw hw2 hn hd (j := 2) (by decide) (by decide)
  have h3 := it_u (g := g) v hc hw hw2 hn hd (j := 3) (by decide) (by decide)
  have h4 := it_u (g := g) v hc hw hw2 hn hd (j := 4) (by decide) (by decide)
  unfold ic
  by_cases e : d = nxc c w
  · rw [if_pos e, if_pos e]
    have : w = 1 ∨ w = 2 ∨ w = 3 ∨ w = 4 := by omega
    rcases this with h | h | h | h <;> subst h <;> simp [e, op] at h1 h2 h3 h4 ⊢ <;> omega
  · rw [if_neg e, if_neg e]
    simp [e] at h1 h2 h3 h4
    omega
/-- a step that can be gone: into a cell, out of it, back over what flows -/
def Vd (F : Nat → Nat → Nat) (g : Nat → Nat → Bool) (us : Nat → Bool) (u v : Nat) : Prop := (∃ c, c < 64 ∧ u = 2 * c ∧ v = 2 * c + 1 ∧ us c = false) ∨ (∃ c, c < 64 ∧ u = 2 * c + 1 ∧ v = 2 * c ∧ us c = true) ∨ (∃ c w, c < 64 ∧ 1 ≤ w ∧ w ≤ 4 ∧ u = 2 * c + 1 ∧ v = 2 * nxc c w ∧ isS F c = true ∧ isS F (nxc c w) = true ∧ g c w = false) ∨ (∃ c w, c < 64 ∧ 1 ≤ w ∧ w ≤ 4 ∧ u = 2 * nxc c w ∧ v = 2 * c + 1 ∧ nxc c w < 64 ∧ g c w = true)
def upB (us : Nat → Bool) (c : Nat) (v : Bool) : Nat → Bool := fun d => if d = c then v else us d
/-- what a step of the new way does -/
def Tn (g : Nat → Nat → Bool) (us : Nat → Bool) (u v : Nat) (g' : Nat → Nat → Bool) (us' : Nat → Bool) : Prop := (u / 2 = v / 2 ∧ g' = g ∧ us' = upB us (u / 2) (decide (v % 2 = 1))) ∨ (u / 2 ≠ v / 2 ∧ us' = us ∧ ((u % 2 = 1 ∧ ∃ w, 1 ≤ w ∧ w ≤ 4 ∧ nxc (u / 2) w = v / 2 ∧ g' = u2 g (u / 2) w true) ∨ (u % 2 = 0 ∧ ∃ w, 1 ≤ w ∧ w ≤ 4 ∧ nxc (v / 2) w = u / 2 ∧ g' = u2 g (v / 2) w false)))
theorem Tn_B {u v : Nat} (hV : Vd F g us u v) (hT : Tn g us u v g' us') (hf : FV F g) (h : Bal g us a b k v) (ha : a < 64) (hb : b < 64) (hab : a ≠ b) (hu : u ≠ 2 * a) (hv : v ≠ 2 * a) (hu2 : u ≠ 2 * b) (hvb : v ≠ 2 * b + 1) (hub : u ≠ 2 * b + 1) (hva : v ≠ 2 * a + 1) : Bal g' us' a b k u ∧ FV F g' := by
  obtain ⟨b1, b2, b3, b4, b5, b6, b7⟩ := h
  rcases hV with ⟨c, c1, c2, c3, c4⟩ | ⟨c, c1, c2, c3, c4⟩ | ⟨c, w, c1, c2, c3, c4, c5, c6, c7, c8⟩ | ⟨c, w, c1, c2, c3, c4, c5, c6, c7⟩
  · -- through a cell
    have eu : u / 2 = c := by omega
    have ev : v / 2 = c := by omega
    rcases hT with ⟨_, t2, t3⟩ | ⟨t1, _⟩
    · rw [eu, show v % 2 = 1 by omega] at t3
      subst t2
      have us_ : ∀ d, us' d = if d = c then true else us d := fun d => by rw [t3]; rfl
      refine ⟨⟨by rw [us_, if_neg (by omega)]; exact b1, by rw [us_, if_neg (by omega)]; exact b2, fun d d1 d2 d3 => ?_, fun d d1 d2 d3 => ?_, b5, b6, ?_⟩, hf⟩
      · have q := b3 d d1 d2 d3
        rw [us_]
        by_cases e : d = c
        · subst e
          rw [c4, if_neg (by omega)] at q
          rw [if_pos rfl, if_pos c2]; simp at q ⊢; omega
        · rw [if_neg e, if_neg (by omega)]; rw [if_neg (by omega)] at q; exact q
      · have q := b4 d d1 d2 d3
        rw [us_]
        by_cases e : d = c
        · subst e
          rw [c4, if_pos c3] at q
          rw [if_pos rfl, if_neg (by omega)]; simp at q ⊢; omega
        · rw [if_neg e, if_neg (by omega)]; rw [if_neg (by omega)] at q; exact q
      · rw [if_neg (by omega)] at b7 ⊢; exact b7
    · omega
  · -- back through a cell
    have eu : u / 2 = c := by omega
    have ev : v / 2 = c := by omega
    rcases hT with ⟨_, t2, t3⟩ | ⟨t1, _⟩
    · rw [eu, show v % 2 = 0 by omega] at t3
      subst t2
      have us_ : ∀ d, us' d = if d = c then false else us d := fun d => by rw [t3]; rfl
      refine ⟨⟨by rw [us_]; split; rfl; exact b1, by rw [us_]; split; rfl; exact b2, fun d d1 d2 d3 => ?_, fun d d1 d2 d3 => ?_, b5, b6, ?_⟩, hf⟩
      · have q := b3 d d1 d2 d3
        rw [us_]
        by_cases e : d = c
        · subst e
          rw [c4, if_pos c3] at q
          rw [if_pos rfl, if_neg (by omega)]; simp at q ⊢; omega
        · rw [if_neg e, if_neg (by omega)]; rw [if_neg (by omega)] at q; exact q
      · have q := b4 d d1 d2 d3
        rw [us_]
        by_cases e : d = c
        · subst e
          rw [c4, if_neg (by omega)] at q
          rw [if_pos rfl, if_pos c2]; simp at q ⊢; omega
        · rw [if_neg e, if_neg (by omega)]; rw [if_neg (by omega)] at q; exact q
      · have ca : c ≠ a := fun e => by rw [e, b1] at c4; exact absurd c4 (by decide)
        rw [if_neg (by omega)] at b7 ⊢; exact b7
    · omega
  · -- over an edge
    have hn := isS_lt c7
    have eu : u / 2 = c := by omega
    have ev : v / 2 = nxc c w := by omega
    have nn := nx_n c c1 w (by omega)
    rcases hT with ⟨t1, _⟩ | ⟨_, t2, t3 | t3⟩
    · omega
    · obtain ⟨_, w', w1, w2, w3, w4⟩ := t3
      rw [eu] at w3 w4
      have ew : w = w' := nx_w c c1 w (by omega) w' (by omega) c2 w1 hn (by rw [w3, ev])
      subst ew
      have ho : ∀ d, ou g' d = ou g d + (if d = c then 1 else 0) := fun d => by
        have := ou_u (g := g) (c := c) (d := d) true c2 c3
        rw [← w4, c8] at this
        by_cases e : d = c
        · rw [if_pos e, if_pos e] at this; rw [if_pos e]; simp at this; omega
        · rw [if_neg e, if_neg e] at this; rw [if_neg e]; omega
      have hi : ∀ d, d < 64 → ic g' d = ic g d + (if d = nxc c w then 1 else 0) := fun d dl => by
        have := ic_u (g := g) (c := c) (d := d) true c1 c2 c3 hn dl
        rw [← w4, c8] at this
        by_cases e : d = nxc c w
        · rw [if_pos e, if_pos e] at this; rw [if_pos e]; simp at this; omega
        · rw [if_neg e, if_neg e] at this; rw [if_neg e]; omega
      refine ⟨⟨by rw [t2]; exact b1, by rw [t2]; exact b2, fun d d1 d2 d3 => ?_, fun d d1 d2 d3 => ?_, by rw [hi a ha, b5, if_neg (by omega)], by rw [ho, b6, if_neg (by omega)], ?_⟩, ?_⟩
      · have q := b3 d d1 d2 d3
        rw [t2, hi d d1]
        by_cases e : d = nxc c w
        · rw [if_pos (by omega)] at q; rw [if_pos e, if_neg (by omega)]; omega
        · rw [if_neg (by omega)] at q; rw [if_neg e, if_neg (by omega)]; omega
      · have q := b4 d d1 d2 d3
        rw [t2, ho]
        by_cases e : d = c
        · rw [if_neg (by omega)] at q; rw [if_pos e, if_pos (by omega)]; omega
        · rw [if_neg (by omega)] at q; rw [if_neg e, if_neg (by omega)]; omega
      · rw [ho]
        by_cases e : a = c
        · rw [if_neg (by omega)] at b7; rw [if_pos e, if_pos (by omega)]; omega
        · rw [if_neg (by omega)] at b7; rw [if_neg e, if_neg (by omega)]; omega
      · intro d j hd
        rw [w4] at hd
        by_cases e : d = c ∧ j = w
        · rw [e.1, e.2]; exact ⟨c2, c3, c6, c7⟩
        · apply hf d j
          by_cases e1 : d = c
          · rw [e1] at hd ⊢; rwa [u2_k _ _ _ _ _ (fun e2 => e ⟨e1, e2⟩)] at hd
          · rwa [u2_a _ _ _ _ _ e1] at hd
    · omega
  · -- back over an edge
    have nn := nx_n c c1 w (by omega)
    have eu : u / 2 = nxc c w := by omega
    have ev : v / 2 = c := by omega
    have cb : c ≠ b := fun e => by omega
    rcases hT with ⟨t1, _⟩ | ⟨_, t2, t3 | t3⟩
    · omega
    · omega
    · obtain ⟨_, w', w1, w2, w3, w4⟩ := t3
      rw [ev] at w3 w4
      have ew : w = w' := nx_w c c1 w (by omega) w' (by omega) c2 w1 c6 (by rw [w3, eu])
      subst ew
      have ho : ∀ d, ou g' d + (if d = c then 1 else 0) = ou g d := fun d => by
        have := ou_u (g := g) (c := c) (d := d) false c2 c3
        rw [← w4, c7] at this
        by_cases e : d = c
        · rw [if_pos e, if_pos e] at this; rw [if_pos e]; simp at this; omega
        · rw [if_neg e, if_neg e] at this; rw [if_neg e]; omega
      have hi : ∀ d, d < 64 → ic g' d + (if d = nxc c w then 1 else 0) = ic g d := fun d dl => by
        have := ic_u (g := g) (c := c) (d := d) false c1 c2 c3 c6 dl
        rw [← w4, c7] at this
        by_cases e : d = nxc c w
        · rw [if_pos e, if_pos e] at this; rw [if_pos e]; simp at this; omega
        · rw [if_neg e, if_neg e] at this; rw [if_neg e]; omega
      have hia := hi a ha
      have hoa := ho a
      have hob := ho b
      refine ⟨⟨by rw [t2]; exact b1, by rw [t2]; exact b2, fun d d1 d2 d3 => ?_, fun d d1 d2 d3 => ?_, by omega, by omega, ?_⟩, ?_⟩
      · have q := b3 d d1 d2 d3
        have := hi d d1
        rw [t2]
        by_cases e : d = nxc c w
        · rw [if_pos e] at this; rw [if_neg (by omega)] at q; rw [if_pos (by omega)]; omega
        · rw [if_neg e] at this; rw [if_neg (by omega)] at q; rw [if_neg (by omega)]; omega
      · have q := b4 d d1 d2 d3
        have := ho d
        rw [t2]
        by_cases e : d = c
        · rw [if_pos e] at this; rw [if_pos (by omega)] at q; rw [if_neg (by omega)]; omega
        · rw [if_neg e] at this; rw [if_neg (by omega)] at q; rw [if_neg (by omega)]; omega
      · by_cases e : a = c
        · exfalso; omega
        · rw [if_neg e] at hoa; rw [if_neg (by omega)] at b7 ⊢; omega
      · intro d j hd
        apply hf d j
        rw [w4] at hd
        by_cases e : d = c ∧ j = w
        · rw [e.1, e.2]; exact c7
        · by_cases e1 : d = c
          · rw [e1] at hd ⊢; rwa [u2_k _ _ _ _ _ (fun e2 => e ⟨e1, e2⟩)] at hd
          · rwa [u2_a _ _ _ _ _ e1] at hd
end CU0
