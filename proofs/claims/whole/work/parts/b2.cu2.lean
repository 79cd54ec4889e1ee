section CU2
variable {g g' : Nat → Nat → Bool} {us us' : Nat → Bool} {F : Nat → Nat → Nat} {a b k k' x c d w : Nat} {V : Nat → Bool}
def bz (x : Bool) : Int := if x then 1 else 0
theorem bz_n (x : Bool) : bz x = (x.toNat : Int) := by cases x <;> rfl
/-- what a search has reached when it finds nothing more -/
def Cl (F : Nat → Nat → Nat) (g : Nat → Nat → Bool) (us : Nat → Bool) (a : Nat) (V : Nat → Bool) : Prop := (∀ c, c < 64 → c ≠ a → V (2 * c) = true → us c = false → V (2 * c + 1) = true) ∧ (∀ c, c < 64 → c ≠ a → V (2 * c + 1) = true → us c = true → V (2 * c) = true) ∧ (∀ c w, c < 64 → 1 ≤ w → w ≤ 4 → V (2 * c + 1) = true → isS F (nxc c w) = true → g c w = false → nxc c w ≠ a → V (2 * nxc c w) = true) ∧ (∀ c w, c < 64 → 1 ≤ w → w ≤ 4 → nxc c w < 64 → isS F c = true → V (2 * nxc c w) = true → g c w = true → V (2 * c + 1) = true)
def eT (V : Nat → Bool) (g : Nat → Nat → Bool) (w c : Nat) : Int := if nxc c w < 64 then bz (V (2 * nxc c w)) * bz (g c w) else 0
def tm (V : Nat → Bool) (g : Nat → Nat → Bool) (us : Nat → Bool) (c : Nat) : Int := bz (us c) * (bz (V (2 * c)) - bz (V (2 * c + 1))) + ((bz (V (2 * c + 1)) * bz (g c 1) - eT V g 1 c) + (bz (V (2 * c + 1)) * bz (g c 2) - eT V g 2 c) + (bz (V (2 * c + 1)) * bz (g c 3) - eT V g 3 c) + (bz (V (2 * c + 1)) * bz (g c 4) - eT V g 4 c))
def sT (V : Nat → Bool) (g : Nat → Nat → Bool) (us : Nat → Bool) (c : Nat) : Int := bz (V (2 * c + 1)) * ((ou g c : Int) - bz (us c)) + bz (V (2 * c)) * (bz (us c) - (ic g c : Int))
theorem it_s (V : Nat → Bool) (g : Nat → Nat → Bool) (w : Nat) (hw : 1 ≤ w) (hw2 : w ≤ 4) : smI (fun d => bz (V (2 * d)) * (it g d w : Int)) 64 = smI (eT V g (op w)) 64 := by
  have h := rx (fun d e => bz (V (2 * d)) * bz (g e (op w))) w hw hw2
  refine Eq.trans ?_ (h.trans ?_)
  · apply smI_c
    intro d _
    unfold it
    by_cases c : nxc d w < 64
    · rw [if_pos c, if_pos c, bz_n (g _ _)]
    · rw [if_neg c, if_neg c]; simp
  · apply smI_c
    intro c _
    rfl
theorem sT_tm (V : Nat → Bool) (g : Nat → Nat → Bool) (us : Nat → Bool) : smI (sT V g us) 64 = smI (tm V g us) 64 := by
  have h1 := it_s V g 1 (by decide) (by decide)
  have h2 := it_s V g 2 (by decide) (by decide)
  have h3 := it_s V g 3 (by decide) (by decide)
  have h4 := it_s V g 4 (by decide) (by decide)
  have o1 : op 1 = 3 := rfl
  have o2 : op 2 = 4 := rfl
  have o3 : op 3 = 1 := rfl
  have o4 : op 4 = 2 := rfl
  rw [o1] at h1
  rw [o2] at h2
  rw [o3] at h3
  rw [o4] at h4
  -- the sum of what comes in
  let A : Nat → Int := fun c => bz (us c) * (bz (V (2 * c)) - bz (V (2 * c + 1))) + bz (V (2 * c + 1)) * bz (g c 1) + bz (V (2 * c + 1)) * bz (g c 2) + bz (V (2 * c + 1)) * bz (g c 3) + bz (V (2 * c + 1)) * bz (g c 4)
  have e1 : smI (sT V g us) 64 = smI (fun c => A c - ((bz (V (2 * c)) * (it g c 1 : Int) + bz (V (2 * c)) * (it g c 2 : Int)) + (bz (V (2 * c)) * (it g c 3 : Int) + bz (V (2 * c)) * (it g c 4 : Int)))) 64 := by
    apply smI_c
    intro c _
    show bz (V (2 * c + 1)) * ((ou g c : Int) - bz (us c)) + bz (V (2 * c)) * (bz (us c) - (ic g c : Int)) = _
    have eo : (ou g c : Int) = bz (g c 1) + bz (g c 2) + bz (g c 3) + bz (g c 4) := by
      unfold ou; rw [bz_n, bz_n, bz_n, bz_n]; simp
    have ei : (ic g c : Int) = (it g c 1 : Int) + (it g c 2 : Int) + (it g c 3 : Int) + (it g c 4 : Int) := by
      unfold ic; simp
    rw [eo, ei]
    show _ = (bz (us c) * (bz (V (2 * c)) - bz (V (2 * c + 1))) + bz (V (2 * c + 1)) * bz (g c 1) + bz (V (2 * c + 1)) * bz (g c 2) + bz (V (2 * c + 1)) * bz (g c 3) + bz (V (2 * c + 1)) * bz (g c 4)) - _
    cases V (2 * c) <;> cases V (2 * c + 1) <;> simp [bz] <;> omega
  have e2 : smI (tm V g us) 64 = smI (fun c => A c - ((eT V g 3 c + eT V g 4 c) + (eT V g 1 c + eT V g 2 c))) 64 := by
    apply smI_c
    intro c _
    show tm V g us c = (bz (us c) * (bz (V (2 * c)) - bz (V (2 * c + 1))) + bz (V (2 * c + 1)) * bz (g c 1) + bz (V (2 * c + 1)) * bz (g c 2) + bz (V (2 * c + 1)) * bz (g c 3) + bz (V (2 * c + 1)) * bz (g c 4)) - _
    unfold tm
    omega
  rw [e1, e2, smI_s, smI_s]
  have f1 := smI_a (fun c => bz (V (2 * c)) * (it g c 1 : Int) + bz (V (2 * c)) * (it g c 2 : Int)) (fun c => bz (V (2 * c)) * (it g c 3 : Int) + bz (V (2 * c)) * (it g c 4 : Int)) 64
  have f2 := smI_a (fun c => bz (V (2 * c)) * (it g c 1 : Int)) (fun c => bz (V (2 * c)) * (it g c 2 : Int)) 64
  have f3 := smI_a (fun c => bz (V (2 * c)) * (it g c 3 : Int)) (fun c => bz (V (2 * c)) * (it g c 4 : Int)) 64
  have f4 := smI_a (fun c => eT V g 3 c + eT V g 4 c) (fun c => eT V g 1 c + eT V g 2 c) 64
  have f5 := smI_a (fun c => eT V g 3 c) (fun c => eT V g 4 c) 64
  have f6 := smI_a (fun c => eT V g 1 c) (fun c => eT V g 2 c) 64
  rw [f1, f2, f3, f4, f5, f6, h1, h2, h3, h4]
theorem sT_k (h : Bal g us a b k (2 * b)) (ha : a < 64) (hab : a ≠ b) (va : V (2 * a + 1) = true) (vb : V (2 * b) = false) : smI (sT V g us) 64 = (k : Int) := by
  obtain ⟨h1, h2, h3, h4, h5, h6, h7⟩ := h
  apply smI_1 64 ha
  · unfold sT
    rw [if_neg (by omega)] at h7
    rw [va, h1, h5, h7]; simp [bz]
  · intro c hc hca
    unfold sT
    by_cases e : c = b
    · rw [e, vb, h6, h2]; simp [bz]
    · have q3 := h3 c hc hca e
      have q4 := h4 c hc hca e
      rw [if_neg (by omega)] at q3
      rw [if_neg (by omega)] at q4
      have e3 : bz (us c) - (ic g c : Int) = 0 := by rw [bz_n]; omega
      have e4 : (ou g c : Int) - bz (us c) = 0 := by rw [bz_n]; omega
      rw [e3, e4]; simp
theorem ed_le (hf : FV F g) (hf' : FV F g') (hC : Cl F g us a V) (hia : ic g' a = 0) {c w : Nat} (hc : c < 64) (hw : 1 ≤ w) (hw2 : w ≤ 4) : bz (V (2 * c + 1)) * bz (g' c w) - eT V g' w c ≤ bz (V (2 * c + 1)) * bz (g c w) - eT V g w c := by
  obtain ⟨_, _, k3, k4⟩ := hC
  unfold eT
  by_cases n : nxc c w < 64
  · rw [if_pos n, if_pos n]
    have q3 := k3 c w hc hw hw2
    have q4 := k4 c w hc hw hw2 n
    cases v1 : V (2 * c + 1) with
    | true =>
      cases v2 : V (2 * nxc c w) with
      | true => simp [bz]
      | false =>
        have g1 : g' c w = true → g c w = true := fun hg => by
          cases hg2 : g c w with
          | true => rfl
          | false =>
            have s := (hf' c w hg).2.2.2
            by_cases e : nxc c w = a
            · have := ic_1 hc hw hw2 n hg
              rw [e] at this; omega
            · have := q3 v1 s hg2 e
              rw [this] at v2; exact absurd v2 (by decide)
        cases hg : g' c w with
        | false => cases g c w <;> simp [bz]
        | true => rw [g1 hg]; simp [bz]
    | false =>
      cases v2 : V (2 * nxc c w) with
      | false => simp [bz]
      | true =>
        have g1 : g c w = false := by
          cases hg : g c w with
          | false => rfl
          | true =>
            have := q4 (hf c w hg).2.2.1 v2 hg
            rw [this] at v1; exact absurd v1 (by decide)
        rw [g1]
        cases g' c w <;> simp [bz]
  · rw [if_neg n, if_neg n]
    have z : ∀ {h : Nat → Nat → Bool}, FV F h → h c w = false := fun {h} hh => by
      cases e : h c w with
      | false => rfl
      | true => exact absurd (isS_lt (hh c w e).2.2.2) n
    rw [z hf, z hf']; exact Int.le_refl _
/-- no flow is worth more than one whose search has ended -/
theorem dual (h : Bal g us a b k (2 * b)) (hf : FV F g) (h' : Bal g' us' a b k' (2 * b)) (hf' : FV F g') (ha : a < 64) (hab : a ≠ b) (va : V (2 * a + 1) = true) (vb : V (2 * b) = false) (hC : Cl F g us a V) : k' ≤ k := by
  have e1 := sT_k h ha hab va vb
  have e2 := sT_k h' ha hab va vb
  rw [sT_tm] at e1 e2
  have : smI (tm V g' us') 64 ≤ smI (tm V g us) 64 := by
    apply smI_le
    intro c hc
    unfold tm
    have x1 := ed_le (V := V) (us := us) hf hf' hC h'.2.2.2.2.1 hc (w := 1) (by decide) (by decide)
    have x2 := ed_le (V := V) (us := us) hf hf' hC h'.2.2.2.2.1 hc (w := 2) (by decide) (by decide)
    have x3 := ed_le (V := V) (us := us) hf hf' hC h'.2.2.2.2.1 hc (w := 3) (by decide) (by decide)
    have x4 := ed_le (V := V) (us := us) hf hf' hC h'.2.2.2.2.1 hc (w := 4) (by decide) (by decide)
    have x0 : bz (us' c) * (bz (V (2 * c)) - bz (V (2 * c + 1))) ≤ bz (us c) * (bz (V (2 * c)) - bz (V (2 * c + 1))) := by
      by_cases ca : c = a
      · rw [ca, h.1, h'.1]; exact Int.le_refl _
      · cases v1 : V (2 * c) with
        | true =>
          cases v2 : V (2 * c + 1) with
          | true => simp [bz]
          | false =>
            have : us c = true := by
              cases hu : us c with
              | true => rfl
              | false =>
                have := hC.1 c hc ca v1 hu
                rw [this] at v2; exact absurd v2 (by decide)
            rw [this]; cases us' c <;> simp [bz]
        | false =>
          cases v2 : V (2 * c + 1) with
          | false => simp [bz]
          | true =>
            have : us c = false := by
              cases hu : us c with
              | false => rfl
              | true =>
                have := hC.2.1 c hc ca v2 hu
                rw [this] at v1; exact absurd v1 (by decide)
            rw [this]; cases us' c <;> simp [bz]
    omega
  omega
end CU2
