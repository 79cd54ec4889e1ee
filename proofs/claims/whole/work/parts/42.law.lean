/-! the law's loop -/
theorem lg_cmp_sf (x : Int64) : lg_cmp x x = 0 := by
  unfold lg_cmp
  simp
def Bas (z : Nat) (E : aEt) (S : aH) : Prop := aE S = E ∧ aK S (z + 0) = 9 ∧ aK S (z + 132) = 11 ∧ aK S (z + 146) = 14 ∧ aN S (z + 146) = 1
def OpI (z : Nat) (E : aEt) (Iv Iw : aH → Prop) (u w : Nat) (as : List Value) : Prop := ∀ S, Iv S → ∃ r S1 S2, Ca lx_ u (.ref (z + 0) :: as) S = some (some (.int r), S1) ∧ Bas z E S1 ∧ Ca lx_ w (.ref (z + 132) :: as) S1 = some (some (.int r), S2) ∧ Iw S2
def OpJ (z : Nat) (E : aEt) (Iv Iw : aH → Prop) (u w : Nat) (as : List Value) : Prop := ∀ S, Iv S → ∃ r S1 S2, Ca lx_ u (.ref (z + 0) :: as) S = some (some (.long r), S1) ∧ Bas z E S1 ∧ Ca lx_ w (.ref (z + 132) :: as) S1 = some (some (.long r), S2) ∧ Iw S2
def OpL (z : Nat) (E : aEt) (Iv Iw : aH → Prop) (i : Int32) : Prop := ∀ S, Iv S → ∃ k g S1 S2 S3, Ca lx_ 905 [.ref (z + 0), .int i, .ref (z + 146)] S = some (some (.int k), S1) ∧ Bas z E S1 ∧ Ca lx_ 311 [.ref (z + 132), .int i] S1 = some (some (.int g), S2) ∧ Bas z E S2 ∧ Ca lx_ 181 [.ref (z + 132)] S2 = some (some (.int k), S3) ∧ (k = 0 → aJ S3 (z + 146) 0 = g.toInt64) ∧ Bas z E S3 ∧ Iw S3
def Ops (z : Nat) (E : aEt) (Iv Iw : aH → Prop) : Prop := ∀ v1 v2 v3 v4 v5 : Int32, OpI z E Iv Iw 112 222 [.int v1, .int v2, .int v3, .int v4, .int v5] ∧ OpI z E Iv Iw 113 223 [.int v1] ∧ OpI z E Iv Iw 114 224 [] ∧ OpI z E Iv Iw 115 225 [] ∧ OpI z E Iv Iw 116 241 [.int v1, .int v2, .int v3] ∧ OpI z E Iv Iw 117 242 [.int v1, .int v2] ∧ OpI z E Iv Iw 118 243 [.int v1] ∧ OpI z E Iv Iw 119 245 [] ∧ OpI z E Iv Iw 120 246 [.int v1, .int v2, .int v3, .int v4] ∧ OpI z E Iv Iw 121 247 [.int v1, .int v2] ∧ OpI z E Iv Iw 122 248 [.int v1] ∧ OpI z E Iv Iw 123 249 [.int v1] ∧ OpI z E Iv Iw 124 251 [.int v1, .int v2] ∧ OpI z E Iv Iw 125 254 [] ∧ OpI z E Iv Iw 126 255 [] ∧ OpI z E Iv Iw 127 257 [.int v1, .int v2] ∧ OpI z E Iv Iw 128 258 [.int v1] ∧ OpI z E Iv Iw 129 262 [.int v1, .int v2, .int v3, .int v4] ∧ OpI z E Iv Iw 130 263 [.int v1, .int v2, .int v3, .int v4] ∧ OpI z E Iv Iw 131 264 [.int v1] ∧ OpI z E Iv Iw 132 265 [.int v1, .int v2, .int v3] ∧ OpI z E Iv Iw 133 268 [] ∧ OpI z E Iv Iw 134 274 [.int v1] ∧ OpI z E Iv Iw 135 277 [.int v1, .int v2, .int v3] ∧ OpI z E Iv Iw 136 278 [.int v1] ∧ OpI z E Iv Iw 137 282 [] ∧ OpI z E Iv Iw 138 284 [.int v1] ∧ OpI z E Iv Iw 139 285 [.int v1] ∧ OpI z E Iv Iw 140 287 [.int v1, .int v2, .int v3] ∧ OpI z E Iv Iw 141 288 [.int v1] ∧ OpI z E Iv Iw 142 290 [.int v1] ∧ OpI z E Iv Iw 143 291 [.int v1] ∧ OpI z E Iv Iw 144 292 [.int v1, .int v2] ∧ OpI z E Iv Iw 146 297 [.int v1] ∧ OpI z E Iv Iw 147 298 [.int v1] ∧ OpI z E Iv Iw 150 302 [.int v1] ∧ OpI z E Iv Iw 151 305 [] ∧ OpI z E Iv Iw 152 306 [.int v1, .int v2, .int v3] ∧ OpI z E Iv Iw 153 307 [.int v1, .int v2, .int v3] ∧ OpI z E Iv Iw 154 308 [] ∧ OpI z E Iv Iw 155 309 [] ∧ OpI z E Iv Iw 156 310 [.int v1] ∧ OpI z E Iv Iw 157 312 [.int v1] ∧ OpI z E Iv Iw 158 313 [] ∧ (∀ b1 b2 b3 : Int32, (b1 = 0 ∨ b1 = 1) → (b2 = 0 ∨ b2 = 1) → (b3 = 0 ∨ b3 = 1) → OpI z E Iv Iw 145 295 [.int v1, .int b1, .int b2, .int b3]) ∧ (∀ b1 : Int32, (b1 = 0 ∨ b1 = 1) → OpJ z E Iv Iw 148 300 [.int v1, .int b1]) ∧ (∀ b1 : Int32, (b1 = 0 ∨ b1 = 1) → OpJ z E Iv Iw 149 301 [.int b1]) ∧ OpL z E Iv Iw v1 ∧ (∀ S, Iv S → Iw S)
theorem ixk {m k L : Nat} (h : m + k < L) (hL : L ≤ 3072) : ix_ (nI m + nI k) L := by
  rw [nI_add]; exact ix_n h (by omega)
theorem lt_end {L m : Nat} (hL : L ≤ 3072) (hm : m ≤ 4000) : (Int32.ofNat L - 6 < nI m) ↔ L < m + 6 := by
  have e : Int32.ofNat L - 6 = nI L - nI 6 := rfl
  rw [e, Int32.lt_iff_toInt_lt, pk_sub_toInt (by omega) (by omega), nI_toInt (by omega)]
  omega
set_option maxHeartbeats 4000000 in
theorem law_step {z : Nat} {g : Nat → Nat} {b0 L : Nat} {xs : Nat → Int32} {Iv Iw : aH → Prop} (hB : ∀ S, Iv S → Bas z (g, b0, L, xs) S) (hO : Ops z (g, b0, L, xs) Iv Iw) (hL : L ≤ 3072) {m : Nat} (hm : m + 6 ≤ L) {b : aB} (hb1 : 12 ≤ b.1) (hb2 : 177 ≤ b.2) {S : aH} (hS : Iv S) {r : Option Value × aH}
    (kk : ∀ (b' : aB) (S' : aH), b.1 - 12 ≤ b'.1 → b.2 - 177 ≤ b'.2 → Iw S' → ∃ S2, Am lx_ 315 14 [some (.ref b0), some (.ref (z + 0)), some (.ref (z + 132)), some (.ref (z + 146)), some (.int (nI m + 6)), none, none] [] b' S' = some (some (.int 1), S2)) : ∃ S2, Am lx_ 315 14 [some (.ref b0), some (.ref (z + 0)), some (.ref (z + 132)), some (.ref (z + 146)), some (.int (nI m)), none, none] [] b S = some (some (.int 1), S2) := by
  obtain ⟨hE, hk1, hk2, hk3, hn3⟩ := hB S hS
  have hx1 : ∀ S' : aH, Bas z (g, b0, L, xs) S' → b0 = (aE S').2.1 ∧ ix_ (nI m + 1) (aE S').2.2.1 := fun S' h => by rw [h.1]; exact ⟨rfl, ixk (k := 1) (L := L) (by omega) hL⟩
  have hx2 : ∀ S' : aH, Bas z (g, b0, L, xs) S' → b0 = (aE S').2.1 ∧ ix_ (nI m + 2) (aE S').2.2.1 := fun S' h => by rw [h.1]; exact ⟨rfl, ixk (k := 2) (L := L) (by omega) hL⟩
  have hx3 : ∀ S' : aH, Bas z (g, b0, L, xs) S' → b0 = (aE S').2.1 ∧ ix_ (nI m + 3) (aE S').2.2.1 := fun S' h => by rw [h.1]; exact ⟨rfl, ixk (k := 3) (L := L) (by omega) hL⟩
  have hx4 : ∀ S' : aH, Bas z (g, b0, L, xs) S' → b0 = (aE S').2.1 ∧ ix_ (nI m + 4) (aE S').2.2.1 := fun S' h => by rw [h.1]; exact ⟨rfl, ixk (k := 4) (L := L) (by omega) hL⟩
  have hx5 : ∀ S' : aH, Bas z (g, b0, L, xs) S' → b0 = (aE S').2.1 ∧ ix_ (nI m + 5) (aE S').2.2.1 := fun S' h => by rw [h.1]; exact ⟨rfl, ixk (k := 5) (L := L) (by omega) hL⟩
  rw [e_315_14]
  rw [gd_t (by rw [hE]), if_neg (by rw [hE]; exact fun h => absurd ((lt_end hL (by omega)).mp h) (by omega)), gd_t (by rw [hE]; exact ⟨rfl, show ix_ (nI m) L from ix_n (by omega) (by omega)⟩)]
  have H := hO (xs (nI m + 1).toNatClampNeg) (xs (nI m + 2).toNatClampNeg) (xs (nI m + 3).toNatClampNeg) (xs (nI m + 4).toNatClampNeg) (xs (nI m + 5).toNatClampNeg)
  have hv : ∀ S' : aH, Bas z (g, b0, L, xs) S' → ∀ k : Nat, (aE S').2.2.2 k = xs k := fun S' h k => by rw [h.1]
  have hS0 := hB S hS
  refine dite (((aE S).2.2.2 (nI m).toNatClampNeg) &&& 63 = 0) (fun h0 => ?_) (fun h0 => ?_)
  · rw [if_pos h0]
    obtain ⟨r1, S1, S2, c1, hS1, c2, hS2⟩ := H.1 S hS
    rw [gd_t (hx1 S hS0), gd_t (hx2 S hS0), gd_t (hx3 S hS0), gd_t (hx4 S hS0), gd_t (hx5 S hS0), gd_t hk1]
    simp only [hv S hS0]
    rw [c1, cI_s]
    rw [gd_t (hx1 S1 hS1), gd_t (hx2 S1 hS1), gd_t (hx3 S1 hS1), gd_t (hx4 S1 hS1), gd_t (hx5 S1 hS1), gd_t hS1.2.2.1]
    simp only [hv S1 hS1]
    rw [c2, cI_s, if_pos rfl]
    exact kk _ _ (Nat.sub_le _ _) (Nat.sub_le _ _) hS2
  rw [if_neg h0]
  refine dite (((aE S).2.2.2 (nI m).toNatClampNeg) &&& 63 = 1) (fun h1 => ?_) (fun h1 => ?_)
  · rw [if_pos h1]
    obtain ⟨r1, S1, S2, c1, hS1, c2, hS2⟩ := H.2.1 S hS
    rw [gd_t (hx1 S hS0), gd_t hk1]
    simp only [hv S hS0]
    rw [c1, cI_s]
    rw [gd_t (hx1 S1 hS1), gd_t hS1.2.2.1]
    rw [gd_t ⟨hb1, hb2⟩]
    simp only [hv S1 hS1]
    rw [c2, cI_s, if_pos rfl]
    exact kk _ _ (Nat.le_refl _) (Nat.le_refl _) hS2
  rw [if_neg h1]
  refine dite (((aE S).2.2.2 (nI m).toNatClampNeg) &&& 63 = 2) (fun h2 => ?_) (fun h2 => ?_)
  · rw [if_pos h2]
    obtain ⟨r1, S1, S2, c1, hS1, c2, hS2⟩ := H.2.2.1 S hS
    rw [gd_t hk1]
    rw [c1, cI_s]
    rw [gd_t hS1.2.2.1]
    rw [c2, cI_s, if_pos rfl]
    exact kk _ _ (Nat.sub_le _ _) (Nat.sub_le _ _) hS2
  rw [if_neg h2]
  refine dite (((aE S).2.2.2 (nI m).toNatClampNeg) &&& 63 = 3) (fun h3 => ?_) (fun h3 => ?_)
  · rw [if_pos h3]
    obtain ⟨r1, S1, S2, c1, hS1, c2, hS2⟩ := H.2.2.2.1 S hS
    rw [gd_t hk1]
    rw [c1, cI_s]
    rw [gd_t hS1.2.2.1]
    rw [c2, cI_s, if_pos rfl]
    exact kk _ _ (Nat.sub_le _ _) (Nat.sub_le _ _) hS2
  rw [if_neg h3]
  refine dite (((aE S).2.2.2 (nI m).toNatClampNeg) &&& 63 = 4) (fun h4 => ?_) (fun h4 => ?_)
  · rw [if_pos h4]
    obtain ⟨r1, S1, S2, c1, hS1, c2, hS2⟩ := H.2.2.2.2.1 S hS
    rw [gd_t (hx1 S hS0), gd_t (hx2 S hS0), gd_t (hx3 S hS0), gd_t hk1]
    simp only [hv S hS0]
    rw [c1, cI_s]
    rw [gd_t (hx1 S1 hS1), gd_t (hx2 S1 hS1), gd_t (hx3 S1 hS1), gd_t hS1.2.2.1]
    simp only [hv S1 hS1]
    rw [c2, cI_s, if_pos rfl]
    exact kk _ _ (Nat.sub_le _ _) (Nat.sub_le _ _) hS2
  rw [if_neg h4]
  refine dite (((aE S).2.2.2 (nI m).toNatClampNeg) &&& 63 = 5) (fun h5 => ?_) (fun h5 => ?_)
  · rw [if_pos h5]
    obtain ⟨r1, S1, S2, c1, hS1, c2, hS2⟩ := H.2.2.2.2.2.1 S hS
    rw [gd_t (hx1 S hS0), gd_t (hx2 S hS0), gd_t hk1]
    simp only [hv S hS0]
    rw [c1, cI_s]
    rw [gd_t (hx1 S1 hS1), gd_t (hx2 S1 hS1), gd_t hS1.2.2.1]
    simp only [hv S1 hS1]
    rw [c2, cI_s, if_pos rfl]
    exact kk _ _ (Nat.sub_le _ _) (Nat.sub_le _ _) hS2
  rw [if_neg h5]
  refine dite (((aE S).2.2.2 (nI m).toNatClampNeg) &&& 63 = 6) (fun h6 => ?_) (fun h6 => ?_)
  · rw [if_pos h6]
    obtain ⟨r1, S1, S2, c1, hS1, c2, hS2⟩ := H.2.2.2.2.2.2.1 S hS
    rw [gd_t (hx1 S hS0), gd_t hk1]
    simp only [hv S hS0]
    rw [c1, cI_s]
    rw [gd_t (hx1 S1 hS1), gd_t hS1.2.2.1]
    simp only [hv S1 hS1]
    rw [c2, cI_s, if_pos rfl]
    exact kk _ _ (Nat.sub_le _ _) (Nat.sub_le _ _) hS2
  rw [if_neg h6]
  refine dite (((aE S).2.2.2 (nI m).toNatClampNeg) &&& 63 = 7) (fun h7 => ?_) (fun h7 => ?_)
  · rw [if_pos h7]
    obtain ⟨r1, S1, S2, c1, hS1, c2, hS2⟩ := H.2.2.2.2.2.2.2.1 S hS
    rw [gd_t hk1]
    rw [c1, cI_s]
    rw [gd_t hS1.2.2.1]
    rw [c2, cI_s, if_pos rfl]
    exact kk _ _ (Nat.sub_le _ _) (Nat.sub_le _ _) hS2
  rw [if_neg h7]
  refine dite (((aE S).2.2.2 (nI m).toNatClampNeg) &&& 63 = 8) (fun h8 => ?_) (fun h8 => ?_)
  · rw [if_pos h8]
    obtain ⟨r1, S1, S2, c1, hS1, c2, hS2⟩ := H.2.2.2.2.2.2.2.2.1 S hS
    rw [gd_t (hx1 S hS0), gd_t (hx2 S hS0), gd_t (hx3 S hS0), gd_t (hx4 S hS0), gd_t hk1]
    simp only [hv S hS0]
    rw [c1, cI_s]
    rw [gd_t (hx1 S1 hS1), gd_t (hx2 S1 hS1), gd_t (hx3 S1 hS1), gd_t (hx4 S1 hS1), gd_t hS1.2.2.1]
    simp only [hv S1 hS1]
    rw [c2, cI_s, if_pos rfl]
    exact kk _ _ (Nat.sub_le _ _) (Nat.sub_le _ _) hS2
  rw [if_neg h8]
  refine dite (((aE S).2.2.2 (nI m).toNatClampNeg) &&& 63 = 9) (fun h9 => ?_) (fun h9 => ?_)
  · rw [if_pos h9]
    obtain ⟨r1, S1, S2, c1, hS1, c2, hS2⟩ := H.2.2.2.2.2.2.2.2.2.1 S hS
    rw [gd_t (hx1 S hS0), gd_t (hx2 S hS0), gd_t hk1]
    simp only [hv S hS0]
    rw [c1, cI_s]
    rw [gd_t (hx1 S1 hS1), gd_t (hx2 S1 hS1), gd_t hS1.2.2.1]
    simp only [hv S1 hS1]
    rw [c2, cI_s, if_pos rfl]
    exact kk _ _ (Nat.sub_le _ _) (Nat.sub_le _ _) hS2
  rw [if_neg h9]
  refine dite (((aE S).2.2.2 (nI m).toNatClampNeg) &&& 63 = 10) (fun h10 => ?_) (fun h10 => ?_)
  · rw [if_pos h10]
    obtain ⟨r1, S1, S2, c1, hS1, c2, hS2⟩ := H.2.2.2.2.2.2.2.2.2.2.1 S hS
    rw [gd_t (hx1 S hS0), gd_t hk1]
    simp only [hv S hS0]
    rw [c1, cI_s]
    rw [gd_t (hx1 S1 hS1), gd_t hS1.2.2.1]
    simp only [hv S1 hS1]
    rw [c2, cI_s, if_pos rfl]
    exact kk _ _ (Nat.sub_le _ _) (Nat.sub_le _ _) hS2
  rw [if_neg h10]
  refine dite (((aE S).2.2.2 (nI m).toNatClampNeg) &&& 63 = 11) (fun h11 => ?_) (fun h11 => ?_)
  · rw [if_pos h11]
    obtain ⟨r1, S1, S2, c1, hS1, c2, hS2⟩ := H.2.2.2.2.2.2.2.2.2.2.2.1 S hS
    rw [gd_t (hx1 S hS0), gd_t hk1]
    simp only [hv S hS0]
    rw [c1, cI_s]
    rw [gd_t (hx1 S1 hS1), gd_t hS1.2.2.1]
    simp only [hv S1 hS1]
    rw [c2, cI_s, if_pos rfl]
    exact kk _ _ (Nat.sub_le _ _) (Nat.sub_le _ _) hS2
  rw [if_neg h11]
  refine dite (((aE S).2.2.2 (nI m).toNatClampNeg) &&& 63 = 12) (fun h12 => ?_) (fun h12 => ?_)
  · rw [if_pos h12]
    obtain ⟨r1, S1, S2, c1, hS1, c2, hS2⟩ := H.2.2.2.2.2.2.2.2.2.2.2.2.1 S hS
    rw [gd_t (hx1 S hS0), gd_t (hx2 S hS0), gd_t hk1]
    simp only [hv S hS0]
    rw [c1, cI_s]
    rw [gd_t (hx1 S1 hS1), gd_t (hx2 S1 hS1), gd_t hS1.2.2.1]
    simp only [hv S1 hS1]
    rw [c2, cI_s, if_pos rfl]
    exact kk _ _ (Nat.sub_le _ _) (Nat.sub_le _ _) hS2
  rw [if_neg h12]
  refine dite (((aE S).2.2.2 (nI m).toNatClampNeg) &&& 63 = 13) (fun h13 => ?_) (fun h13 => ?_)
  · rw [if_pos h13]
    obtain ⟨r1, S1, S2, c1, hS1, c2, hS2⟩ := H.2.2.2.2.2.2.2.2.2.2.2.2.2.1 S hS
    rw [gd_t hk1]
    rw [c1, cI_s]
    rw [gd_t hS1.2.2.1]
    rw [c2, cI_s, if_pos rfl]
    exact kk _ _ (Nat.sub_le _ _) (Nat.sub_le _ _) hS2
  rw [if_neg h13]
  refine dite (((aE S).2.2.2 (nI m).toNatClampNeg) &&& 63 = 14) (fun h14 => ?_) (fun h14 => ?_)
  · rw [if_pos h14]
    obtain ⟨r1, S1, S2, c1, hS1, c2, hS2⟩ := H.2.2.2.2.2.2.2.2.2.2.2.2.2.2.1 S hS
    rw [gd_t hk1]
    rw [c1, cI_s]
    rw [gd_t hS1.2.2.1]
    rw [c2, cI_s, if_pos rfl]
    exact kk _ _ (Nat.sub_le _ _) (Nat.sub_le _ _) hS2
  rw [if_neg h14]
  refine dite (((aE S).2.2.2 (nI m).toNatClampNeg) &&& 63 = 15) (fun h15 => ?_) (fun h15 => ?_)
  · rw [if_pos h15]
    obtain ⟨r1, S1, S2, c1, hS1, c2, hS2⟩ := H.2.2.2.2.2.2.2.2.2.2.2.2.2.2.2.1 S hS
    rw [gd_t (hx1 S hS0), gd_t (hx2 S hS0), gd_t hk1]
    simp only [hv S hS0]
    rw [c1, cI_s]
    rw [gd_t (hx1 S1 hS1), gd_t (hx2 S1 hS1), gd_t hS1.2.2.1]
    simp only [hv S1 hS1]
    rw [c2, cI_s, if_pos rfl]
    exact kk _ _ (Nat.sub_le _ _) (Nat.sub_le _ _) hS2
  rw [if_neg h15]
  refine dite (((aE S).2.2.2 (nI m).toNatClampNeg) &&& 63 = 16) (fun h16 => ?_) (fun h16 => ?_)
  · rw [if_pos h16]
    obtain ⟨r1, S1, S2, c1, hS1, c2, hS2⟩ := H.2.2.2.2.2.2.2.2.2.2.2.2.2.2.2.2.1 S hS
    rw [gd_t (hx1 S hS0), gd_t hk1]
    simp only [hv S hS0]
    rw [c1, cI_s]
    rw [gd_t (hx1 S1 hS1), gd_t hS1.2.2.1]
    simp only [hv S1 hS1]
    rw [c2, cI_s, if_pos rfl]
    exact kk _ _ (Nat.sub_le _ _) (Nat.sub_le _ _) hS2
  rw [if_neg h16]
  refine dite (((aE S).2.2.2 (nI m).toNatClampNeg) &&& 63 = 17) (fun h17 => ?_) (fun h17 => ?_)
  · rw [if_pos h17]
    obtain ⟨r1, S1, S2, c1, hS1, c2, hS2⟩ := H.2.2.2.2.2.2.2.2.2.2.2.2.2.2.2.2.2.1 S hS
    rw [gd_t (hx1 S hS0), gd_t (hx2 S hS0), gd_t (hx3 S hS0), gd_t (hx4 S hS0), gd_t hk1]
    simp only [hv S hS0]
    rw [c1, cI_s]
    rw [gd_t (hx1 S1 hS1), gd_t (hx2 S1 hS1), gd_t (hx3 S1 hS1), gd_t (hx4 S1 hS1), gd_t hS1.2.2.1]
    simp only [hv S1 hS1]
    rw [c2, cI_s, if_pos rfl]
    exact kk _ _ (Nat.sub_le _ _) (Nat.sub_le _ _) hS2
  rw [if_neg h17]
  refine dite (((aE S).2.2.2 (nI m).toNatClampNeg) &&& 63 = 18) (fun h18 => ?_) (fun h18 => ?_)
  · rw [if_pos h18]
    obtain ⟨r1, S1, S2, c1, hS1, c2, hS2⟩ := H.2.2.2.2.2.2.2.2.2.2.2.2.2.2.2.2.2.2.1 S hS
    rw [gd_t (hx1 S hS0), gd_t (hx2 S hS0), gd_t (hx3 S hS0), gd_t (hx4 S hS0), gd_t hk1]
    simp only [hv S hS0]
    rw [c1, cI_s]
    rw [gd_t (hx1 S1 hS1), gd_t (hx2 S1 hS1), gd_t (hx3 S1 hS1), gd_t (hx4 S1 hS1), gd_t hS1.2.2.1]
    simp only [hv S1 hS1]
    rw [c2, cI_s, if_pos rfl]
    exact kk _ _ (Nat.sub_le _ _) (Nat.sub_le _ _) hS2
  rw [if_neg h18]
  refine dite (((aE S).2.2.2 (nI m).toNatClampNeg) &&& 63 = 19) (fun h19 => ?_) (fun h19 => ?_)
  · rw [if_pos h19]
    obtain ⟨r1, S1, S2, c1, hS1, c2, hS2⟩ := H.2.2.2.2.2.2.2.2.2.2.2.2.2.2.2.2.2.2.2.1 S hS
    rw [gd_t (hx1 S hS0), gd_t hk1]
    simp only [hv S hS0]
    rw [c1, cI_s]
    rw [gd_t (hx1 S1 hS1), gd_t hS1.2.2.1]
    simp only [hv S1 hS1]
    rw [c2, cI_s, if_pos rfl]
    exact kk _ _ (Nat.sub_le _ _) (Nat.sub_le _ _) hS2
  rw [if_neg h19]
  refine dite (((aE S).2.2.2 (nI m).toNatClampNeg) &&& 63 = 20) (fun h20 => ?_) (fun h20 => ?_)
  · rw [if_pos h20]
    obtain ⟨r1, S1, S2, c1, hS1, c2, hS2⟩ := H.2.2.2.2.2.2.2.2.2.2.2.2.2.2.2.2.2.2.2.2.1 S hS
    rw [gd_t (hx1 S hS0), gd_t (hx2 S hS0), gd_t (hx3 S hS0), gd_t hk1]
    simp only [hv S hS0]
    rw [c1, cI_s]
    rw [gd_t (hx1 S1 hS1), gd_t (hx2 S1 hS1), gd_t (hx3 S1 hS1), gd_t hS1.2.2.1]
    simp only [hv S1 hS1]
    rw [c2, cI_s, if_pos rfl]
    exact kk _ _ (Nat.sub_le _ _) (Nat.sub_le _ _) hS2
  rw [if_neg h20]
  refine dite (((aE S).2.2.2 (nI m).toNatClampNeg) &&& 63 = 21) (fun h21 => ?_) (fun h21 => ?_)
  · rw [if_pos h21]
    obtain ⟨r1, S1, S2, c1, hS1, c2, hS2⟩ := H.2.2.2.2.2.2.2.2.2.2.2.2.2.2.2.2.2.2.2.2.2.1 S hS
    rw [gd_t hk1]
    rw [c1, cI_s]
    rw [gd_t hS1.2.2.1]
    rw [c2, cI_s, if_pos rfl]
    exact kk _ _ (Nat.sub_le _ _) (Nat.sub_le _ _) hS2
  rw [if_neg h21]
  refine dite (((aE S).2.2.2 (nI m).toNatClampNeg) &&& 63 = 22) (fun h22 => ?_) (fun h22 => ?_)
  · rw [if_pos h22]
    obtain ⟨r1, S1, S2, c1, hS1, c2, hS2⟩ := H.2.2.2.2.2.2.2.2.2.2.2.2.2.2.2.2.2.2.2.2.2.2.1 S hS
    rw [gd_t (hx1 S hS0), gd_t hk1]
    simp only [hv S hS0]
    rw [c1, cI_s]
    rw [gd_t (hx1 S1 hS1), gd_t hS1.2.2.1]
    simp only [hv S1 hS1]
    rw [c2, cI_s, if_pos rfl]
    exact kk _ _ (Nat.sub_le _ _) (Nat.sub_le _ _) hS2
  rw [if_neg h22]
  refine dite (((aE S).2.2.2 (nI m).toNatClampNeg) &&& 63 = 23) (fun h23 => ?_) (fun h23 => ?_)
  · rw [if_pos h23]
    obtain ⟨r1, S1, S2, c1, hS1, c2, hS2⟩ := H.2.2.2.2.2.2.2.2.2.2.2.2.2.2.2.2.2.2.2.2.2.2.2.1 S hS
    rw [gd_t (hx1 S hS0), gd_t (hx2 S hS0), gd_t (hx3 S hS0), gd_t hk1]
    simp only [hv S hS0]
    rw [c1, cI_s]
    rw [gd_t (hx1 S1 hS1), gd_t (hx2 S1 hS1), gd_t (hx3 S1 hS1), gd_t hS1.2.2.1]
    simp only [hv S1 hS1]
    rw [c2, cI_s, if_pos rfl]
    exact kk _ _ (Nat.sub_le _ _) (Nat.sub_le _ _) hS2
  rw [if_neg h23]
  refine dite (((aE S).2.2.2 (nI m).toNatClampNeg) &&& 63 = 24) (fun h24 => ?_) (fun h24 => ?_)
  · rw [if_pos h24]
    obtain ⟨r1, S1, S2, c1, hS1, c2, hS2⟩ := H.2.2.2.2.2.2.2.2.2.2.2.2.2.2.2.2.2.2.2.2.2.2.2.2.1 S hS
    rw [gd_t (hx1 S hS0), gd_t hk1]
    simp only [hv S hS0]
    rw [c1, cI_s]
    rw [gd_t (hx1 S1 hS1), gd_t hS1.2.2.1]
    simp only [hv S1 hS1]
    rw [c2, cI_s, if_pos rfl]
    exact kk _ _ (Nat.sub_le _ _) (Nat.sub_le _ _) hS2
  rw [if_neg h24]
  refine dite (((aE S).2.2.2 (nI m).toNatClampNeg) &&& 63 = 25) (fun h25 => ?_) (fun h25 => ?_)
  · rw [if_pos h25]
    obtain ⟨r1, S1, S2, c1, hS1, c2, hS2⟩ := H.2.2.2.2.2.2.2.2.2.2.2.2.2.2.2.2.2.2.2.2.2.2.2.2.2.1 S hS
    rw [gd_t hk1]
    rw [c1, cI_s]
    rw [gd_t hS1.2.2.1]
    rw [c2, cI_s, if_pos rfl]
    exact kk _ _ (Nat.sub_le _ _) (Nat.sub_le _ _) hS2
  rw [if_neg h25]
  refine dite (((aE S).2.2.2 (nI m).toNatClampNeg) &&& 63 = 26) (fun h26 => ?_) (fun h26 => ?_)
  · rw [if_pos h26]
    obtain ⟨r1, S1, S2, c1, hS1, c2, hS2⟩ := H.2.2.2.2.2.2.2.2.2.2.2.2.2.2.2.2.2.2.2.2.2.2.2.2.2.2.1 S hS
    rw [gd_t (hx1 S hS0), gd_t hk1]
    simp only [hv S hS0]
    rw [c1, cI_s]
    rw [gd_t (hx1 S1 hS1), gd_t hS1.2.2.1]
    simp only [hv S1 hS1]
    rw [c2, cI_s, if_pos rfl]
    exact kk _ _ (Nat.sub_le _ _) (Nat.sub_le _ _) hS2
  rw [if_neg h26]
  refine dite (((aE S).2.2.2 (nI m).toNatClampNeg) &&& 63 = 27) (fun h27 => ?_) (fun h27 => ?_)
  · rw [if_pos h27]
    obtain ⟨r1, S1, S2, c1, hS1, c2, hS2⟩ := H.2.2.2.2.2.2.2.2.2.2.2.2.2.2.2.2.2.2.2.2.2.2.2.2.2.2.2.1 S hS
    rw [gd_t (hx1 S hS0), gd_t hk1]
    simp only [hv S hS0]
    rw [c1, cI_s]
    rw [gd_t (hx1 S1 hS1), gd_t hS1.2.2.1]
    simp only [hv S1 hS1]
    rw [c2, cI_s, if_pos rfl]
    exact kk _ _ (Nat.sub_le _ _) (Nat.sub_le _ _) hS2
  rw [if_neg h27]
  refine dite (((aE S).2.2.2 (nI m).toNatClampNeg) &&& 63 = 28) (fun h28 => ?_) (fun h28 => ?_)
  · rw [if_pos h28]
    obtain ⟨r1, S1, S2, c1, hS1, c2, hS2⟩ := H.2.2.2.2.2.2.2.2.2.2.2.2.2.2.2.2.2.2.2.2.2.2.2.2.2.2.2.2.1 S hS
    rw [gd_t (hx1 S hS0), gd_t (hx2 S hS0), gd_t (hx3 S hS0), gd_t hk1]
    simp only [hv S hS0]
    rw [c1, cI_s]
    rw [gd_t (hx1 S1 hS1), gd_t (hx2 S1 hS1), gd_t (hx3 S1 hS1), gd_t hS1.2.2.1]
    simp only [hv S1 hS1]
    rw [c2, cI_s, if_pos rfl]
    exact kk _ _ (Nat.sub_le _ _) (Nat.sub_le _ _) hS2
  rw [if_neg h28]
  refine dite (((aE S).2.2.2 (nI m).toNatClampNeg) &&& 63 = 29) (fun h29 => ?_) (fun h29 => ?_)
  · rw [if_pos h29]
    obtain ⟨r1, S1, S2, c1, hS1, c2, hS2⟩ := H.2.2.2.2.2.2.2.2.2.2.2.2.2.2.2.2.2.2.2.2.2.2.2.2.2.2.2.2.2.1 S hS
    rw [gd_t (hx1 S hS0), gd_t hk1]
    simp only [hv S hS0]
    rw [c1, cI_s]
    rw [gd_t (hx1 S1 hS1), gd_t hS1.2.2.1]
    simp only [hv S1 hS1]
    rw [c2, cI_s, if_pos rfl]
    exact kk _ _ (Nat.sub_le _ _) (Nat.sub_le _ _) hS2
  rw [if_neg h29]
  refine dite (((aE S).2.2.2 (nI m).toNatClampNeg) &&& 63 = 30) (fun h30 => ?_) (fun h30 => ?_)
  · rw [if_pos h30]
    obtain ⟨r1, S1, S2, c1, hS1, c2, hS2⟩ := H.2.2.2.2.2.2.2.2.2.2.2.2.2.2.2.2.2.2.2.2.2.2.2.2.2.2.2.2.2.2.1 S hS
    rw [gd_t (hx1 S hS0), gd_t hk1]
    simp only [hv S hS0]
    rw [c1, cI_s]
    rw [gd_t (hx1 S1 hS1), gd_t hS1.2.2.1]
    simp only [hv S1 hS1]
    rw [c2, cI_s, if_pos rfl]
    exact kk _ _ (Nat.sub_le _ _) (Nat.sub_le _ _) hS2
  rw [if_neg h30]
  refine dite (((aE S).2.2.2 (nI m).toNatClampNeg) &&& 63 = 31) (fun h31 => ?_) (fun h31 => ?_)
  · rw [if_pos h31]
    obtain ⟨r1, S1, S2, c1, hS1, c2, hS2⟩ := H.2.2.2.2.2.2.2.2.2.2.2.2.2.2.2.2.2.2.2.2.2.2.2.2.2.2.2.2.2.2.2.1 S hS
    rw [gd_t (hx1 S hS0), gd_t hk1]
    simp only [hv S hS0]
    rw [c1, cI_s]
    rw [gd_t (hx1 S1 hS1), gd_t hS1.2.2.1]
    simp only [hv S1 hS1]
    rw [c2, cI_s, if_pos rfl]
    exact kk _ _ (Nat.sub_le _ _) (Nat.sub_le _ _) hS2
  rw [if_neg h31]
  refine dite (((aE S).2.2.2 (nI m).toNatClampNeg) &&& 63 = 32) (fun h32 => ?_) (fun h32 => ?_)
  · rw [if_pos h32]
    obtain ⟨r1, S1, S2, c1, hS1, c2, hS2⟩ := H.2.2.2.2.2.2.2.2.2.2.2.2.2.2.2.2.2.2.2.2.2.2.2.2.2.2.2.2.2.2.2.2.1 S hS
    rw [gd_t (hx1 S hS0), gd_t (hx2 S hS0), gd_t hk1]
    simp only [hv S hS0]
    rw [c1, cI_s]
    rw [gd_t (hx1 S1 hS1), gd_t (hx2 S1 hS1), gd_t hS1.2.2.1]
    simp only [hv S1 hS1]
    rw [c2, cI_s, if_pos rfl]
    exact kk _ _ (Nat.sub_le _ _) (Nat.sub_le _ _) hS2
  rw [if_neg h32]
  refine dite (((aE S).2.2.2 (nI m).toNatClampNeg) &&& 63 = 33) (fun h33 => ?_) (fun h33 => ?_)
  · rw [if_pos h33]
    have HH := H.2.2.2.2.2.2.2.2.2.2.2.2.2.2.2.2.2.2.2.2.2.2.2.2.2.2.2.2.2.2.2.2.2.2.2.2.2.2.2.2.2.2.2.2.1
    rw [gd_t (hx1 S hS0), gd_t (hx2 S hS0)]
    simp only [hv S hS0]
    have key3 : ∀ b1 b2 b3 : Int32, (b1 = 0 ∨ b1 = 1) → (b2 = 0 ∨ b2 = 1) → (b3 = 0 ∨ b3 = 1) → b1 = (if xs (nI m + 2).toNatClampNeg = 0 then 0 else 1) → b2 = (if xs (nI m + 3).toNatClampNeg = 0 then 0 else 1) → b3 = (if xs (nI m + 4).toNatClampNeg = 0 then 0 else 1) → ∃ S2, Am lx_ 315 813 [some (.ref b0), some (.ref (z + 0)), some (.ref (z + 132)), some (.ref (z + 146)), some (.int (nI m)), none, none] [.int b3, .int b2, .int b1, .int (xs (nI m + 1).toNatClampNeg), .ref (z + 0)] b S = some (some (.int 1), S2) := by
      intro b1 b2 b3 hb1 hb2 hb3 e1 e2 e3
      obtain ⟨r1, S1, S2, c1, hS1, c2, hS2⟩ := HH b1 b2 b3 hb1 hb2 hb3 S hS
      obtain ⟨S9, h9⟩ := kk b S2 (Nat.sub_le _ _) (Nat.sub_le _ _) hS2
      refine ⟨S9, q_of (e_315_813 _ _ _ _ _ _ _ _ _ _ _ _) ?_⟩
      rw [gd_t hk1, c1, cI_s, gd_t (hx1 S1 hS1), gd_t (hx2 S1 hS1)]
      simp only [hv S1 hS1]
      have k850 : ∀ a1 a2 a3 : Int32, a1 = b1 → a2 = b2 → a3 = b3 → Am lx_ 315 850 [some (.ref b0), some (.ref (z + 0)), some (.ref (z + 132)), some (.ref (z + 146)), some (.int (nI m)), none, none] [.int a3, .int a2, .int a1, .int (xs (nI m + 1).toNatClampNeg), .ref (z + 132), .int r1] b S1 = some (some (.int 1), S9) := by
        intro a1 a2 a3 z1 z2 z3; subst z1; subst z2; subst z3
        refine q_of (e_315_850 _ _ _ _ _ _ _ _ _ _ _ _ _) ?_
        rw [gd_t hS1.2.2.1, c2, cI_s, if_pos rfl]
        exact h9
      have k840 : ∀ a1 a2 : Int32, a1 = b1 → a2 = b2 → Am lx_ 315 840 [some (.ref b0), some (.ref (z + 0)), some (.ref (z + 132)), some (.ref (z + 146)), some (.int (nI m)), none, none] [.int a2, .int a1, .int (xs (nI m + 1).toNatClampNeg), .ref (z + 132), .int r1] b S1 = some (some (.int 1), S9) := by
        intro a1 a2 z1 z2
        refine q_of (e_315_840 _ _ _ _ _ _ _ _ _ _ _ _) ?_
        rw [gd_t (hx4 S1 hS1)]
        simp only [hv S1 hS1]
        split
        · next q => exact k850 _ _ _ z1 z2 (by rw [e3, if_pos q])
        · next q => exact k850 _ _ _ z1 z2 (by rw [e3, if_neg q])
      have k830 : ∀ a1 : Int32, a1 = b1 → Am lx_ 315 830 [some (.ref b0), some (.ref (z + 0)), some (.ref (z + 132)), some (.ref (z + 146)), some (.int (nI m)), none, none] [.int a1, .int (xs (nI m + 1).toNatClampNeg), .ref (z + 132), .int r1] b S1 = some (some (.int 1), S9) := by
        intro a1 z1
        refine q_of (e_315_830 _ _ _ _ _ _ _ _ _ _ _) ?_
        rw [gd_t (hx3 S1 hS1)]
        simp only [hv S1 hS1]
        split
        · next q => exact k840 _ _ z1 (by rw [e2, if_pos q])
        · next q => exact k840 _ _ z1 (by rw [e2, if_neg q])
      split
      · next q => exact k830 _ (by rw [e1, if_pos q])
      · next q => exact k830 _ (by rw [e1, if_neg q])
    have key2 : ∀ b1 b2 : Int32, (b1 = 0 ∨ b1 = 1) → (b2 = 0 ∨ b2 = 1) → b1 = (if xs (nI m + 2).toNatClampNeg = 0 then 0 else 1) → b2 = (if xs (nI m + 3).toNatClampNeg = 0 then 0 else 1) → ∃ S2, Am lx_ 315 803 [some (.ref b0), some (.ref (z + 0)), some (.ref (z + 132)), some (.ref (z + 146)), some (.int (nI m)), none, none] [.int b2, .int b1, .int (xs (nI m + 1).toNatClampNeg), .ref (z + 0)] b S = some (some (.int 1), S2) := by
      intro b1 b2 hb1 hb2 e1 e2
      by_cases q : xs (nI m + 4).toNatClampNeg = 0
      · obtain ⟨S9, h9⟩ := key3 b1 b2 0 hb1 hb2 (Or.inl rfl) e1 e2 (by rw [if_pos q])
        refine ⟨S9, q_of (e_315_803 _ _ _ _ _ _ _ _ _ _ _) ?_⟩
        rw [gd_t (hx4 S hS0)]
        simp only [hv S hS0]
        rw [if_pos q]
        exact h9
      · obtain ⟨S9, h9⟩ := key3 b1 b2 1 hb1 hb2 (Or.inr rfl) e1 e2 (by rw [if_neg q])
        refine ⟨S9, q_of (e_315_803 _ _ _ _ _ _ _ _ _ _ _) ?_⟩
        rw [gd_t (hx4 S hS0)]
        simp only [hv S hS0]
        rw [if_neg q]
        exact h9
    have key1 : ∀ b1 : Int32, (b1 = 0 ∨ b1 = 1) → b1 = (if xs (nI m + 2).toNatClampNeg = 0 then 0 else 1) → ∃ S2, Am lx_ 315 793 [some (.ref b0), some (.ref (z + 0)), some (.ref (z + 132)), some (.ref (z + 146)), some (.int (nI m)), none, none] [.int b1, .int (xs (nI m + 1).toNatClampNeg), .ref (z + 0)] b S = some (some (.int 1), S2) := by
      intro b1 hb1 e1
      by_cases q : xs (nI m + 3).toNatClampNeg = 0
      · obtain ⟨S9, h9⟩ := key2 b1 0 hb1 (Or.inl rfl) e1 (by rw [if_pos q])
        refine ⟨S9, q_of (e_315_793 _ _ _ _ _ _ _ _ _ _) ?_⟩
        rw [gd_t (hx3 S hS0)]
        simp only [hv S hS0]
        rw [if_pos q]
        exact h9
      · obtain ⟨S9, h9⟩ := key2 b1 1 hb1 (Or.inr rfl) e1 (by rw [if_neg q])
        refine ⟨S9, q_of (e_315_793 _ _ _ _ _ _ _ _ _ _) ?_⟩
        rw [gd_t (hx3 S hS0)]
        simp only [hv S hS0]
        rw [if_neg q]
        exact h9
    split
    · next q => exact key1 0 (Or.inl rfl) (by rw [if_pos q])
    · next q => exact key1 1 (Or.inr rfl) (by rw [if_neg q])
  rw [if_neg h33]
  refine dite (((aE S).2.2.2 (nI m).toNatClampNeg) &&& 63 = 34) (fun h34 => ?_) (fun h34 => ?_)
  · rw [if_pos h34]
    obtain ⟨r1, S1, S2, c1, hS1, c2, hS2⟩ := H.2.2.2.2.2.2.2.2.2.2.2.2.2.2.2.2.2.2.2.2.2.2.2.2.2.2.2.2.2.2.2.2.2.1 S hS
    rw [gd_t (hx1 S hS0), gd_t hk1]
    simp only [hv S hS0]
    rw [c1, cI_s]
    rw [gd_t (hx1 S1 hS1), gd_t hS1.2.2.1]
    simp only [hv S1 hS1]
    rw [c2, cI_s, if_pos rfl]
    exact kk _ _ (Nat.sub_le _ _) (Nat.sub_le _ _) hS2
  rw [if_neg h34]
  refine dite (((aE S).2.2.2 (nI m).toNatClampNeg) &&& 63 = 35) (fun h35 => ?_) (fun h35 => ?_)
  · rw [if_pos h35]
    obtain ⟨r1, S1, S2, c1, hS1, c2, hS2⟩ := H.2.2.2.2.2.2.2.2.2.2.2.2.2.2.2.2.2.2.2.2.2.2.2.2.2.2.2.2.2.2.2.2.2.2.1 S hS
    rw [gd_t (hx1 S hS0), gd_t hk1]
    simp only [hv S hS0]
    rw [c1, cI_s]
    rw [gd_t (hx1 S1 hS1), gd_t hS1.2.2.1]
    simp only [hv S1 hS1]
    rw [c2, cI_s, if_pos rfl]
    exact kk _ _ (Nat.sub_le _ _) (Nat.sub_le _ _) hS2
  rw [if_neg h35]
  refine dite (((aE S).2.2.2 (nI m).toNatClampNeg) &&& 63 = 36) (fun h36 => ?_) (fun h36 => ?_)
  · rw [if_pos h36]
    have HH := H.2.2.2.2.2.2.2.2.2.2.2.2.2.2.2.2.2.2.2.2.2.2.2.2.2.2.2.2.2.2.2.2.2.2.2.2.2.2.2.2.2.2.2.2.2.1
    rw [gd_t (hx1 S hS0), gd_t (hx2 S hS0)]
    simp only [hv S hS0]
    have key : ∀ b1 : Int32, (b1 = 0 ∨ b1 = 1) → b1 = (if xs (nI m + 2).toNatClampNeg = 0 then 0 else 1) → ∃ S2, Am lx_ 315 904 [some (.ref b0), some (.ref (z + 0)), some (.ref (z + 132)), some (.ref (z + 146)), some (.int (nI m)), none, none] [.int b1, .int (xs (nI m + 1).toNatClampNeg), .ref (z + 0)] b S = some (some (.int 1), S2) := by
      intro b1 hb1 e1
      obtain ⟨r1, S1, S2, c1, hS1, c2, hS2⟩ := HH b1 hb1 S hS
      obtain ⟨S9, h9⟩ := kk b S2 (Nat.sub_le _ _) (Nat.sub_le _ _) hS2
      refine ⟨S9, q_of (e_315_904 _ _ _ _ _ _ _ _ _ _) ?_⟩
      rw [gd_t hk1, c1, cJ_s, gd_t (hx1 S1 hS1), gd_t (hx2 S1 hS1)]
      simp only [hv S1 hS1]
      have k9 : ∀ a1 : Int32, a1 = b1 → Am lx_ 315 921 [some (.ref b0), some (.ref (z + 0)), some (.ref (z + 132)), some (.ref (z + 146)), some (.int (nI m)), none, none] [.int a1, .int (xs (nI m + 1).toNatClampNeg), .ref (z + 132), .long r1] b S1 = some (some (.int 1), S9) := by
        intro a1 z1; subst z1
        refine q_of (e_315_921 _ _ _ _ _ _ _ _ _ _ _) ?_
        rw [gd_t hS1.2.2.1, c2, cJ_s, if_pos (lg_cmp_sf _)]
        exact h9
      split
      · next q => exact k9 _ (by rw [e1, if_pos q])
      · next q => exact k9 _ (by rw [e1, if_neg q])
    split
    · next q => exact key 0 (Or.inl rfl) (by rw [if_pos q])
    · next q => exact key 1 (Or.inr rfl) (by rw [if_neg q])
  rw [if_neg h36]
  refine dite (((aE S).2.2.2 (nI m).toNatClampNeg) &&& 63 = 37) (fun h37 => ?_) (fun h37 => ?_)
  · rw [if_pos h37]
    have HH := H.2.2.2.2.2.2.2.2.2.2.2.2.2.2.2.2.2.2.2.2.2.2.2.2.2.2.2.2.2.2.2.2.2.2.2.2.2.2.2.2.2.2.2.2.2.2.1
    rw [gd_t (hx1 S hS0)]
    simp only [hv S hS0]
    have key : ∀ b1 : Int32, (b1 = 0 ∨ b1 = 1) → b1 = (if xs (nI m + 1).toNatClampNeg = 0 then 0 else 1) → ∃ S2, Am lx_ 315 937 [some (.ref b0), some (.ref (z + 0)), some (.ref (z + 132)), some (.ref (z + 146)), some (.int (nI m)), none, none] [.int b1, .ref (z + 0)] b S = some (some (.int 1), S2) := by
      intro b1 hb1 e1
      obtain ⟨r1, S1, S2, c1, hS1, c2, hS2⟩ := HH b1 hb1 S hS
      obtain ⟨S9, h9⟩ := kk b S2 (Nat.sub_le _ _) (Nat.sub_le _ _) hS2
      refine ⟨S9, q_of (e_315_937 _ _ _ _ _ _ _ _ _) ?_⟩
      rw [gd_t hk1, c1, cJ_s, gd_t (hx1 S1 hS1)]
      simp only [hv S1 hS1]
      have k9 : ∀ a1 : Int32, a1 = b1 → Am lx_ 315 949 [some (.ref b0), some (.ref (z + 0)), some (.ref (z + 132)), some (.ref (z + 146)), some (.int (nI m)), none, none] [.int a1, .ref (z + 132), .long r1] b S1 = some (some (.int 1), S9) := by
        intro a1 z1; subst z1
        refine q_of (e_315_949 _ _ _ _ _ _ _ _ _ _) ?_
        rw [gd_t hS1.2.2.1, c2, cJ_s, if_pos (lg_cmp_sf _)]
        exact h9
      split
      · next q => exact k9 _ (by rw [e1, if_pos q])
      · next q => exact k9 _ (by rw [e1, if_neg q])
    split
    · next q => exact key 0 (Or.inl rfl) (by rw [if_pos q])
    · next q => exact key 1 (Or.inr rfl) (by rw [if_neg q])
  rw [if_neg h37]
  refine dite (((aE S).2.2.2 (nI m).toNatClampNeg) &&& 63 = 38) (fun h38 => ?_) (fun h38 => ?_)
  · rw [if_pos h38]
    obtain ⟨r1, S1, S2, c1, hS1, c2, hS2⟩ := H.2.2.2.2.2.2.2.2.2.2.2.2.2.2.2.2.2.2.2.2.2.2.2.2.2.2.2.2.2.2.2.2.2.2.2.1 S hS
    rw [gd_t (hx1 S hS0), gd_t hk1]
    simp only [hv S hS0]
    rw [c1, cI_s]
    rw [gd_t (hx1 S1 hS1), gd_t hS1.2.2.1]
    simp only [hv S1 hS1]
    rw [c2, cI_s, if_pos rfl]
    exact kk _ _ (Nat.sub_le _ _) (Nat.sub_le _ _) hS2
  rw [if_neg h38]
  refine dite (((aE S).2.2.2 (nI m).toNatClampNeg) &&& 63 = 39) (fun h39 => ?_) (fun h39 => ?_)
  · rw [if_pos h39]
    obtain ⟨r1, S1, S2, c1, hS1, c2, hS2⟩ := H.2.2.2.2.2.2.2.2.2.2.2.2.2.2.2.2.2.2.2.2.2.2.2.2.2.2.2.2.2.2.2.2.2.2.2.2.1 S hS
    rw [gd_t hk1]
    rw [c1, cI_s]
    rw [gd_t hS1.2.2.1]
    rw [c2, cI_s, if_pos rfl]
    exact kk _ _ (Nat.sub_le _ _) (Nat.sub_le _ _) hS2
  rw [if_neg h39]
  refine dite (((aE S).2.2.2 (nI m).toNatClampNeg) &&& 63 = 40) (fun h40 => ?_) (fun h40 => ?_)
  · rw [if_pos h40]
    obtain ⟨r1, S1, S2, c1, hS1, c2, hS2⟩ := H.2.2.2.2.2.2.2.2.2.2.2.2.2.2.2.2.2.2.2.2.2.2.2.2.2.2.2.2.2.2.2.2.2.2.2.2.2.1 S hS
    rw [gd_t (hx1 S hS0), gd_t (hx2 S hS0), gd_t (hx3 S hS0), gd_t hk1]
    simp only [hv S hS0]
    rw [c1, cI_s]
    rw [gd_t (hx1 S1 hS1), gd_t (hx2 S1 hS1), gd_t (hx3 S1 hS1), gd_t hS1.2.2.1]
    simp only [hv S1 hS1]
    rw [c2, cI_s, if_pos rfl]
    exact kk _ _ (Nat.sub_le _ _) (Nat.sub_le _ _) hS2
  rw [if_neg h40]
  refine dite (((aE S).2.2.2 (nI m).toNatClampNeg) &&& 63 = 41) (fun h41 => ?_) (fun h41 => ?_)
  · rw [if_pos h41]
    obtain ⟨r1, S1, S2, c1, hS1, c2, hS2⟩ := H.2.2.2.2.2.2.2.2.2.2.2.2.2.2.2.2.2.2.2.2.2.2.2.2.2.2.2.2.2.2.2.2.2.2.2.2.2.2.1 S hS
    rw [gd_t (hx1 S hS0), gd_t (hx2 S hS0), gd_t (hx3 S hS0), gd_t hk1]
    simp only [hv S hS0]
    rw [c1, cI_s]
    rw [gd_t (hx1 S1 hS1), gd_t (hx2 S1 hS1), gd_t (hx3 S1 hS1), gd_t hS1.2.2.1]
    simp only [hv S1 hS1]
    rw [c2, cI_s, if_pos rfl]
    exact kk _ _ (Nat.sub_le _ _) (Nat.sub_le _ _) hS2
  rw [if_neg h41]
  refine dite (((aE S).2.2.2 (nI m).toNatClampNeg) &&& 63 = 42) (fun h42 => ?_) (fun h42 => ?_)
  · rw [if_pos h42]
    obtain ⟨r1, S1, S2, c1, hS1, c2, hS2⟩ := H.2.2.2.2.2.2.2.2.2.2.2.2.2.2.2.2.2.2.2.2.2.2.2.2.2.2.2.2.2.2.2.2.2.2.2.2.2.2.2.1 S hS
    rw [gd_t hk1]
    rw [c1, cI_s]
    rw [gd_t hS1.2.2.1]
    rw [c2, cI_s, if_pos rfl]
    exact kk _ _ (Nat.sub_le _ _) (Nat.sub_le _ _) hS2
  rw [if_neg h42]
  refine dite (((aE S).2.2.2 (nI m).toNatClampNeg) &&& 63 = 43) (fun h43 => ?_) (fun h43 => ?_)
  · rw [if_pos h43]
    obtain ⟨r1, S1, S2, c1, hS1, c2, hS2⟩ := H.2.2.2.2.2.2.2.2.2.2.2.2.2.2.2.2.2.2.2.2.2.2.2.2.2.2.2.2.2.2.2.2.2.2.2.2.2.2.2.2.1 S hS
    rw [gd_t hk1]
    rw [c1, cI_s]
    rw [gd_t hS1.2.2.1]
    rw [c2, cI_s, if_pos rfl]
    exact kk _ _ (Nat.sub_le _ _) (Nat.sub_le _ _) hS2
  rw [if_neg h43]
  refine dite (((aE S).2.2.2 (nI m).toNatClampNeg) &&& 63 = 44) (fun h44 => ?_) (fun h44 => ?_)
  · rw [if_pos h44]
    obtain ⟨r1, S1, S2, c1, hS1, c2, hS2⟩ := H.2.2.2.2.2.2.2.2.2.2.2.2.2.2.2.2.2.2.2.2.2.2.2.2.2.2.2.2.2.2.2.2.2.2.2.2.2.2.2.2.2.1 S hS
    rw [gd_t (hx1 S hS0), gd_t hk1]
    simp only [hv S hS0]
    rw [c1, cI_s]
    rw [gd_t (hx1 S1 hS1), gd_t hS1.2.2.1]
    simp only [hv S1 hS1]
    rw [c2, cI_s, if_pos rfl]
    exact kk _ _ (Nat.sub_le _ _) (Nat.sub_le _ _) hS2
  rw [if_neg h44]
  refine dite (((aE S).2.2.2 (nI m).toNatClampNeg) &&& 63 = 45) (fun h45 => ?_) (fun h45 => ?_)
  · rw [if_pos h45]
    obtain ⟨k9, g9, S1, S2, S3, c1, hS1, c2, hS2, c3, hj, hS3, hI3⟩ := H.2.2.2.2.2.2.2.2.2.2.2.2.2.2.2.2.2.2.2.2.2.2.2.2.2.2.2.2.2.2.2.2.2.2.2.2.2.2.2.2.2.2.2.2.2.2.2.1 S hS
    rw [gd_t (hx1 S hS0), gd_t ⟨by omega, by omega⟩]
    simp only [hv S hS0]
    rw [c1, cI_s, gd_t (hx1 S1 hS1), gd_t hS1.2.2.1]
    simp only [hv S1 hS1]
    rw [c2, cI_s, gd_t hS2.2.2.1, c3, cI_s, if_pos rfl]
    have kk9 := kk (b.1 - 1, b.2 - 6) S3 (by show b.1 - 12 ≤ b.1 - 1; omega) (by show b.2 - 177 ≤ b.2 - 6; omega) hI3
    refine dite (k9 = 0) (fun z9 => ?_) (fun z9 => ?_)
    · rw [if_pos z9, gd_t ⟨hS3.2.2.2.1, by rw [hS3.2.2.2.2]; exact ix_n (i := 0) (by decide) (by decide)⟩, if_pos (by show lg_cmp (aJ S3 (z + 146) 0) g9.toInt64 = 0; rw [hj z9]; exact lg_cmp_sf _)]
      exact kk9
    · rw [if_neg z9]
      exact kk9
  rw [if_neg h45]
  refine dite (((aE S).2.2.2 (nI m).toNatClampNeg) &&& 63 = 46) (fun h46 => ?_) (fun h46 => ?_)
  · rw [if_pos h46]
    obtain ⟨r1, S1, S2, c1, hS1, c2, hS2⟩ := H.2.2.2.2.2.2.2.2.2.2.2.2.2.2.2.2.2.2.2.2.2.2.2.2.2.2.2.2.2.2.2.2.2.2.2.2.2.2.2.2.2.2.1 S hS
    rw [gd_t (hx1 S hS0), gd_t hk1]
    simp only [hv S hS0]
    rw [c1, cI_s]
    rw [gd_t (hx1 S1 hS1), gd_t hS1.2.2.1]
    simp only [hv S1 hS1]
    rw [c2, cI_s, if_pos rfl]
    exact kk _ _ (Nat.sub_le _ _) (Nat.sub_le _ _) hS2
  rw [if_neg h46]
  refine dite (((aE S).2.2.2 (nI m).toNatClampNeg) &&& 63 = 47) (fun h47 => ?_) (fun h47 => ?_)
  · rw [if_pos h47]
    obtain ⟨r1, S1, S2, c1, hS1, c2, hS2⟩ := H.2.2.2.2.2.2.2.2.2.2.2.2.2.2.2.2.2.2.2.2.2.2.2.2.2.2.2.2.2.2.2.2.2.2.2.2.2.2.2.2.2.2.2.1 S hS
    rw [gd_t hk1]
    rw [c1, cI_s]
    rw [gd_t hS1.2.2.1]
    rw [c2, cI_s, if_pos rfl]
    exact kk _ _ (Nat.sub_le _ _) (Nat.sub_le _ _) hS2
  rw [if_neg h47]
  exact kk b S (Nat.sub_le _ _) (Nat.sub_le _ _) (H.2.2.2.2.2.2.2.2.2.2.2.2.2.2.2.2.2.2.2.2.2.2.2.2.2.2.2.2.2.2.2.2.2.2.2.2.2.2.2.2.2.2.2.2.2.2.2.2 S hS)
theorem law_end {z : Nat} {g : Nat → Nat} {b0 L : Nat} {xs : Nat → Int32} (hL : L ≤ 3072) {m : Nat} (hm : L < m + 6) (hm2 : m ≤ 4000) {b : aB} {S : aH} (hS : Bas z (g, b0, L, xs) S) : ∃ S2, Am lx_ 315 14 [some (.ref b0), some (.ref (z + 0)), some (.ref (z + 132)), some (.ref (z + 146)), some (.int (nI m)), none, none] [] b S = some (some (.int 1), S2) := by
  refine ⟨S, q_of (e_315_14 _ _ _ _ _ _ _) ?_⟩
  rw [gd_t (by rw [hS.1]), if_pos (by rw [hS.1]; exact (lt_end hL hm2).mpr hm), gd_t (by decide)]
theorem law_loop {z : Nat} {g : Nat → Nat} {b0 L : Nat} {xs : Nat → Int32} {Iv : Nat → aH → Prop} (hB : ∀ i S, Iv i S → Bas z (g, b0, L, xs) S) {M : Nat} (hO : ∀ i, i < M → Ops z (g, b0, L, xs) (Iv i) (Iv (i + 1))) (hL : L ≤ 3072) (hM : L < 6 * M + 6) : ∀ (n i : Nat) (b : aB) (S : aH), i + n = M → 12 * n ≤ b.1 → 177 * n ≤ b.2 → 6 * i ≤ 4000 → Iv i S → ∃ S2, Am lx_ 315 14 [some (.ref b0), some (.ref (z + 0)), some (.ref (z + 132)), some (.ref (z + 146)), some (.int (nI (6 * i))), none, none] [] b S = some (some (.int 1), S2) := by
  intro n
  induction n with
  | zero => intro i b S hi _ _ h4 hS; exact law_end hL (by omega) h4 (hB i S hS)
  | succ n ih =>
    intro i b S hi h1 h2 h4 hS
    by_cases hm : 6 * i + 6 ≤ L
    · refine law_step (r := (none, S)) (hB i) (hO i (by omega)) hL hm (by omega) (by omega) hS (fun b' S' g1 g2 hS' => ?_)
      have := ih (i + 1) b' S' (by omega) (by omega) (by omega) (by omega) hS'
      rw [show 6 * (i + 1) = 6 * i + 6 by omega, ← nI_add] at this
      exact this
    · exact law_end hL (by omega) h4 (hB i S hS)
