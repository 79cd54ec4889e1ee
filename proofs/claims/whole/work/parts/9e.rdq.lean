section RDQ
variable {s q m e : Nat} {T : Nat → Nat} {F F' G : Nat → Nat → Nat} {w r : Bool}
def NM (T : Nat → Nat) (m c7 c8 : Nat) (G : Nat → Nat → Nat) : Prop := (∀ k, k < c7 + c8 → tK T m (G 2 k) = 1 ∧ ((G 3 k = 0 ∧ G 4 k < c7 ∧ G 2 k = G 0 (G 4 k)) ∨ (G 3 k = 1 ∧ G 4 k < c8 ∧ G 2 k = G 1 (G 4 k)))) ∧ (∀ d, d < c7 → ∃ k, k < c7 + c8 ∧ G 3 k = 0 ∧ G 4 k = d) ∧ (∀ g, g < c8 → ∃ k, k < c7 + c8 ∧ G 3 k = 1 ∧ G 4 k = g) ∧ (∀ k j, k < c7 + c8 → j < c7 + c8 → w8 T m (G 2 k) = w8 T m (G 2 j) → k = j)
def OG (F : Nat → Nat → Nat) : Prop := ∀ g, g < F 0 8 → F 3 g ≤ 1 ∧ 1 ≤ F 4 g ∧ F 4 g ≤ 8 ∧ ∀ k, k ≤ F 4 g → isS F (F 5 (g * 9 + k)) = true
def OH (F : Nat → Nat → Nat) : Prop := ∀ k, k < F 0 9 → F 6 k < F 0 7 ∧ F 7 k ≤ 60 ∧ F 8 k ≤ 14
def OS (F : Nat → Nat → Nat) : Prop := F 0 0 ≤ 14 ∧ F 0 1 ≤ 3 ∧ F 0 2 ≤ 9 ∧ F 0 3 ≤ 100 ∧ (0 < F 0 0 → 1 ≤ F 0 2)
def PV (T : Nat → Nat) (m : Nat) (F : Nat → Nat → Nat) (w r : Bool) (G : Nat → Nat → Nat) : Prop := FCn F ∧ (0 < F 9 0 ↔ 0 < F 0 0) ∧ OS F ∧ (0 < F 0 5 → 2 ≤ F 0 4 ∧ 0 < F 0 0) ∧ (∀ c, c < 64 → F 1 c ≤ 3) ∧ (w = true → isS F (F 0 6) = true) ∧ (∀ d, d < F 0 7 → isS F (F 2 d) = true) ∧ OG F ∧ OH F ∧ (r = true → 2 ≤ F 0 5) ∧ (r = false → w = false ∧ F 0 7 = 0 ∧ F 0 8 = 0 ∧ F 0 9 = 0) ∧ NM T m (F 0 7) (F 0 8) G
theorem NM_w (h : NM T m (F 0 7) (F 0 8) G) : NW T m F G := by
  obtain ⟨h1, h2, h3, _⟩ := h
  refine ⟨fun d hd => ?_, fun g hg => ?_⟩
  · obtain ⟨k, k1, k2, k3⟩ := h2 d hd
    obtain ⟨a, b⟩ := h1 k k1
    rcases b with ⟨_, _, b⟩ | ⟨b, _, _⟩
    · rw [← k3, ← b]; exact a
    · omega
  · obtain ⟨k, k1, k2, k3⟩ := h3 g hg
    obtain ⟨a, b⟩ := h1 k k1
    rcases b with ⟨b, _, _⟩ | ⟨_, _, b⟩
    · omega
    · rw [← k3, ← b]; exact a
theorem PV_L (h : PV T m F w r G) : LH T m F G := by
  obtain ⟨v1, v2, v3, v4, v5, v6, v7, v8, v9, v10, v11, v12⟩ := h
  exact ⟨v1, NM_w v12, fun h => (v4 h).1, fun k hk => by have := v9 k hk; have := v1.2.2.1; omega⟩
theorem PV_F (h : PV T m F true r G) : FOk F := by
  obtain ⟨⟨n4, n5, n7, n8, n9⟩, v2, ⟨s0, s1, s2, s3, s4⟩, v4, v5, v6, v7, v8, v9, v10, v11, v12⟩ := h
  have hr : r = true := by
    cases r with
    | true => rfl
    | false => exact absurd (v11 rfl).1 (by decide)
  have h5 := v10 hr
  have h4 := v4 (by omega)
  exact ⟨by omega, s0, s1, s4 (by omega), s2, s3, h4.1, n4, h5, n5, v6 rfl, n7, n8, n9, v5, v7, v8, v9⟩
theorem isS_e (h4 : F' 0 4 = F 0 4) (h5 : F' 0 5 = F 0 5) (h1 : F' 1 = F 1) (c : Nat) : isS F' c = isS F c := by
  unfold isS inF; rw [h4, h5, h1]
theorem PV_fl {a : (Nat → Nat → Nat) × Nat} (h : PV T m F w r G) (e : pFl T m F s = .ok a) : PV T m a.1 w r G := by
  unfold pFl at e
  by_cases c : 0 < F 9 0
  · rw [if_pos c] at e; simp at e
  · rw [if_neg c] at e
    cases c1 : pPt T m 6 1 14 (adv T m s) with
    | error u => rw [c1, eb_e] at e; simp at e
    | ok a1 =>
      rw [c1, eb_o] at e
      cases c2 : pPt T m 7 0 3 a1.2 with
      | error u => rw [c2, eb_e] at e; simp at e
      | ok a2 =>
        rw [c2, eb_o] at e
        cases c3 : pPt T m 8 1 9 a2.2 with
        | error u => rw [c3, eb_e] at e; simp at e
        | ok a3 =>
          rw [c3, eb_o] at e
          cases c4 : pPt T m 9 0 100 a3.2 with
          | error u => rw [c4, eb_e] at e; simp at e
          | ok a4 =>
            rw [c4, eb_o] at e
            injection e with e
            subst e
            have pb : ∀ {k lo hi s : Nat} {b : Nat × Nat}, pPt T m k lo hi s = .ok b → lo ≤ b.1 ∧ b.1 ≤ hi := fun {k lo hi s b} e => by
              unfold pPt at e
              by_cases c : isW T m s k = true
              · rw [if_pos c] at e; exact pWh_b e
              · rw [if_neg c] at e; simp at e
            have b1 := pb c1
            have b2 := pb c2
            have b3 := pb c3
            have b4 := pb c4
            obtain ⟨v1, v2, v3, v4, v5, v6, v7, v8, v9, v10, v11, v12⟩ := h
            simp only
            generalize hF : u2 (u2 (u2 (u2 (u2 F 9 0 1) 0 0 a1.1) 0 1 a2.1) 0 2 a3.1) 0 3 a4.1 = F'
            have f0 : ∀ j, 4 ≤ j → F' 0 j = F 0 j := fun j hj => by rw [← hF]; simp (disch := first | assumption | omega) [u2_s, u2_a, u2_k]
            have fb : ∀ b, b ≠ 0 → b ≠ 9 → F' b = F b := fun b h1 h2 => by rw [← hF]; simp (disch := first | assumption | omega) [u2_s, u2_a, u2_k]
            have g0 : F' 0 0 = a1.1 := by rw [← hF]; simp (disch := first | assumption | omega) [u2_s, u2_a, u2_k]
            have g1 : F' 0 1 = a2.1 := by rw [← hF]; simp (disch := first | assumption | omega) [u2_s, u2_a, u2_k]
            have g2 : F' 0 2 = a3.1 := by rw [← hF]; simp (disch := first | assumption | omega) [u2_s, u2_a, u2_k]
            have g3 : F' 0 3 = a4.1 := by rw [← hF]; simp (disch := first | assumption | omega) [u2_s, u2_a, u2_k]
            have g9 : F' 9 0 = 1 := by rw [← hF]; simp (disch := first | assumption | omega) [u2_s, u2_a, u2_k]
            have fs := isS_e (F := F) (F' := F') (f0 4 (by decide)) (f0 5 (by decide)) (fb 1 (by decide) (by decide))
            have e4 := f0 4 (by decide)
            have e5 := f0 5 (by decide)
            have e6 := f0 6 (by decide)
            have e7 := f0 7 (by decide)
            have e8 := f0 8 (by decide)
            have e9 := f0 9 (by decide)
            refine ⟨by unfold FCn; rw [e4, e5, e7, e8, e9]; exact v1, by rw [g9, g0]; omega, by unfold OS; rw [g0, g1, g2, g3]; omega, by rw [e5, e4, g0]; exact fun h => ⟨(v4 h).1, by omega⟩, by rw [fb 1 (by decide) (by decide)]; exact v5, by rw [fs, e6]; exact v6, ?_, ?_, ?_, by rw [e5]; exact v10, by rw [e7, e8, e9]; exact v11, by rw [e7, e8]; exact v12⟩
            · rw [e7, fb 2 (by decide) (by decide)]; intro d hd; rw [fs]; exact v7 d hd
            · unfold OG; rw [e8, fb 3 (by decide) (by decide), fb 4 (by decide) (by decide), fb 5 (by decide) (by decide)]; intro g hg; obtain ⟨o1, o2, o3, o4⟩ := v8 g hg; exact ⟨o1, o2, o3, fun k hk => by rw [fs]; exact o4 k hk⟩
            · unfold OH; rw [e9, e7, fb 6 (by decide) (by decide), fb 7 (by decide) (by decide), fb 8 (by decide) (by decide)]; exact v9
theorem PV_rw {a : (Nat → Nat → Nat) × Nat} (h : PV T m F w r G) (e : pRw T m F r s = .ok a) : PV T m a.1 w r G := by
  unfold pRw at e
  by_cases c8 : 8 ≤ F 0 5
  · rw [if_pos c8] at e; simp at e
  rw [if_neg c8] at e
  by_cases c9 : F 9 0 = 0
  · rw [if_pos c9] at e; simp at e
  rw [if_neg c9] at e
  cases r with
  | true => rw [if_pos rfl] at e; simp at e
  | false =>
    rw [if_neg (by decide)] at e
    by_cases ck : tK T m (adv T m s) = 1
    · rw [if_pos ck] at e
      have tc := tK_c ck (Or.inl rfl)
      have l8 := tc.2.2.2.1 rfl
      by_cases co : rwO T F (adv T m s) (tLn T m (adv T m s)) = true
      · rw [if_pos co] at e
        injection e with e
        subst e
        simp only
        generalize hl : tLn T m (adv T m s) = l at *
        generalize ht : adv T m s = t at *
        have co' := co
        unfold rwO at co'
        simp only [Bool.and_eq_true, Bool.or_eq_true, decide_eq_true_eq, Bool.not_eq_true'] at co'
        obtain ⟨⟨l2, _⟩, ca⟩ := co'
        obtain ⟨⟨n4, n5, n7, n8, n9⟩, v2, v3, v4, v5, v6, v7, v8, v9, v10, v11, v12⟩ := h
        obtain ⟨w0, w7, w8', w9⟩ := v11 rfl
        have f0 : ∀ j, j ≠ 4 → j ≠ 5 → u2 (u2 (rwF T F t l) 0 4 l) 0 5 (F 0 5 + 1) 0 j = F 0 j := fun j j1 j2 => by
          rw [u2_k _ _ _ _ _ j2, u2_k _ _ _ _ _ j1]; simp [rwF]
        have f4 : u2 (u2 (rwF T F t l) 0 4 l) 0 5 (F 0 5 + 1) 0 4 = l := by rw [u2_k _ _ _ _ _ (by decide), u2_s]
        have f5 : u2 (u2 (rwF T F t l) 0 4 l) 0 5 (F 0 5 + 1) 0 5 = F 0 5 + 1 := u2_s _ _ _ _
        have fb : ∀ b, b ≠ 0 → b ≠ 1 → u2 (u2 (rwF T F t l) 0 4 l) 0 5 (F 0 5 + 1) b = F b := fun b b1 b2 => by
          rw [u2_a _ _ _ _ _ b1, u2_a _ _ _ _ _ b1]; funext k; simp [rwF, b2]
        have f1 : ∀ c, u2 (u2 (rwF T F t l) 0 4 l) 0 5 (F 0 5 + 1) 1 c = if 8 * F 0 5 ≤ c ∧ c < 8 * F 0 5 + l then slc (T (t + (c - 8 * F 0 5))) else F 1 c := fun c => by
          rw [u2_a _ _ _ _ _ (by decide), u2_a _ _ _ _ _ (by decide)]; simp [rwF]
        generalize u2 (u2 (rwF T F t l) 0 4 l) 0 5 (F 0 5 + 1) = F' at *
        have e7 := f0 7 (by decide) (by decide)
        have e8 := f0 8 (by decide) (by decide)
        have e9 := f0 9 (by decide) (by decide)
        have e0 := f0 0 (by decide) (by decide)
        refine ⟨by unfold FCn; rw [f4, f5, e7, e8, e9]; omega, by rw [fb 9 (by decide) (by decide), e0]; exact v2, by unfold OS; rw [e0, f0 1 (by decide) (by decide), f0 2 (by decide) (by decide), f0 3 (by decide) (by decide)]; exact v3, by rw [f5, f4, e0]; exact fun _ => ⟨l2, by omega⟩, ?_, by rw [w0]; simp, ?_, ?_, ?_, by simp, fun _ => by rw [e7, e8, e9]; exact v11 rfl, by rw [e7, e8]; exact v12⟩
        · intro c hc
          rw [f1]
          by_cases ci : 8 * F 0 5 ≤ c ∧ c < 8 * F 0 5 + l
          · rw [if_pos ci]
            have := anyB_f.mp ca (c - 8 * F 0 5) (by omega)
            have h4 := slc_b (T (t + (c - 8 * F 0 5)))
            simp only [decide_eq_false_iff_not] at this
            omega
          · rw [if_neg ci]; exact v5 c hc
        · intro d hd; omega
        · intro g hg; omega
        · intro k hk; omega
      · rw [if_neg co] at e; simp at e
    · rw [if_neg ck] at e; simp at e
theorem lb_b {α : Type} {f : Nat → Exc α} {a : α} (h : (pLB T m F s).bind f = .ok a) : ∃ t, t = adv T m s ∧ 2 ≤ F 0 5 ∧ f t = .ok a := by
  cases c1 : pLB T m F s with
  | error u => rw [c1, eb_e] at h; simp at h
  | ok t =>
    rw [c1, eb_o] at h
    unfold pLB at c1
    by_cases c : F 0 5 < 2
    · rw [if_pos c] at c1; simp at c1
    · rw [if_neg c] at c1; injection c1 with c1; exact ⟨t, c1.symm, by omega, h⟩
theorem ob_b {α β : Type} {x : Exc α} {f : α → Exc β} {a : β} (h : x.bind f = .ok a) : ∃ b, x = .ok b ∧ f b = .ok a := by
  cases x with
  | error u => rw [eb_e] at h; simp at h
  | ok b => exact ⟨b, rfl, h⟩
theorem nb_b {t : Nat} (h : pNm T m F G s = .ok t) : isN T m s = true ∧ kn T m F G s = false ∧ t = adv T m s := by
  unfold pNm at h
  by_cases c1 : isN T m s = true
  · rw [if_pos c1] at h
    by_cases c2 : kn T m F G s = true
    · rw [if_pos c2] at h; simp at h
    · rw [if_neg c2] at h; injection h with h; exact ⟨c1, by simpa using c2, h.symm⟩
  · rw [if_neg c1] at h; simp at h
theorem PV_wl {a : (Nat → Nat → Nat) × Nat} (h : PV T m F w r G) (e : pWl T m F w s = .ok a) : PV T m a.1 true true G := by
  unfold pWl at e
  cases w with
  | true => rw [if_pos rfl] at e; simp at e
  | false =>
    rw [if_neg (by decide)] at e
    obtain ⟨t, _, h5, e⟩ := lb_b e
    obtain ⟨c, c1, e⟩ := ob_b e
    injection e with e
    subst e
    have hs := pCl_s c1
    simp only
    obtain ⟨v1, v2, v3, v4, v5, v6, v7, v8, v9, v10, v11, v12⟩ := h
    have f0 : ∀ j, j ≠ 6 → u2 F 0 6 c.1 0 j = F 0 j := fun j hj => u2_k _ _ _ _ _ hj
    have fb : ∀ b, b ≠ 0 → u2 F 0 6 c.1 b = F b := fun b hb => u2_a _ _ _ _ _ hb
    have f6 : u2 F 0 6 c.1 0 6 = c.1 := u2_s _ _ _ _
    generalize u2 F 0 6 c.1 = F' at *
    have fs := isS_e (F := F) (F' := F') (f0 4 (by decide)) (f0 5 (by decide)) (fb 1 (by decide))
    have e0 := f0 0 (by decide)
    have e4 := f0 4 (by decide)
    have e5 := f0 5 (by decide)
    have e7 := f0 7 (by decide)
    have e8 := f0 8 (by decide)
    have e9 := f0 9 (by decide)
    refine ⟨by unfold FCn; rw [e4, e5, e7, e8, e9]; exact v1, by rw [fb 9 (by decide), e0]; exact v2, by unfold OS; rw [e0, f0 1 (by decide), f0 2 (by decide), f0 3 (by decide)]; exact v3, by rw [e5, e4, e0]; exact v4, by rw [fb 1 (by decide)]; exact v5, by rw [fs, f6]; exact fun _ => hs, ?_, ?_, ?_, by rw [e5]; exact fun _ => h5, by simp, by rw [e7, e8]; exact v12⟩
    · rw [e7, fb 2 (by decide)]; intro d hd; rw [fs]; exact v7 d hd
    · unfold OG; rw [e8, fb 3 (by decide), fb 4 (by decide), fb 5 (by decide)]; intro g hg; obtain ⟨o1, o2, o3, o4⟩ := v8 g hg; exact ⟨o1, o2, o3, fun k hk => by rw [fs]; exact o4 k hk⟩
    · unfold OH; rw [e9, e7, fb 6 (by decide), fb 7 (by decide), fb 8 (by decide)]; exact v9
theorem nmG_2 {a n : Nat} (ha : a < 2) (k : Nat) : nmG F G a s n 2 k = (if k = F 0 7 + F 0 8 then s else G 2 k) ∧ nmG F G a s n 3 k = (if k = F 0 7 + F 0 8 then a else G 3 k) ∧ nmG F G a s n 4 k = (if k = F 0 7 + F 0 8 then n else G 4 k) := by
  unfold nmG
  refine ⟨?_, ?_, ?_⟩
  · rw [u2_a _ _ _ _ _ (by decide), u2_a _ _ _ _ _ (by decide)]
    by_cases h : k = F 0 7 + F 0 8
    · rw [h, u2_s, if_pos rfl]
    · rw [u2_k _ _ _ _ _ h, u2_a _ _ _ _ _ (by omega), if_neg h]
  · rw [u2_a _ _ _ _ _ (by decide)]
    by_cases h : k = F 0 7 + F 0 8
    · rw [h, u2_s, if_pos rfl]
    · rw [u2_k _ _ _ _ _ h, u2_a _ _ _ _ _ (by decide), u2_a _ _ _ _ _ (by omega), if_neg h]
  · by_cases h : k = F 0 7 + F 0 8
    · rw [h, u2_s, if_pos rfl]
    · rw [u2_k _ _ _ _ _ h, u2_a _ _ _ _ _ (by decide), u2_a _ _ _ _ _ (by decide), u2_a _ _ _ _ _ (by omega), if_neg h]
theorem kn_f (h : NM T m (F 0 7) (F 0 8) G) (hk : kn T m F G s = false) {k : Nat} (h' : k < F 0 7 + F 0 8) : w8 T m (G 2 k) ≠ w8 T m s := by
  unfold kn at hk
  rw [Bool.or_eq_false_iff] at hk
  obtain ⟨_, b⟩ := h.1 k h'
  rcases b with ⟨_, b1, b2⟩ | ⟨_, b1, b2⟩
  · have := anyB_f.mp hk.1 (G 4 k) b1
    rw [b2]; simpa using this
  · have := anyB_f.mp hk.2 (G 4 k) b1
    rw [b2]; simpa using this
theorem NM_0 (h : NM T m (F 0 7) (F 0 8) G) (hk : kn T m F G s = false) (ht : tK T m s = 1) : NM T m (F 0 7 + 1) (F 0 8) (nmG F G 0 s (F 0 7)) := by
  have nk := fun k h' => kn_f h hk (k := k) h'
  obtain ⟨h1, h2, h3, h4⟩ := h
  have g := fun k => nmG_2 (F := F) (G := G) (s := s) (n := F 0 7) (show 0 < 2 by decide) k
  have g0 := fun d => nmG_a (F := F) (G := G) (s := s) (n := F 0 7) (show 0 < 2 by decide) (show 0 < 2 by decide) d
  have g1 := fun d => nmG_a (F := F) (G := G) (s := s) (n := F 0 7) (show 0 < 2 by decide) (show 1 < 2 by decide) d
  refine ⟨fun k hk => ?_, fun d hd => ?_, fun d hd => ?_, fun k j hk hj e => ?_⟩
  · obtain ⟨k2, k3, k4⟩ := g k
    by_cases c : k = F 0 7 + F 0 8
    · rw [if_pos c] at k2 k3 k4
      rw [k2, k3, k4]
      exact ⟨ht, Or.inl ⟨rfl, by omega, by rw [g0, if_pos ⟨rfl, rfl⟩]⟩⟩
    · rw [if_neg c] at k2 k3 k4
      rw [k2, k3, k4]
      obtain ⟨a, b⟩ := h1 k (by omega)
      refine ⟨a, ?_⟩
      rcases b with ⟨b0, b1, b2⟩ | ⟨b0, b1, b2⟩
      · exact Or.inl ⟨b0, by omega, by rw [g0, if_neg (by omega)]; exact b2⟩
      · exact Or.inr ⟨b0, b1, by rw [g1, if_neg (by omega)]; exact b2⟩
  · by_cases c : d = F 0 7
    · refine ⟨F 0 7 + F 0 8, by omega, ?_, ?_⟩
      · rw [(g _).2.1, if_pos rfl]
      · rw [(g _).2.2, if_pos rfl, c]
    · obtain ⟨k, k1, k2, k3⟩ := h2 d (by omega)
      refine ⟨k, by omega, ?_, ?_⟩
      · rw [(g _).2.1, if_neg (by omega)]; exact k2
      · rw [(g _).2.2, if_neg (by omega)]; exact k3
  · obtain ⟨k, k1, k2, k3⟩ := h3 d hd
    refine ⟨k, by omega, ?_, ?_⟩
    · rw [(g _).2.1, if_neg (by omega)]; exact k2
    · rw [(g _).2.2, if_neg (by omega)]; exact k3
  · rw [(g k).1, (g j).1] at e
    by_cases ck : k = F 0 7 + F 0 8
    · by_cases cj : j = F 0 7 + F 0 8
      · omega
      · rw [if_pos ck, if_neg cj] at e; exact absurd e.symm (nk j (by omega))
    · by_cases cj : j = F 0 7 + F 0 8
      · rw [if_neg ck, if_pos cj] at e; exact absurd e (nk k (by omega))
      · rw [if_neg ck, if_neg cj] at e; exact h4 k j (by omega) (by omega) e
theorem NM_1 (h : NM T m (F 0 7) (F 0 8) G) (hk : kn T m F G s = false) (ht : tK T m s = 1) : NM T m (F 0 7) (F 0 8 + 1) (nmG F G 1 s (F 0 8)) := by
  have nk := fun k h' => kn_f h hk (k := k) h'
  obtain ⟨h1, h2, h3, h4⟩ := h
  have g := fun k => nmG_2 (F := F) (G := G) (s := s) (n := F 0 8) (show 1 < 2 by decide) k
  have g0 := fun d => nmG_a (F := F) (G := G) (s := s) (n := F 0 8) (show 1 < 2 by decide) (show 0 < 2 by decide) d
  have g1 := fun d => nmG_a (F := F) (G := G) (s := s) (n := F 0 8) (show 1 < 2 by decide) (show 1 < 2 by decide) d
  refine ⟨fun k hk => ?_, fun d hd => ?_, fun d hd => ?_, fun k j hk hj e => ?_⟩
  · obtain ⟨k2, k3, k4⟩ := g k
    by_cases c : k = F 0 7 + F 0 8
    · rw [if_pos c] at k2 k3 k4
      rw [k2, k3, k4]
      exact ⟨ht, Or.inr ⟨rfl, by omega, by rw [g1, if_pos ⟨rfl, rfl⟩]⟩⟩
    · rw [if_neg c] at k2 k3 k4
      rw [k2, k3, k4]
      obtain ⟨a, b⟩ := h1 k (by omega)
      refine ⟨a, ?_⟩
      rcases b with ⟨b0, b1, b2⟩ | ⟨b0, b1, b2⟩
      · exact Or.inl ⟨b0, b1, by rw [g0, if_neg (by omega)]; exact b2⟩
      · exact Or.inr ⟨b0, by omega, by rw [g1, if_neg (by omega)]; exact b2⟩
  · obtain ⟨k, k1, k2, k3⟩ := h2 d hd
    refine ⟨k, by omega, ?_, ?_⟩
    · rw [(g _).2.1, if_neg (by omega)]; exact k2
    · rw [(g _).2.2, if_neg (by omega)]; exact k3
  · by_cases c : d = F 0 8
    · refine ⟨F 0 7 + F 0 8, by omega, ?_, ?_⟩
      · rw [(g _).2.1, if_pos rfl]
      · rw [(g _).2.2, if_pos rfl, c]
    · obtain ⟨k, k1, k2, k3⟩ := h3 d (by omega)
      refine ⟨k, by omega, ?_, ?_⟩
      · rw [(g _).2.1, if_neg (by omega)]; exact k2
      · rw [(g _).2.2, if_neg (by omega)]; exact k3
  · rw [(g k).1, (g j).1] at e
    by_cases ck : k = F 0 7 + F 0 8
    · by_cases cj : j = F 0 7 + F 0 8
      · omega
      · rw [if_pos ck, if_neg cj] at e; exact absurd e.symm (nk j (by omega))
    · by_cases cj : j = F 0 7 + F 0 8
      · rw [if_neg ck, if_pos cj] at e; exact absurd e (nk k (by omega))
      · rw [if_neg ck, if_neg cj] at e; exact h4 k j (by omega) (by omega) e
theorem PV_dr {a : ((Nat → Nat → Nat) × (Nat → Nat → Nat)) × Nat} (h : PV T m F w r G) (e : pDr T m F G s = .ok a) : PV T m a.1.1 w true a.1.2 := by
  unfold pDr at e
  by_cases c4 : 4 ≤ F 0 7
  · rw [if_pos c4] at e; simp at e
  rw [if_neg c4] at e
  obtain ⟨t, _, h5, e⟩ := lb_b e
  obtain ⟨t2, c1, e⟩ := ob_b e
  obtain ⟨c, c2, e⟩ := ob_b e
  injection e with e
  subst e
  obtain ⟨n1, n2, _⟩ := nb_b c1
  have hs := pCl_s c2
  simp only
  obtain ⟨v1, v2, v3, v4, v5, v6, v7, v8, v9, v10, v11, v12⟩ := h
  have nm := NM_0 v12 n2 (isN_k n1)
  generalize nmG F G 0 t (F 0 7) = G' at *
  have f0 : ∀ j, j ≠ 7 → u2 (u2 F 2 (F 0 7) c.1) 0 7 (F 0 7 + 1) 0 j = F 0 j := fun j j1 => by
    rw [u2_k _ _ _ _ _ j1, u2_a _ _ _ _ _ (by decide)]
  have f7 : u2 (u2 F 2 (F 0 7) c.1) 0 7 (F 0 7 + 1) 0 7 = F 0 7 + 1 := u2_s _ _ _ _
  have fb : ∀ b, b ≠ 0 → b ≠ 2 → u2 (u2 F 2 (F 0 7) c.1) 0 7 (F 0 7 + 1) b = F b := fun b b1 b2 => by
    rw [u2_a _ _ _ _ _ b1, u2_a _ _ _ _ _ b2]
  have f2 : ∀ d, u2 (u2 F 2 (F 0 7) c.1) 0 7 (F 0 7 + 1) 2 d = if d = F 0 7 then c.1 else F 2 d := fun d => by
    rw [u2_a _ _ _ _ _ (by decide)]
    by_cases e : d = F 0 7
    · rw [e, u2_s, if_pos rfl]
    · rw [u2_k _ _ _ _ _ e, if_neg e]
  generalize u2 (u2 F 2 (F 0 7) c.1) 0 7 (F 0 7 + 1) = F' at *
  have fs := isS_e (F := F) (F' := F') (f0 4 (by decide)) (f0 5 (by decide)) (fb 1 (by decide) (by decide))
  have e0 := f0 0 (by decide)
  have e4 := f0 4 (by decide)
  have e5 := f0 5 (by decide)
  have e6 := f0 6 (by decide)
  have e8 := f0 8 (by decide)
  have e9 := f0 9 (by decide)
  refine ⟨by unfold FCn at v1 ⊢; rw [e4, e5, f7, e8, e9]; omega, by rw [fb 9 (by decide) (by decide), e0]; exact v2, by unfold OS; rw [e0, f0 1 (by decide), f0 2 (by decide), f0 3 (by decide)]; exact v3, by rw [e5, e4, e0]; exact v4, by rw [fb 1 (by decide) (by decide)]; exact v5, by rw [fs, e6]; exact v6, ?_, ?_, ?_, by rw [e5]; exact fun _ => h5, by simp, by rw [f7, e8]; exact nm⟩
  · rw [f7]; intro d hd; rw [fs, f2]
    by_cases e : d = F 0 7
    · rw [if_pos e]; exact hs
    · rw [if_neg e]; exact v7 d (by omega)
  · unfold OG; rw [e8, fb 3 (by decide) (by decide), fb 4 (by decide) (by decide), fb 5 (by decide) (by decide)]; intro g hg; obtain ⟨o1, o2, o3, o4⟩ := v8 g hg; exact ⟨o1, o2, o3, fun k hk => by rw [fs]; exact o4 k hk⟩
  · unfold OH; rw [e9, f7, fb 6 (by decide) (by decide), fb 7 (by decide) (by decide), fb 8 (by decide) (by decide)]; intro k hk; have := v9 k hk; omega
theorem PV_dg {a : ((Nat → Nat → Nat) × (Nat → Nat → Nat)) × Nat} (h : PV T m F w r G) (e : pDg T m F G s = .ok a) : PV T m a.1.1 w true a.1.2 := by
  unfold pDg at e
  by_cases c4 : 4 ≤ F 0 8
  · rw [if_pos c4] at e; simp at e
  rw [if_neg c4] at e
  obtain ⟨t, _, h5, e⟩ := lb_b e
  obtain ⟨t2, c1, e⟩ := ob_b e
  obtain ⟨d, c2, e⟩ := ob_b e
  obtain ⟨c, c3, e⟩ := ob_b e
  by_cases ck : tK T m c.2 = 1
  · rw [if_pos ck] at e
    by_cases co : wyO T F c.2 c.1 (tLn T m c.2) = true
    · rw [if_pos co] at e
      injection e with e
      subst e
      obtain ⟨n1, n2, _⟩ := nb_b c1
      have hs := pCl_s c3
      have dl : d.1 ≤ 1 := by
        unfold pSd at c2
        by_cases x1 : isW T m t2 11 = true
        · rw [if_pos x1] at c2; injection c2 with c2; rw [← c2]; simp
        · rw [if_neg x1] at c2
          by_cases x2 : isW T m t2 10 = true
          · rw [if_pos x2] at c2; injection c2 with c2; rw [← c2]; simp
          · rw [if_neg x2] at c2; simp at c2
      have tc := tK_c ck (Or.inl rfl)
      have l1 := tc.2.2.1
      have l8 := tc.2.2.2.1 rfl
      have ws : ∀ k, k ≤ tLn T m c.2 → isS F (wy T c.2 c.1 k) = true := fun k hk => by
        cases k with
        | zero => exact hs
        | succ i =>
          unfold wyO at co
          have := anyB_f.mp (by simpa using co : anyB (fun i => !isS F (wy T c.2 c.1 (i + 1))) (tLn T m c.2) = false) i (by omega)
          simpa using this
      simp only
      generalize tLn T m c.2 = l at *
      generalize c.2 = u at *
      obtain ⟨v1, v2, v3, v4, v5, v6, v7, v8, v9, v10, v11, v12⟩ := h
      have nm := NM_1 v12 n2 (isN_k n1)
      generalize nmG F G 1 t (F 0 8) = G' at *
      have f0 : ∀ j, j ≠ 8 → u2 (u2 (u2 (wyF T F u c.1 l) 3 (F 0 8) d.1) 4 (F 0 8) l) 0 8 (F 0 8 + 1) 0 j = F 0 j := fun j j1 => by
        rw [u2_k _ _ _ _ _ j1, u2_a _ _ _ _ _ (by decide), u2_a _ _ _ _ _ (by decide)]; simp [wyF]
      have f8 : u2 (u2 (u2 (wyF T F u c.1 l) 3 (F 0 8) d.1) 4 (F 0 8) l) 0 8 (F 0 8 + 1) 0 8 = F 0 8 + 1 := u2_s _ _ _ _
      have fb : ∀ b, b ≠ 0 → b ≠ 3 → b ≠ 4 → b ≠ 5 → u2 (u2 (u2 (wyF T F u c.1 l) 3 (F 0 8) d.1) 4 (F 0 8) l) 0 8 (F 0 8 + 1) b = F b := fun b b1 b2 b3 b4 => by
        rw [u2_a _ _ _ _ _ b1, u2_a _ _ _ _ _ b3, u2_a _ _ _ _ _ b2]; funext k; simp [wyF, b4]
      have g3 : ∀ g, u2 (u2 (u2 (wyF T F u c.1 l) 3 (F 0 8) d.1) 4 (F 0 8) l) 0 8 (F 0 8 + 1) 3 g = if g = F 0 8 then d.1 else F 3 g := fun g => by
        rw [u2_a _ _ _ _ _ (by decide), u2_a _ _ _ _ _ (by decide)]
        by_cases e : g = F 0 8
        · rw [e, u2_s, if_pos rfl]
        · rw [u2_k _ _ _ _ _ e, if_neg e]; simp [wyF]
      have g4 : ∀ g, u2 (u2 (u2 (wyF T F u c.1 l) 3 (F 0 8) d.1) 4 (F 0 8) l) 0 8 (F 0 8 + 1) 4 g = if g = F 0 8 then l else F 4 g := fun g => by
        rw [u2_a _ _ _ _ _ (by decide)]
        by_cases e : g = F 0 8
        · rw [e, u2_s, if_pos rfl]
        · rw [u2_k _ _ _ _ _ e, u2_a _ _ _ _ _ (by decide), if_neg e]; simp [wyF]
      have g5 : ∀ k, u2 (u2 (u2 (wyF T F u c.1 l) 3 (F 0 8) d.1) 4 (F 0 8) l) 0 8 (F 0 8 + 1) 5 k = if F 0 8 * 9 ≤ k ∧ k ≤ F 0 8 * 9 + l then wy T u c.1 (k - F 0 8 * 9) else F 5 k := fun k => by
        rw [u2_a _ _ _ _ _ (by decide), u2_a _ _ _ _ _ (by decide), u2_a _ _ _ _ _ (by decide)]; simp [wyF]
      generalize u2 (u2 (u2 (wyF T F u c.1 l) 3 (F 0 8) d.1) 4 (F 0 8) l) 0 8 (F 0 8 + 1) = F' at *
      have b1 := fb 1 (by decide) (by decide) (by decide) (by decide)
      have fs := isS_e (F := F) (F' := F') (f0 4 (by decide)) (f0 5 (by decide)) b1
      have e0 := f0 0 (by decide)
      have e4 := f0 4 (by decide)
      have e5 := f0 5 (by decide)
      have e6 := f0 6 (by decide)
      have e7 := f0 7 (by decide)
      have e9 := f0 9 (by decide)
      refine ⟨by unfold FCn at v1 ⊢; rw [e4, e5, e7, f8, e9]; omega, by rw [fb 9 (by decide) (by decide) (by decide) (by decide), e0]; exact v2, by unfold OS; rw [e0, f0 1 (by decide), f0 2 (by decide), f0 3 (by decide)]; exact v3, by rw [e5, e4, e0]; exact v4, by rw [b1]; exact v5, by rw [fs, e6]; exact v6, ?_, ?_, ?_, by rw [e5]; exact fun _ => h5, by simp, by rw [e7, f8]; exact nm⟩
      · rw [e7, fb 2 (by decide) (by decide) (by decide) (by decide)]; intro d hd; rw [fs]; exact v7 d hd
      · intro g hg
        rw [f8] at hg
        rw [g3, g4]
        by_cases e : g = F 0 8
        · rw [if_pos e, if_pos e]
          refine ⟨dl, l1, l8, fun k hk => ?_⟩
          rw [fs, g5, e, if_pos (by omega), show F 0 8 * 9 + k - F 0 8 * 9 = k by omega]
          exact ws k hk
        · rw [if_neg e, if_neg e]
          obtain ⟨o1, o2, o3, o4⟩ := v8 g (by omega)
          refine ⟨o1, o2, o3, fun k hk => ?_⟩
          rw [fs, g5, if_neg (by omega)]; exact o4 k hk
      · unfold OH; rw [e9, e7, fb 6 (by decide) (by decide) (by decide) (by decide), fb 7 (by decide) (by decide) (by decide) (by decide), fb 8 (by decide) (by decide) (by decide) (by decide)]; exact v9
    · rw [if_neg co] at e; simp at e
  · rw [if_neg ck] at e; simp at e
theorem PV_hd {a : (Nat → Nat → Nat) × Nat} (h : PV T m F w r G) (e : pHd T m F G s = .ok a) : PV T m a.1 w true G := by
  unfold pHd at e
  by_cases c4 : 6 ≤ F 0 9
  · rw [if_pos c4] at e; simp at e
  rw [if_neg c4] at e
  obtain ⟨t, _, h5, e⟩ := lb_b e
  obtain ⟨d, c1, e⟩ := ob_b e
  obtain ⟨b, c2, e⟩ := ob_b e
  by_cases co : rpt F d.1 b.1 = true
  · rw [if_pos co] at e; simp at e
  rw [if_neg co] at e
  obtain ⟨f, c3, e⟩ := ob_b e
  injection e with e
  subst e
  have dl := pDn_b c1
  have bl := pWh_b c2
  have fl := pWh_b c3
  simp only
  obtain ⟨v1, v2, v3, v4, v5, v6, v7, v8, v9, v10, v11, v12⟩ := h
  have f0 : ∀ j, j ≠ 9 → u2 (u2 (u2 (u2 F 6 (F 0 9) d.1) 7 (F 0 9) b.1) 8 (F 0 9) f.1) 0 9 (F 0 9 + 1) 0 j = F 0 j := fun j j1 => by
    rw [u2_k _ _ _ _ _ j1, u2_a _ _ _ _ _ (by decide), u2_a _ _ _ _ _ (by decide), u2_a _ _ _ _ _ (by decide)]
  have f9 : u2 (u2 (u2 (u2 F 6 (F 0 9) d.1) 7 (F 0 9) b.1) 8 (F 0 9) f.1) 0 9 (F 0 9 + 1) 0 9 = F 0 9 + 1 := u2_s _ _ _ _
  have fb : ∀ x, x ≠ 0 → x ≠ 6 → x ≠ 7 → x ≠ 8 → u2 (u2 (u2 (u2 F 6 (F 0 9) d.1) 7 (F 0 9) b.1) 8 (F 0 9) f.1) 0 9 (F 0 9 + 1) x = F x := fun x b1 b2 b3 b4 => by
    rw [u2_a _ _ _ _ _ b1, u2_a _ _ _ _ _ b4, u2_a _ _ _ _ _ b3, u2_a _ _ _ _ _ b2]
  have f6 : ∀ k, u2 (u2 (u2 (u2 F 6 (F 0 9) d.1) 7 (F 0 9) b.1) 8 (F 0 9) f.1) 0 9 (F 0 9 + 1) 6 k = (if k = F 0 9 then d.1 else F 6 k) ∧ u2 (u2 (u2 (u2 F 6 (F 0 9) d.1) 7 (F 0 9) b.1) 8 (F 0 9) f.1) 0 9 (F 0 9 + 1) 7 k = (if k = F 0 9 then b.1 else F 7 k) ∧ u2 (u2 (u2 (u2 F 6 (F 0 9) d.1) 7 (F 0 9) b.1) 8 (F 0 9) f.1) 0 9 (F 0 9 + 1) 8 k = (if k = F 0 9 then f.1 else F 8 k) := fun k => by
    by_cases e : k = F 0 9
    · rw [if_pos e, if_pos e, if_pos e, e]; refine ⟨?_, ?_, ?_⟩ <;> simp (disch := first | assumption | omega) [u2_s, u2_a, u2_k]
    · rw [if_neg e, if_neg e, if_neg e]; refine ⟨?_, ?_, ?_⟩ <;> simp (disch := first | assumption | omega) [u2_s, u2_a, u2_k]
  generalize u2 (u2 (u2 (u2 F 6 (F 0 9) d.1) 7 (F 0 9) b.1) 8 (F 0 9) f.1) 0 9 (F 0 9 + 1) = F' at *
  have b1 := fb 1 (by decide) (by decide) (by decide) (by decide)
  have fs := isS_e (F := F) (F' := F') (f0 4 (by decide)) (f0 5 (by decide)) b1
  have e0 := f0 0 (by decide)
  have e4 := f0 4 (by decide)
  have e5 := f0 5 (by decide)
  have e6 := f0 6 (by decide)
  have e7 := f0 7 (by decide)
  have e8 := f0 8 (by decide)
  refine ⟨by unfold FCn at v1 ⊢; rw [e4, e5, e7, e8, f9]; omega, by rw [fb 9 (by decide) (by decide) (by decide) (by decide), e0]; exact v2, by unfold OS; rw [e0, f0 1 (by decide), f0 2 (by decide), f0 3 (by decide)]; exact v3, by rw [e5, e4, e0]; exact v4, by rw [b1]; exact v5, by rw [fs, e6]; exact v6, ?_, ?_, ?_, by rw [e5]; exact fun _ => h5, by simp, by rw [e7, e8]; exact v12⟩
  · rw [e7, fb 2 (by decide) (by decide) (by decide) (by decide)]; intro d hd; rw [fs]; exact v7 d hd
  · unfold OG; rw [e8, fb 3 (by decide) (by decide) (by decide) (by decide), fb 4 (by decide) (by decide) (by decide) (by decide), fb 5 (by decide) (by decide) (by decide) (by decide)]; intro g hg; obtain ⟨o1, o2, o3, o4⟩ := v8 g hg; exact ⟨o1, o2, o3, fun k hk => by rw [fs]; exact o4 k hk⟩
  · intro k hk
    rw [f9] at hk
    obtain ⟨k6, k7, k8⟩ := f6 k
    rw [k6, k7, k8, e7]
    by_cases e : k = F 0 9
    · rw [if_pos e, if_pos e, if_pos e]; exact ⟨dl, bl.2, fl.2⟩
    · rw [if_neg e, if_neg e, if_neg e]; exact v9 k (by omega)
theorem PV_ln {σ τ : Sg} (h : PV T m σ.2.1 σ.2.2.1 σ.2.2.2.1 σ.2.2.2.2) (e : pLn T m σ = .ok τ) : PV T m τ.2.1 τ.2.2.1 τ.2.2.2.1 τ.2.2.2.2 := by
  obtain ⟨s, F, w, r, G⟩ := σ
  unfold pLn at e
  simp only at e h
  by_cases c0 : isW T m s 0 = true
  · rw [if_pos c0] at e; obtain ⟨a, a1, e⟩ := ob_b e; injection e with e; subst e; exact PV_fl h a1
  rw [if_neg c0] at e
  by_cases c1 : isW T m s 1 = true
  · rw [if_pos c1] at e; obtain ⟨a, a1, e⟩ := ob_b e; injection e with e; subst e; exact PV_rw h a1
  rw [if_neg c1] at e
  by_cases c2 : isW T m s 2 = true
  · rw [if_pos c2] at e; obtain ⟨a, a1, e⟩ := ob_b e; injection e with e; subst e; exact PV_wl h a1
  rw [if_neg c2] at e
  by_cases c3 : isW T m s 3 = true
  · rw [if_pos c3] at e; obtain ⟨a, a1, e⟩ := ob_b e; injection e with e; subst e; exact PV_dr h a1
  rw [if_neg c3] at e
  by_cases c4 : isW T m s 4 = true
  · rw [if_pos c4] at e; obtain ⟨a, a1, e⟩ := ob_b e; injection e with e; subst e; exact PV_dg h a1
  rw [if_neg c4] at e
  by_cases c5 : isW T m s 5 = true
  · rw [if_pos c5] at e; obtain ⟨a, a1, e⟩ := ob_b e; injection e with e; subst e; exact PV_hd h a1
  rw [if_neg c5] at e; simp at e
/-- a line goes on -/
theorem ln_m {σ τ : Sg} (h : σ.1 ≤ m) (e : pLn T m σ = .ok τ) : σ.1 ≤ τ.1 ∧ τ.1 ≤ m := by
  obtain ⟨s, F, w, r, G⟩ := σ
  unfold pLn at e
  simp only at e h ⊢
  by_cases c0 : isW T m s 0 = true
  · rw [if_pos c0] at e; obtain ⟨a, a1, e⟩ := ob_b e; injection e with e; subst e; exact pFl_m h a.1 a.2 a1
  rw [if_neg c0] at e
  by_cases c1 : isW T m s 1 = true
  · rw [if_pos c1] at e; obtain ⟨a, a1, e⟩ := ob_b e; injection e with e; subst e; exact pRw_m h a.1 a.2 a1
  rw [if_neg c1] at e
  by_cases c2 : isW T m s 2 = true
  · rw [if_pos c2] at e; obtain ⟨a, a1, e⟩ := ob_b e; injection e with e; subst e; exact pWl_m h a.1 a.2 a1
  rw [if_neg c2] at e
  by_cases c3 : isW T m s 3 = true
  · rw [if_pos c3] at e; obtain ⟨a, a1, e⟩ := ob_b e; injection e with e; subst e; exact pDr_m h a.1 a.2 a1
  rw [if_neg c3] at e
  by_cases c4 : isW T m s 4 = true
  · rw [if_pos c4] at e; obtain ⟨a, a1, e⟩ := ob_b e; injection e with e; subst e; exact pDg_m h a.1 a.2 a1
  rw [if_neg c4] at e
  by_cases c5 : isW T m s 5 = true
  · rw [if_pos c5] at e; obtain ⟨a, a1, e⟩ := ob_b e; injection e with e; subst e; exact pHd_m h a.1 a.2 a1
  rw [if_neg c5] at e; simp at e
end RDQ
