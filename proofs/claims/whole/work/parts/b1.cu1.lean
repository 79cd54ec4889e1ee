section CU1
variable {g g' : Nat → Nat → Bool} {us us' : Nat → Bool} {F : Nat → Nat → Nat} {a b k x c d w : Nat}
theorem ou_1 (hw : 1 ≤ w) (hw2 : w ≤ 4) (h : g c w = true) : 1 ≤ ou g c := by
  unfold ou
  have : w = 1 ∨ w = 2 ∨ w = 3 ∨ w = 4 := by omega
  rcases this with e | e | e | e <;> subst e <;> rw [h] <;> simp <;> omega
theorem ou_2 {v : Nat} (hw : 1 ≤ w) (hw2 : w ≤ 4) (hv : 1 ≤ v) (hv2 : v ≤ 4) (h : g c w = true) (h' : g c v = true) (hl : ou g c ≤ 1) : w = v := by
  unfold ou at hl
  have e1 : w = 1 ∨ w = 2 ∨ w = 3 ∨ w = 4 := by omega
  have e2 : v = 1 ∨ v = 2 ∨ v = 3 ∨ v = 4 := by omega
  rcases e1 with e | e | e | e <;> subst e <;> rcases e2 with e | e | e | e <;> subst e <;> first | rfl | (rw [h, h'] at hl; simp only [Bool.toNat_true] at hl; omega)
theorem it_1 (hc : c < 64) (hw : 1 ≤ w) (hw2 : w ≤ 4) (hn : nxc c w < 64) (h : g c w = true) : it g (nxc c w) (op w) = 1 := by
  obtain ⟨n1, n2, _⟩ := nx_op c hc w (by omega) hw hn
  unfold it
  rw [n1, n2, if_pos hc, h]; rfl
theorem ic_1 (hc : c < 64) (hw : 1 ≤ w) (hw2 : w ≤ 4) (hn : nxc c w < 64) (h : g c w = true) : 1 ≤ ic g (nxc c w) := by
  have := it_1 hc hw hw2 hn h
  obtain ⟨_, _, n3, n4⟩ := nx_op c hc w (by omega) hw hn
  unfold ic
  have e1 : op w = 1 ∨ op w = 2 ∨ op w = 3 ∨ op w = 4 := by omega
  rcases e1 with e | e | e | e <;> rw [e] at this <;> omega
theorem ic_2 {c' w' : Nat} (hc : c < 64) (hw : 1 ≤ w) (hw2 : w ≤ 4) (hn : nxc c w < 64) (h : g c w = true) (hc' : c' < 64) (hw' : 1 ≤ w') (hw2' : w' ≤ 4) (e : nxc c' w' = nxc c w) (h' : g c' w' = true) (hl : ic g (nxc c w) ≤ 1) : c' = c := by
  have i1 := it_1 hc hw hw2 hn h
  have i2 := it_1 hc' hw' hw2' (by rw [e]; exact hn) h'
  obtain ⟨n1, _, n3, n4⟩ := nx_op c hc w (by omega) hw hn
  obtain ⟨m1, _, m3, m4⟩ := nx_op c' hc' w' (by omega) hw' (by rw [e]; exact hn)
  rw [e] at i2 m1
  have eo : op w = op w' := by
    unfold ic at hl
    have e1 : op w = 1 ∨ op w = 2 ∨ op w = 3 ∨ op w = 4 := by omega
    have e2 : op w' = 1 ∨ op w' = 2 ∨ op w' = 3 ∨ op w' = 4 := by omega
    rcases e1 with e | e | e | e <;> rw [e] at i1 ⊢ <;> rcases e2 with e' | e' | e' | e' <;> rw [e'] at i2 ⊢ <;> omega
  rw [← m1, ← eo, n1]
/-- a step of either search -/
def Rs (F : Nat → Nat → Nat) (g : Nat → Nat → Bool) (us : Nat → Bool) (u v : Nat) : Prop := (∃ c, c < 64 ∧ u = 2 * c ∧ v = 2 * c + 1 ∧ us c = false) ∨ (∃ c, c < 64 ∧ u = 2 * c + 1 ∧ v = 2 * c ∧ us c = true) ∨ (∃ c w, c < 64 ∧ 1 ≤ w ∧ w ≤ 4 ∧ u = 2 * c + 1 ∧ v = 2 * nxc c w ∧ isS F c = true ∧ isS F (nxc c w) = true) ∨ (∃ c w, c < 64 ∧ 1 ≤ w ∧ w ≤ 4 ∧ u = 2 * nxc c w ∧ v = 2 * c + 1 ∧ nxc c w < 64 ∧ g c w = true)
/-- a way found: from its end back to where it begins -/
def Wy (F : Nat → Nat → Nat) (g : Nat → Nat → Bool) (us : Nat → Bool) (a b l : Nat) (ch : Nat → Nat) : Prop := ch 0 = 2 * b ∧ ch l = 2 * a + 1 ∧ (∀ i j, i < j → j ≤ l → ch i ≠ ch j) ∧ ∀ i, i < l → Rs F g us (ch (i + 1)) (ch i)
theorem wy_2b {l : Nat} {ch : Nat → Nat} (h : Wy F g us a b l ch) (hB : Bal g us a b k (2 * b)) (hab : a ≠ b) {i : Nat} (hi : i ≤ l) : ch i ≠ 2 * b + 1 := by
  obtain ⟨c0, cl, cd, cr⟩ := h
  intro e
  have il : i < l := by
    by_cases e2 : i = l
    · rw [e2, cl] at e; omega
    · omega
  have r := cr i il
  rw [e] at r
  rcases r with ⟨c, _, c2, c3, _⟩ | ⟨c, _, c2, c3, _⟩ | ⟨c, w, _, _, _, _, c5, _⟩ | ⟨c, w, c1, c2, c3, c4, c5, c6, c7⟩
  · have : c = b := by omega
    rw [this] at c2
    exact cd 0 (i + 1) (by omega) (by omega) (by rw [c0, c2])
  · omega
  · omega
  · have : c = b := by omega
    rw [this] at c7
    have := ou_1 c2 c3 c7
    have := hB.2.2.2.2.2.1
    omega
theorem wy_2a {l : Nat} {ch : Nat → Nat} (h : Wy F g us a b l ch) (hB : Bal g us a b k (2 * b)) (hab : a ≠ b) {i : Nat} (hi : i ≤ l) : ch i ≠ 2 * a := by
  obtain ⟨c0, cl, cd, cr⟩ := h
  intro e
  have i0 : 0 < i := by
    by_cases e2 : i = 0
    · rw [e2, c0] at e; omega
    · omega
  have r := cr (i - 1) (by omega)
  rw [show i - 1 + 1 = i by omega, e] at r
  rcases r with ⟨c, _, c2, c3, _⟩ | ⟨c, _, c2, c3, _⟩ | ⟨c, w, _, _, _, c4, c5, _⟩ | ⟨c, w, c1, c2, c3, c4, c5, c6, c7⟩
  · have : c = a := by omega
    rw [this] at c3
    exact cd (i - 1) l (by omega) (by omega) (by rw [cl, c3])
  · omega
  · omega
  · have ea : nxc c w = a := by omega
    have := ic_1 c1 c2 c3 c6 c7
    rw [ea] at this
    have := hB.2.2.2.2.1
    omega
theorem wy_v {l : Nat} {ch : Nat → Nat} (h : Wy F g us a b l ch) (hB : Bal g us a b k (2 * b)) (ha : a < 64) (hb : b < 64) (hab : a ≠ b) (hn : ∀ w, 1 ≤ w → w ≤ 4 → nxc a w ≠ b) {i : Nat} (hi : i < l) : Vd F g us (ch (i + 1)) (ch i) := by
  have h' := h
  obtain ⟨c0, cl, cd, cr⟩ := h
  obtain ⟨_, b2, b3, b4, b5, b6, _⟩ := id hB
  rcases cr i hi with r | r | ⟨c, w, c1, c2, c3, c4, c5, c6, c7⟩ | r
  · exact Or.inl r
  · exact Or.inr (Or.inl r)
  · refine Or.inr (Or.inr (Or.inl ⟨c, w, c1, c2, c3, c4, c5, c6, c7, ?_⟩))
    cases hg : g c w with
    | false => rfl
    | true =>
      exfalso
      have hn2 := isS_lt c7
      have o1 := ou_1 c2 c3 hg
      have i1 := ic_1 c1 c2 c3 hn2 hg
      have cb : c ≠ b := fun e => by rw [e] at o1; omega
      by_cases i0 : i = 0
      · rw [i0, c0] at c5
        have ca : c ≠ a := fun e => by
          rw [e] at c5
          exact hn w c2 c3 (by omega)
        have il : i + 1 < l := by
          by_cases e2 : i + 1 = l
          · rw [e2, cl] at c4; omega
          · omega
        have q := b4 c c1 ca cb
        rw [if_neg (by omega)] at q
        have usc : us c = true := by
          cases hu : us c with
          | true => rfl
          | false => rw [hu] at q; simp at q; omega
        have ol : ou g c ≤ 1 := by rw [q, usc]; simp
        have r := cr (i + 1) il
        rw [c4] at r
        rcases r with ⟨e, _, e2, e3, e4⟩ | ⟨e, _, e2, e3, e4⟩ | ⟨e, v, _, _, _, e4, e5, _⟩ | ⟨e, v, e1, e2, e3, e4, e5, e6, e7⟩
        · have : e = c := by omega
          rw [this, usc] at e4; exact absurd e4 (by decide)
        · omega
        · omega
        · have ec : e = c := by omega
          rw [ec] at e4 e7
          have ev : w = v := ou_2 c2 c3 e2 e3 hg e7 ol
          rw [← ev] at e4
          exact cd 0 (i + 1 + 1) (by omega) (by omega) (by rw [c0, e4, c5])
      · have da : nxc c w ≠ a := fun e => wy_2a h' hB hab (i := i) (by omega) (by rw [c5, e])
        have db : nxc c w ≠ b := fun e => cd 0 i (by omega) (by omega) (by rw [c0, c5, e])
        have q := b3 (nxc c w) hn2 da db
        rw [if_neg (by omega)] at q
        have usd : us (nxc c w) = true := by
          cases hu : us (nxc c w) with
          | true => rfl
          | false => rw [hu] at q; simp at q; omega
        have il : ic g (nxc c w) ≤ 1 := by rw [usd] at q; simp at q; omega
        have r := cr (i - 1) (by omega)
        rw [show i - 1 + 1 = i by omega, c5] at r
        rcases r with ⟨e, _, e2, e3, e4⟩ | ⟨e, _, e2, e3, e4⟩ | ⟨e, v, _, _, _, e4, e5, _⟩ | ⟨e, v, e1, e2, e3, e4, e5, e6, e7⟩
        · have : e = nxc c w := by omega
          rw [this, usd] at e4; exact absurd e4 (by decide)
        · omega
        · omega
        · have ec : e = c := ic_2 c1 c2 c3 hn2 hg e1 e2 e3 (by omega) e7 il
          rw [ec] at e5
          exact cd (i - 1) (i + 1) (by omega) (by omega) (by rw [e5, c4])
  · exact Or.inr (Or.inr (Or.inr r))
/-- while a way is laid, from its end on -/
def La (F : Nat → Nat → Nat) (g : Nat → Nat → Bool) (us : Nat → Bool) (a b k l : Nat) (ch : Nat → Nat) (i : Nat) : Prop := Bal g us a b k (ch i) ∧ FV F g ∧ ∀ j, i ≤ j → j < l → Vd F g us (ch (j + 1)) (ch j)
theorem La_0 {l : Nat} {ch : Nat → Nat} (h : Wy F g us a b l ch) (hB : Bal g us a b k (2 * b)) (hf : FV F g) (ha : a < 64) (hb : b < 64) (hab : a ≠ b) (hn : ∀ w, 1 ≤ w → w ≤ 4 → nxc a w ≠ b) : La F g us a b k l ch 0 :=
  ⟨by rw [h.1]; exact hB, hf, fun j _ hj => wy_v h hB ha hb hab hn hj⟩
theorem La_s {l i : Nat} {ch : Nat → Nat} (cd : ∀ i j, i < j → j ≤ l → ch i ≠ ch j) (c0 : ch 0 = 2 * b) (cl : ch l = 2 * a + 1) (n2a : ∀ i, i ≤ l → ch i ≠ 2 * a) (n2b : ∀ i, i ≤ l → ch i ≠ 2 * b + 1) (ha : a < 64) (hb : b < 64) (hab : a ≠ b) (h : La F g us a b k l ch i) (hi : i < l) (hT : Tn g us (ch (i + 1)) (ch i) g' us') : La F g' us' a b k l ch (i + 1) := by
  obtain ⟨h1, h2, h3⟩ := h
  have hV := h3 i (Nat.le_refl _) hi
  obtain ⟨q1, q2⟩ := Tn_B hV hT h2 h1 ha hb hab (n2a _ (by omega)) (n2a _ (by omega)) (fun e => cd 0 (i + 1) (by omega) (by omega) (by rw [c0, e])) (n2b _ (by omega)) (n2b _ (by omega)) (fun e => cd i l hi (by omega) (by rw [cl, e]))
  refine ⟨q1, q2, fun j hj hj2 => ?_⟩
  have hW := h3 j (by omega) hj2
  have d1 : ch (j + 1) ≠ ch (i + 1) := (cd (i + 1) (j + 1) (by omega) (by omega)).symm
  have d2 : ch (j + 1) ≠ ch i := (cd i (j + 1) (by omega) (by omega)).symm
  have d3 : ch j ≠ ch i := (cd i j (by omega) (by omega)).symm
  generalize ch (j + 1) = u' at *
  generalize ch j = v' at *
  generalize ch (i + 1) = u at *
  generalize ch i = v at *
  rcases hT with ⟨t1, t2, t3⟩ | ⟨t1, t2, t3 | t3⟩
  · -- through a cell
    have huv : (u = 2 * (u / 2) ∧ v = 2 * (u / 2) + 1) ∨ (u = 2 * (u / 2) + 1 ∧ v = 2 * (u / 2)) := by
      rcases hV with ⟨c, c1, c2, c3, c4⟩ | ⟨c, c1, c2, c3, c4⟩ | ⟨c, w, c1, c2, c3, c4, c5, c6, c7, c8⟩ | ⟨c, w, c1, c2, c3, c4, c5, c6, c7⟩
      · omega
      · omega
      · have := nx_n c c1 w (by omega); omega
      · have := nx_n c c1 w (by omega); omega
    subst t2
    have us_ : ∀ e, e ≠ u / 2 → us' e = us e := fun e he => by rw [t3]; unfold upB; rw [if_neg he]
    rcases hW with ⟨c, c1, c2, c3, c4⟩ | ⟨c, c1, c2, c3, c4⟩ | r | r
    · exact Or.inl ⟨c, c1, c2, c3, by rw [us_ c (by omega)]; exact c4⟩
    · exact Or.inr (Or.inl ⟨c, c1, c2, c3, by rw [us_ c (by omega)]; exact c4⟩)
    · exact Or.inr (Or.inr (Or.inl r))
    · exact Or.inr (Or.inr (Or.inr r))
  · obtain ⟨o1, w0, w1, w2, w3, w4⟩ := t3
    subst t2
    rcases hW with r | r | ⟨c, w, c1, c2, c3, c4, c5, c6, c7, c8⟩ | ⟨c, w, c1, c2, c3, c4, c5, c6, c7⟩
    · exact Or.inl r
    · exact Or.inr (Or.inl r)
    · refine Or.inr (Or.inr (Or.inl ⟨c, w, c1, c2, c3, c4, c5, c6, c7, ?_⟩))
      rw [w4, u2_a _ _ _ _ _ (by omega)]; exact c8
    · refine Or.inr (Or.inr (Or.inr ⟨c, w, c1, c2, c3, c4, c5, c6, ?_⟩))
      rw [w4]
      by_cases e : c = u / 2
      · by_cases e2 : w = w0
        · rw [e, e2, u2_s]
        · rw [u2_w _ _ _ _ _ _ e2]; exact c7
      · rw [u2_a _ _ _ _ _ e]; exact c7
  · obtain ⟨o1, w0, w1, w2, w3, w4⟩ := t3
    have hv : v = 2 * (v / 2) + 1 := by
      rcases hV with ⟨c, c1, c2, c3, c4⟩ | ⟨c, c1, c2, c3, c4⟩ | ⟨c, w, c1, c2, c3, c4, c5, c6, c7, c8⟩ | ⟨c, w, c1, c2, c3, c4, c5, c6, c7⟩
      · omega
      · omega
      · omega
      · omega
    subst t2
    rcases hW with r | r | ⟨c, w, c1, c2, c3, c4, c5, c6, c7, c8⟩ | ⟨c, w, c1, c2, c3, c4, c5, c6, c7⟩
    · exact Or.inl r
    · exact Or.inr (Or.inl r)
    · refine Or.inr (Or.inr (Or.inl ⟨c, w, c1, c2, c3, c4, c5, c6, c7, ?_⟩))
      rw [w4]
      by_cases e : c = v / 2
      · by_cases e2 : w = w0
        · rw [e, e2, u2_s]
        · rw [u2_w _ _ _ _ _ _ e2]; exact c8
      · rw [u2_a _ _ _ _ _ e]; exact c8
    · refine Or.inr (Or.inr (Or.inr ⟨c, w, c1, c2, c3, c4, c5, c6, ?_⟩))
      rw [w4, u2_a _ _ _ _ _ (by omega)]; exact c7
theorem Bal_n (h : Bal g us a b k (2 * a + 1)) (hab : a ≠ b) : Bal g us a b (k + 1) (2 * b) := by
  obtain ⟨h1, h2, h3, h4, h5, h6, h7⟩ := h
  refine ⟨h1, h2, fun c c1 c2 c3 => ?_, fun c c1 c2 c3 => ?_, h5, h6, ?_⟩
  · rw [h3 c c1 c2 c3, if_neg (by omega), if_neg (by omega)]
  · rw [h4 c c1 c2 c3, if_neg (by omega), if_neg (by omega)]
  · rw [h7, if_pos rfl, if_neg (by omega)]
theorem ou_4 : ou g c ≤ 4 := by
  unfold ou
  have h : ∀ x : Bool, x.toNat ≤ 1 := by decide
  have := h (g c 1)
  have := h (g c 2)
  have := h (g c 3)
  have := h (g c 4)
  omega
/-! how much flows out of a set of nodes -/
def smI (f : Nat → Int) : Nat → Int
  | 0 => 0
  | n + 1 => smI f n + f n
theorem smI_c {f h : Nat → Int} : ∀ n, (∀ i, i < n → f i = h i) → smI f n = smI h n
  | 0, _ => rfl
  | n + 1, e => by rw [smI, smI, smI_c n (fun i hi => e i (by omega)), e n (by omega)]
theorem smI_a (f h : Nat → Int) : ∀ n, smI (fun i => f i + h i) n = smI f n + smI h n
  | 0 => rfl
  | n + 1 => by rw [smI, smI, smI, smI_a f h n]; omega
theorem smI_s (f h : Nat → Int) : ∀ n, smI (fun i => f i - h i) n = smI f n - smI h n
  | 0 => rfl
  | n + 1 => by rw [smI, smI, smI, smI_s f h n]; omega
theorem smI_le {f h : Nat → Int} : ∀ n, (∀ i, i < n → f i ≤ h i) → smI f n ≤ smI h n
  | 0, _ => Int.le_refl _
  | n + 1, e => by
    have := smI_le n (fun i hi => e i (by omega))
    have := e n (by omega)
    rw [smI, smI]; omega
theorem smI_1 {f : Nat → Int} {a : Nat} {v : Int} : ∀ n, a < n → f a = v → (∀ i, i < n → i ≠ a → f i = 0) → smI f n = v
  | 0, h, _, _ => by omega
  | n + 1, h, e, z => by
    rw [smI]
    by_cases c : a = n
    · subst c
      have : smI f a = smI (fun _ => 0) a := smI_c a (fun i hi => z i (by omega) (by omega))
      have z0 : ∀ m, smI (fun _ => (0 : Int)) m = 0 := by
        intro m; induction m with
        | zero => rfl
        | succ m ih => rw [smI, ih]; rfl
      rw [this, z0, e]; omega
    · rw [smI_1 n (by omega) e (fun i hi h' => z i (by omega) h'), z n (by omega) (fun h' => c h'.symm)]; omega
/-- the edges into a cell are the edges out of its neighbours -/
theorem rx (P : Nat → Nat → Int) (w : Nat) (hw : 1 ≤ w) (hw2 : w ≤ 4) : smI (fun d => if nxc d w < 64 then P d (nxc d w) else 0) 64 = smI (fun c => if nxc c (op w) < 64 then P (nxc c (op w)) c else 0) 64 := by
  have e : w = 1 ∨ w = 2 ∨ w = 3 ∨ w = 4 := by omega
  rcases e with e | e | e | e <;> subst e <;> simp [smI, nxc, op]
end CU1
