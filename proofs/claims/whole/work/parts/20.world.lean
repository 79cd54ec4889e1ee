/-! the worlds of the abstract machine, as the kit's -/
def fv_ (S : aH) (a t j : Nat) : Value := match t with
  | 1 => .long (aJ S a j)
  | 2 => va_rf (aR S a j)
  | _ => .int (aI S a j)
def fl_ (S : aH) (a : Nat) : List Nat → Nat → List Value
  | [], _ => []
  | t :: r, j => fv_ S a t j :: fl_ S a r (j + 1)
def pF (cy : Nat → ClassId) (S : aH) (a : Nat) : va_E :=
  if aK S a < 12 then .inr (aK S a, fl_ S a (fT (aK S a)) 0)
  else if aK S a = 14 then .inl (cy 14, aN S a, .inr (.inl (aJ S a)))
  else if aK S a = 16 then .inl (cy 16, aN S a, .inr (.inr (.inr (.inr (aR S a)))))
  else .inl (cy (aK S a), aN S a, .inl (aI S a))
def tysA (cy : Nat → ClassId) : List (ClassId × FieldType) := [(cy 12, .byte), (cy 13, .int), (cy 14, .long), (cy 15, .boolean), (cy 16, .object RX9)]
def Wd (D : va_G) (cy : Nat → ClassId) (A : Nat → Prop) (S : aH) (H : Heap) : Prop := ∃ L : List Nat, (∀ a, a ∈ L ↔ aK S a < 17) ∧ va_P D vwCl (va_pl L (pF cy S)) H ∧ va_D A (va_pl L (pF cy S)) ∧ H.size = aZ S
theorem fl_get (S : aH) (a : Nat) : ∀ (ts : List Nat) (j k t : Nat), ts[k]? = some t → (fl_ S a ts j)[k]? = some (fv_ S a t (j + k))
  | [], _, _, _, h => by simp at h
  | x :: r, j, 0, t, h => by simp at h; subst h; simp [fl_]
  | x :: r, j, k + 1, t, h => by
    have := fl_get S a r (j + 1) k t (by simpa using h)
    simp only [fl_, List.getElem?_cons_succ, this]
    rw [show j + 1 + k = j + (k + 1) by omega]
theorem fl_len (S : aH) (a : Nat) : ∀ (ts : List Nat) (j : Nat), (fl_ S a ts j).length = ts.length
  | [], _ => rfl
  | _ :: r, j => by simp [fl_, fl_len S a r (j + 1)]
theorem fl_set {S S' : aH} {a : Nat} {v : Value} : ∀ (ts : List Nat) (j k : Nat), (∀ i t, ts[i]? = some t → i ≠ k → fv_ S' a t (j + i) = fv_ S a t (j + i)) → (∀ t, ts[k]? = some t → fv_ S' a t (j + k) = v) → (fl_ S a ts j).set k v = fl_ S' a ts j
  | [], _, _, _, _ => by simp [fl_]
  | x :: r, j, 0, h, h2 => by
    have e : fl_ S a r (j + 1) = fl_ S' a r (j + 1) := by
      apply List.ext_getElem?
      intro i
      by_cases hi : i < r.length
      · have hr : r[i]? = some r[i] := List.getElem?_eq_getElem hi
        rw [fl_get S a r (j + 1) i _ hr, fl_get S' a r (j + 1) i _ hr]
        have := h (i + 1) r[i] (by simpa using hr) (by omega)
        rw [show j + 1 + i = j + (i + 1) by omega, this]
      · rw [List.getElem?_eq_none (by rw [fl_len]; omega), List.getElem?_eq_none (by rw [fl_len]; omega)]
    simp only [fl_, List.set_cons_zero, e]
    rw [← h2 x (by simp)]; rfl
  | x :: r, j, k + 1, h, h2 => by
    have e := fl_set (S := S) (S' := S') (a := a) (v := v) r (j + 1) k (fun i t ht hi => by
      have := h (i + 1) t (by simpa using ht) (by omega)
      rw [show j + 1 + i = j + (i + 1) by omega]; exact this) (fun t ht => by
      have := h2 t (by simpa using ht)
      rw [show j + 1 + k = j + (k + 1) by omega]; exact this)
    simp only [fl_, List.set_cons_succ, e]
    have := h 0 x (by simp) (by omega)
    rw [show j + 0 = j by omega] at this
    rw [this]
theorem pF_obj {cy : Nat → ClassId} {S : aH} {a u : Nat} (h : aK S a = u) (hu : u < 12) : pF cy S a = .inr (u, fl_ S a (fT u) 0) := by
  unfold pF; rw [h, if_pos hu]
theorem pF_I {cy : Nat → ClassId} {S : aH} {a u : Nat} (h : aK S a = u) (hu : u = 12 ∨ u = 13 ∨ u = 15) : pF cy S a = .inl (cy u, aN S a, .inl (aI S a)) := by
  unfold pF; rcases hu with rfl | rfl | rfl <;> rw [h] <;> rfl
theorem pF_J {cy : Nat → ClassId} {S : aH} {a : Nat} (h : aK S a = 14) : pF cy S a = .inl (cy 14, aN S a, .inr (.inl (aJ S a))) := by
  unfold pF; rw [h]; rfl
theorem pF_R {cy : Nat → ClassId} {S : aH} {a : Nat} (h : aK S a = 16) : pF cy S a = .inl (cy 16, aN S a, .inr (.inr (.inr (.inr (aR S a))))) := by
  unfold pF; rw [h]; rfl
theorem fl_same {S S' : aH} {a : Nat} (hI : aI S' a = aI S a) (hJ : aJ S' a = aJ S a) (hR : aR S' a = aR S a) : ∀ (ts : List Nat) (j : Nat), fl_ S' a ts j = fl_ S a ts j
  | [], _ => rfl
  | t :: r, j => by
    simp only [fl_, fl_same hI hJ hR r (j + 1)]
    unfold fv_; rw [hI, hJ, hR]
theorem pF_same {cy : Nat → ClassId} {S S' : aH} {b : Nat} (hK : aK S' b = aK S b) (hN : aN S' b = aN S b) (hI : aI S' b = aI S b) (hJ : aJ S' b = aJ S b) (hR : aR S' b = aR S b) : pF cy S' b = pF cy S b := by
  unfold pF; rw [hK, hN, hI, hJ, hR, fl_same hI hJ hR]
-- what a write changes
theorem wI_K (S : aH) (a k : Nat) (v : Int32) : aK (wI S a k v) = aK S := rfl
theorem wI_N (S : aH) (a k : Nat) (v : Int32) : aN (wI S a k v) = aN S := rfl
theorem wI_J (S : aH) (a k : Nat) (v : Int32) : aJ (wI S a k v) = aJ S := rfl
theorem wI_R (S : aH) (a k : Nat) (v : Int32) : aR (wI S a k v) = aR S := rfl
theorem wI_Z (S : aH) (a k : Nat) (v : Int32) : aZ (wI S a k v) = aZ S := rfl
theorem wI_G (S : aH) (a k : Nat) (v : Int32) : aG (wI S a k v) = aG S := rfl
theorem wI_I (S : aH) (a k : Nat) (v : Int32) (b j : Nat) : aI (wI S a k v) b j = if b = a then (if j = k then v else aI S b j) else aI S b j := rfl
theorem wJ_K (S : aH) (a k : Nat) (v : Int64) : aK (wJ S a k v) = aK S := rfl
theorem wJ_N (S : aH) (a k : Nat) (v : Int64) : aN (wJ S a k v) = aN S := rfl
theorem wJ_I (S : aH) (a k : Nat) (v : Int64) : aI (wJ S a k v) = aI S := rfl
theorem wJ_R (S : aH) (a k : Nat) (v : Int64) : aR (wJ S a k v) = aR S := rfl
theorem wJ_Z (S : aH) (a k : Nat) (v : Int64) : aZ (wJ S a k v) = aZ S := rfl
theorem wJ_G (S : aH) (a k : Nat) (v : Int64) : aG (wJ S a k v) = aG S := rfl
theorem wJ_J (S : aH) (a k : Nat) (v : Int64) (b j : Nat) : aJ (wJ S a k v) b j = if b = a then (if j = k then v else aJ S b j) else aJ S b j := rfl
theorem wR_K (S : aH) (a k : Nat) (v : Option Nat) : aK (wR S a k v) = aK S := rfl
theorem wR_N (S : aH) (a k : Nat) (v : Option Nat) : aN (wR S a k v) = aN S := rfl
theorem wR_I (S : aH) (a k : Nat) (v : Option Nat) : aI (wR S a k v) = aI S := rfl
theorem wR_J (S : aH) (a k : Nat) (v : Option Nat) : aJ (wR S a k v) = aJ S := rfl
theorem wR_Z (S : aH) (a k : Nat) (v : Option Nat) : aZ (wR S a k v) = aZ S := rfl
theorem wR_G (S : aH) (a k : Nat) (v : Option Nat) : aG (wR S a k v) = aG S := rfl
theorem wR_R (S : aH) (a k : Nat) (v : Option Nat) (b j : Nat) : aR (wR S a k v) b j = if b = a then (if j = k then v else aR S b j) else aR S b j := rfl
theorem pF_wI {cy : Nat → ClassId} {S : aH} {a u k ty : Nat} {x : Int32} (h : aK S a = u) (hu : u < 12) (hty : (fT u)[k]? = some ty) (h0 : ty ≠ 1) (h2 : ty ≠ 2) (b : Nat) : va_up (pF cy S) a (.inr (u, (fl_ S a (fT u) 0).set k (.int x))) b = pF cy (wI S a k x) b := by
  by_cases hb : b = a
  · subst hb
    rw [va_up_self, pF_obj (S := wI S b k x) (u := u) h hu]
    congr 2
    refine fl_set (fT u) 0 k (fun i t ht hi => ?_) (fun t ht => ?_)
    · unfold fv_; rw [wI_J, wI_R, wI_I, if_pos rfl, if_neg (by omega)]
    · rw [hty] at ht; cases ht
      unfold fv_
      split
      · contradiction
      · contradiction
      · rw [wI_I, if_pos rfl, if_pos (by omega)]
  · rw [va_up_ne _ _ hb]
    refine (pF_same (S := S) (S' := wI S a k x) rfl rfl ?_ rfl rfl).symm
    funext j; rw [wI_I, if_neg hb]
theorem pF_wJ {cy : Nat → ClassId} {S : aH} {a u k : Nat} {x : Int64} (h : aK S a = u) (hu : u < 12) (hty : (fT u)[k]? = some 1) (b : Nat) : va_up (pF cy S) a (.inr (u, (fl_ S a (fT u) 0).set k (.long x))) b = pF cy (wJ S a k x) b := by
  by_cases hb : b = a
  · subst hb
    rw [va_up_self, pF_obj (S := wJ S b k x) (u := u) h hu]
    congr 2
    refine fl_set (fT u) 0 k (fun i t ht hi => ?_) (fun t ht => ?_)
    · unfold fv_; rw [wJ_I, wJ_R, wJ_J, if_pos rfl, if_neg (by omega)]
    · rw [hty] at ht; cases ht
      show Value.long _ = _
      rw [wJ_J, if_pos rfl, if_pos (by omega)]
  · rw [va_up_ne _ _ hb]
    refine (pF_same (S := S) (S' := wJ S a k x) rfl rfl rfl ?_ rfl).symm
    funext j; rw [wJ_J, if_neg hb]
theorem pF_wR {cy : Nat → ClassId} {S : aH} {a u k x : Nat} (h : aK S a = u) (hu : u < 12) (hty : (fT u)[k]? = some 2) (b : Nat) : va_up (pF cy S) a (.inr (u, (fl_ S a (fT u) 0).set k (.ref x))) b = pF cy (wR S a k (some x)) b := by
  by_cases hb : b = a
  · subst hb
    rw [va_up_self, pF_obj (S := wR S b k (some x)) (u := u) h hu]
    congr 2
    refine fl_set (fT u) 0 k (fun i t ht hi => ?_) (fun t ht => ?_)
    · unfold fv_; rw [wR_I, wR_J, wR_R, if_pos rfl, if_neg (by omega)]
    · rw [hty] at ht; cases ht
      show va_rf _ = _
      rw [wR_R, if_pos rfl, if_pos (by omega)]; rfl
  · rw [va_up_ne _ _ hb]
    refine (pF_same (S := S) (S' := wR S a k (some x)) rfl rfl rfl rfl ?_).symm
    funext j; rw [wR_R, if_neg hb]
theorem pF_aI {cy : Nat → ClassId} {S : aH} {a u k : Nat} {x : Int32} (h : aK S a = u) (hu : u = 12 ∨ u = 13 ∨ u = 15) (b : Nat) : va_up (pF cy S) a (.inl (cy u, aN S a, .inl (upd (aI S a) k x))) b = pF cy (wI S a k x) b := by
  by_cases hb : b = a
  · subst hb
    rw [va_up_self, pF_I (S := wI S b k x) (u := u) h hu]
    have e : aI (wI S b k x) b = upd (aI S b) k x := by
      funext j; rw [wI_I, if_pos rfl]; rfl
    rw [e]; rfl
  · rw [va_up_ne _ _ hb]
    refine (pF_same (S := S) (S' := wI S a k x) rfl rfl ?_ rfl rfl).symm
    funext j; rw [wI_I, if_neg hb]
theorem pF_aJ {cy : Nat → ClassId} {S : aH} {a k : Nat} {x : Int64} (h : aK S a = 14) (b : Nat) : va_up (pF cy S) a (.inl (cy 14, aN S a, .inr (.inl (vp_updL (aJ S a) k x)))) b = pF cy (wJ S a k x) b := by
  by_cases hb : b = a
  · subst hb
    rw [va_up_self, pF_J (S := wJ S b k x) h]
    have e : aJ (wJ S b k x) b = vp_updL (aJ S b) k x := by
      funext j; rw [wJ_J, if_pos rfl]; rfl
    rw [e]; rfl
  · rw [va_up_ne _ _ hb]
    refine (pF_same (S := S) (S' := wJ S a k x) rfl rfl rfl ?_ rfl).symm
    funext j; rw [wJ_J, if_neg hb]
theorem pF_aR {cy : Nat → ClassId} {S : aH} {a k x : Nat} (h : aK S a = 16) (b : Nat) : va_up (pF cy S) a (.inl (cy 16, aN S a, .inr (.inr (.inr (.inr (va_up (aR S a) k (some x))))))) b = pF cy (wR S a k (some x)) b := by
  by_cases hb : b = a
  · subst hb
    rw [va_up_self, pF_R (S := wR S b k (some x)) h]
    have e : aR (wR S b k (some x)) b = va_up (aR S b) k (some x) := by
      funext j; rw [wR_R, if_pos rfl]; rfl
    rw [e]; rfl
  · rw [va_up_ne _ _ hb]
    refine (pF_same (S := S) (S' := wR S a k (some x)) rfl rfl rfl rfl ?_).symm
    funext j; rw [wR_R, if_neg hb]
theorem Wd.weaken {D : va_G} {cy : Nat → ClassId} {A B : Nat → Prop} {S : aH} {H : Heap} (h : Wd D cy A S H) (hAB : ∀ q, A q → B q) : Wd D cy B S H := by
  obtain ⟨L, h1, h2, h3, h4⟩ := h
  exact ⟨L, h1, h2, h3.weaken (fun _ q _ => hAB q.1), h4⟩
theorem Wd.at {D : va_G} {cy : Nat → ClassId} {A : Nat → Prop} {S : aH} {H : Heap} {L : List Nat} (h1 : ∀ a, a ∈ L ↔ aK S a < 17) {a : Nat} (ha : aK S a < 17) : ∃ k : Nat, (va_pl L (pF cy S))[k]? = some (a, pF cy S a) := va_pl_get (X := []) ((h1 a).mpr ha)
/-- behind a write -/
theorem Wd.put {D : va_G} {cy : Nat → ClassId} {A : Nat → Prop} {S S' : aH} {H H1 : Heap} {L : List Nat} (h1 : ∀ a, a ∈ L ↔ aK S a < 17) (hD0 : va_D A (va_pl L (pF cy S))) (hz : H.size = aZ S) {a k : Nat} {e : va_E} (ha : aK S a < 17) (hk : (va_pl L (pF cy S))[k]? = some (a, pF cy S a)) (he : ∀ b, va_up (pF cy S) a e b = pF cy S' b) (hK : aK S' = aK S) (hZ : aZ S' = aZ S)
    (hP : va_P D vwCl ((va_pl L (pF cy S)).set k (a, e)) H1) (hD : va_D A ((va_pl L (pF cy S)).set k (a, e))) (hs : H1.size = H.size) : Wd D cy A S' H1 := by
  have e1 : (va_pl L (pF cy S)).set k (a, e) = va_pl L (pF cy S') := (va_pl_set (X := []) hD0 ((h1 a).mpr ha) hk).trans (va_pl_congr he)
  rw [e1] at hP hD
  exact ⟨L, fun b => by rw [hK]; exact h1 b, hP, hD, by rw [hs, hz, hZ]⟩
