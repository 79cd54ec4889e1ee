/-! what a text says, line by line, as one function of its bytes: either the first fault and its place, or the field -/
abbrev Exc (α : Type) : Type := Except (Nat × Nat) α
theorem eb_o {α β : Type} (a : α) (f : α → Exc β) : Except.bind (Except.ok a) f = f a := rfl
theorem eb_e {α β : Type} (q : Nat × Nat) (f : α → Exc β) : Except.bind (Except.error q) f = Except.error q := rfl
section PP
variable (T : Nat → Nat) (m : Nat)
def w8 (s : Nat) : Nat := p8 T s (tLn T m s)
def w5 (s : Nat) : Nat := p5 T s (tLn T m s)
def wv (s : Nat) : Nat := vv T s (tLn T m s)
def pWh (lo hi s : Nat) : Exc (Nat × Nat) := if tK T m s = 2 then (if lo ≤ wv T m s ∧ wv T m s ≤ hi then .ok (wv T m s, adv T m s) else .error (4, s)) else .error (1, s)
def pPt (n lo hi s : Nat) : Exc (Nat × Nat) := if isW T m s n then pWh T m lo hi (adv T m s) else .error (1, s)
def pCl (F : Nat → Nat → Nat) (s : Nat) : Exc (Nat × Nat) := (pWh T m 0 (F 0 4 - 1) s).bind fun a => (pWh T m 0 (F 0 5 - 1) a.2).bind fun b => if isS F (8 * b.1 + a.1) then .ok (8 * b.1 + a.1, b.2) else .error (7, a.2)
def pFl (F : Nat → Nat → Nat) (s : Nat) : Exc ((Nat → Nat → Nat) × Nat) := if 0 < F 9 0 then .error (3, s) else (pPt T m 6 1 14 (adv T m s)).bind fun a => (pPt T m 7 0 3 a.2).bind fun b => (pPt T m 8 1 9 b.2).bind fun c => (pPt T m 9 0 100 c.2).bind fun d => .ok (u2 (u2 (u2 (u2 (u2 F 9 0 1) 0 0 a.1) 0 1 b.1) 0 2 c.1) 0 3 d.1, d.2)
def slc (b : Nat) : Nat := if b = 99 then 1 else if b = 103 then 2 else if b = 114 then 3 else if b = 115 then 0 else 4
def rwF (F : Nat → Nat → Nat) (s l : Nat) : Nat → Nat → Nat := fun a c => if a = 1 ∧ 8 * F 0 5 ≤ c ∧ c < 8 * F 0 5 + l then slc (T (s + (c - 8 * F 0 5))) else F a c
def rwO (F : Nat → Nat → Nat) (s l : Nat) : Bool := decide (2 ≤ l) && (decide (F 0 5 = 0) || decide (l = F 0 4)) && !anyB (fun i => decide (slc (T (s + i)) = 4)) l
def pRw (F : Nat → Nat → Nat) (r : Bool) (s : Nat) : Exc ((Nat → Nat → Nat) × Nat) := if 8 ≤ F 0 5 then .error (5, s) else if F 9 0 = 0 then .error (6, s) else if r then .error (8, s) else if tK T m (adv T m s) = 1 then (if rwO T F (adv T m s) (tLn T m (adv T m s)) then .ok (u2 (u2 (rwF T F (adv T m s) (tLn T m (adv T m s))) 0 4 (tLn T m (adv T m s))) 0 5 (F 0 5 + 1), adv T m (adv T m s)) else .error (7, adv T m s)) else .error (1, adv T m s)
def pLB (F : Nat → Nat → Nat) (s : Nat) : Exc Nat := if F 0 5 < 2 then .error (6, s) else .ok (adv T m s)
def pWl (F : Nat → Nat → Nat) (w : Bool) (s : Nat) : Exc ((Nat → Nat → Nat) × Nat) := if w then .error (3, s) else (pLB T m F s).bind fun s1 => (pCl T m F s1).bind fun c => .ok (u2 F 0 6 c.1, c.2)
def fdi (P : Nat → Bool) (n : Nat) : Nat := rn (fun i => !P i) 0 n
def kn (F G : Nat → Nat → Nat) (s : Nat) : Bool := anyB (fun d => decide (w8 T m (G 0 d) = w8 T m s)) (F 0 7) || anyB (fun d => decide (w8 T m (G 1 d) = w8 T m s)) (F 0 8)
def pNm (F G : Nat → Nat → Nat) (s : Nat) : Exc Nat := if isN T m s then (if kn T m F G s then .error (3, s) else .ok (adv T m s)) else .error (1, s)
def nmG (F G : Nat → Nat → Nat) (a s n : Nat) : Nat → Nat → Nat := u2 (u2 (u2 (u2 G a n s) 2 (F 0 7 + F 0 8) s) 3 (F 0 7 + F 0 8) a) 4 (F 0 7 + F 0 8) n
def pDr (F G : Nat → Nat → Nat) (s : Nat) : Exc (((Nat → Nat → Nat) × (Nat → Nat → Nat)) × Nat) := if 4 ≤ F 0 7 then .error (5, s) else (pLB T m F s).bind fun s1 => (pNm T m F G s1).bind fun s2 => (pCl T m F s2).bind fun c => .ok ((u2 (u2 F 2 (F 0 7) c.1) 0 7 (F 0 7 + 1), nmG F G 0 s1 (F 0 7)), c.2)
def pSd (s : Nat) : Exc (Nat × Nat) := if isW T m s 11 then .ok (1, adv T m s) else if isW T m s 10 then .ok (0, adv T m s) else .error (1, s)
def wyl (b : Nat) : Nat := if b = 101 then 2 else if b = 110 then 1 else if b = 115 then 3 else if b = 119 then 4 else 0
def wy (s c : Nat) : Nat → Nat
  | 0 => c
  | i + 1 => nxc (wy s c i) (wyl (T (s + i)))
def wyO (F : Nat → Nat → Nat) (s c l : Nat) : Bool := !anyB (fun i => !isS F (wy T s c (i + 1))) l
def wyF (F : Nat → Nat → Nat) (s c l : Nat) : Nat → Nat → Nat := fun a k => if a = 5 ∧ F 0 8 * 9 ≤ k ∧ k ≤ F 0 8 * 9 + l then wy T s c (k - F 0 8 * 9) else F a k
def pDg (F G : Nat → Nat → Nat) (s : Nat) : Exc (((Nat → Nat → Nat) × (Nat → Nat → Nat)) × Nat) := if 4 ≤ F 0 8 then .error (5, s) else (pLB T m F s).bind fun s1 => (pNm T m F G s1).bind fun s2 => (pSd T m s2).bind fun d => (pCl T m F d.2).bind fun c => if tK T m c.2 = 1 then (if wyO T F c.2 c.1 (tLn T m c.2) then .ok ((u2 (u2 (u2 (wyF T F c.2 c.1 (tLn T m c.2)) 3 (F 0 8) d.1) 4 (F 0 8) (tLn T m c.2)) 0 8 (F 0 8 + 1), nmG F G 1 s1 (F 0 8)), adv T m c.2) else .error (7, c.2)) else .error (1, c.2)
def rpt (F : Nat → Nat → Nat) (d n : Nat) : Bool := anyB (fun k => decide (F 6 k = d) && decide (F 7 k = n)) (F 0 9)
def fdd (F G : Nat → Nat → Nat) (s : Nat) : Nat := fdi (fun d => decide (w8 T m (G 0 d) = w8 T m s)) (F 0 7)
def pDn (F G : Nat → Nat → Nat) (s : Nat) : Exc (Nat × Nat) := if isN T m s then (if fdd T m F G s < F 0 7 then .ok (fdd T m F G s, adv T m s) else .error (2, s)) else .error (1, s)
def pHd (F G : Nat → Nat → Nat) (s : Nat) : Exc ((Nat → Nat → Nat) × Nat) := if 6 ≤ F 0 9 then .error (5, s) else (pLB T m F s).bind fun s1 => (pDn T m F G s1).bind fun d => (pWh T m 0 60 d.2).bind fun n => if rpt F d.1 n.1 then .error (3, d.2) else (pWh T m 0 14 n.2).bind fun f => .ok (u2 (u2 (u2 (u2 F 6 (F 0 9) d.1) 7 (F 0 9) n.1) 8 (F 0 9) f.1) 0 9 (F 0 9 + 1), f.2)
/-- a state: where, the field so far, is the wall told, are the rows over, the names -/
abbrev Sg : Type := Nat × (Nat → Nat → Nat) × Bool × Bool × (Nat → Nat → Nat)
def pLn (σ : Sg) : Exc Sg :=
  let (s, F, w, r, G) := σ
  if isW T m s 0 then (pFl T m F s).bind fun a => .ok (a.2, a.1, w, r, G)
  else if isW T m s 1 then (pRw T m F r s).bind fun a => .ok (a.2, a.1, w, r, G)
  else if isW T m s 2 then (pWl T m F w s).bind fun a => .ok (a.2, a.1, true, true, G)
  else if isW T m s 3 then (pDr T m F G s).bind fun a => .ok (a.2, a.1.1, w, true, a.1.2)
  else if isW T m s 4 then (pDg T m F G s).bind fun a => .ok (a.2, a.1.1, w, true, a.1.2)
  else if isW T m s 5 then (pHd T m F G s).bind fun a => .ok (a.2, a.1, w, true, G)
  else .error (1, s)
def pAl : Nat → Sg → Exc Sg
  | 0, _ => .error (0, 0)
  | n + 1, σ => (pLn T m σ).bind fun τ => if tK T m τ.1 = 3 then pAl n (adv T m τ.1, τ.2) else if tK T m τ.1 = 0 then (if τ.2.2.1 then .ok τ else .error (6, τ.1)) else .error (1, τ.1)
end PP
section PQ
variable {T : Nat → Nat} {m : Nat}
theorem adv_ge (s : Nat) : s + tLn T m s ≤ adv T m s := by unfold adv tsk; omega
theorem adv_g (s : Nat) : s ≤ adv T m s := Nat.le_trans (Nat.le_add_right _ _) (adv_ge s)
/-- a reader's part goes on -/
def Mn {α : Type} (m s : Nat) (x : Exc (α × Nat)) : Prop := ∀ a t, x = .ok (a, t) → s ≤ t ∧ t ≤ m
theorem Mn_bd {α β : Type} {s : Nat} {x : Exc (α × Nat)} {f : α × Nat → Exc (β × Nat)} (h : Mn m s x) (hf : ∀ a t, s ≤ t → t ≤ m → Mn m t (f (a, t))) : Mn m s (x.bind f) := by
  intro a t e
  cases x with
  | error q => rw [eb_e] at e; exact absurd e (by simp)
  | ok v =>
    obtain ⟨v, t1⟩ := v
    rw [eb_o] at e
    have h1 := h v t1 rfl
    have h2 := hf v t1 h1.1 h1.2 a t e
    exact ⟨by omega, h2.2⟩
theorem Mn_er {α : Type} {s : Nat} (q : Nat × Nat) : Mn m s (.error q : Exc (α × Nat)) := fun a t e => absurd e (by simp)
theorem Mn_ok {α : Type} {s t : Nat} {a : α} (h : s ≤ t) (h2 : t ≤ m) : Mn m s (.ok (a, t) : Exc (α × Nat)) := fun a' t' e => by
  injection e with e; injection e with e1 e2; subst e2; exact ⟨h, h2⟩
theorem pWh_m {lo hi s : Nat} (h : s ≤ m) : Mn m s (pWh T m lo hi s) := by
  unfold pWh
  split
  · split
    · exact Mn_ok (adv_g s) (adv_le h)
    · exact Mn_er _
  · exact Mn_er _
theorem pPt_m {n lo hi s : Nat} (h : s ≤ m) : Mn m s (pPt T m n lo hi s) := by
  unfold pPt
  split
  · intro a t e
    have h1 := pWh_m (adv_le h) a t e
    have := adv_g (T := T) (m := m) s
    exact ⟨by omega, h1.2⟩
  · exact Mn_er _
theorem pCl_m {F : Nat → Nat → Nat} {s : Nat} (h : s ≤ m) : Mn m s (pCl T m F s) := by
  unfold pCl
  refine Mn_bd (pWh_m h) (fun a t h1 h2 => Mn_bd (pWh_m h2) (fun b u h3 h4 => ?_))
  simp only
  split
  · exact Mn_ok (Nat.le_refl _) h4
  · exact Mn_er _
theorem pFl_m {F : Nat → Nat → Nat} {s : Nat} (h : s ≤ m) : Mn m s (pFl T m F s) := by
  unfold pFl
  split
  · exact Mn_er _
  · have key : Mn m (adv T m s) ((pPt T m 6 1 14 (adv T m s)).bind fun a => (pPt T m 7 0 3 a.2).bind fun b => (pPt T m 8 1 9 b.2).bind fun c => (pPt T m 9 0 100 c.2).bind fun d => .ok (u2 (u2 (u2 (u2 (u2 F 9 0 1) 0 0 a.1) 0 1 b.1) 0 2 c.1) 0 3 d.1, d.2)) := by
      refine Mn_bd (pPt_m (adv_le h)) (fun a t h1 h2 => Mn_bd (pPt_m h2) (fun b u h3 h4 => Mn_bd (pPt_m h4) (fun c v h5 h6 => Mn_bd (pPt_m h6) (fun d v h7 h8 => ?_))))
      exact Mn_ok (Nat.le_refl _) h8
    intro a t e
    have h1 := key a t e
    have := adv_g (T := T) (m := m) s
    exact ⟨by omega, h1.2⟩
theorem pRw_m {F : Nat → Nat → Nat} {r : Bool} {s : Nat} (h : s ≤ m) : Mn m s (pRw T m F r s) := by
  unfold pRw
  have h1 := adv_g (T := T) (m := m) s
  have h2 := adv_g (T := T) (m := m) (adv T m s)
  have h3 := adv_le (T := T) h
  have h4 := adv_le (T := T) h3
  (repeat' split) <;> first | exact Mn_er _ | exact Mn_ok (by omega) h4
theorem pLB_m {F : Nat → Nat → Nat} {s t : Nat} (h : s ≤ m) (e : pLB T m F s = .ok t) : s ≤ t ∧ t ≤ m ∧ 2 ≤ F 0 5 ∧ t = adv T m s := by
  unfold pLB at e
  split at e
  · exact absurd e (by simp)
  · injection e with e; subst e; exact ⟨adv_g s, adv_le h, by omega, rfl⟩
theorem LB_bd {β : Type} {F : Nat → Nat → Nat} {s : Nat} {f : Nat → Exc (β × Nat)} (h : s ≤ m) (hf : ∀ t, s ≤ t → t ≤ m → Mn m t (f t)) : Mn m s ((pLB T m F s).bind f) := by
  intro a u e
  cases x : pLB T m F s with
  | error q => rw [x, eb_e] at e; exact absurd e (by simp)
  | ok t =>
    rw [x, eb_o] at e
    have := pLB_m h x
    have h2 := hf t this.1 this.2.1 a u e
    exact ⟨by omega, h2.2⟩
theorem pNm_m {F G : Nat → Nat → Nat} {s t : Nat} (h : s ≤ m) (e : pNm T m F G s = .ok t) : s ≤ t ∧ t ≤ m ∧ isN T m s = true ∧ kn T m F G s = false ∧ t = adv T m s := by
  unfold pNm at e
  by_cases c1 : isN T m s = true
  · rw [if_pos c1] at e
    by_cases c2 : kn T m F G s = true
    · rw [if_pos c2] at e; exact absurd e (by simp)
    · rw [if_neg c2] at e; injection e with e; subst e; exact ⟨adv_g s, adv_le h, c1, by simpa using c2, rfl⟩
  · rw [if_neg c1] at e; exact absurd e (by simp)
theorem Nm_bd {β : Type} {F G : Nat → Nat → Nat} {s : Nat} {f : Nat → Exc (β × Nat)} (h : s ≤ m) (hf : ∀ t, s ≤ t → t ≤ m → Mn m t (f t)) : Mn m s ((pNm T m F G s).bind f) := by
  intro a u e
  cases x : pNm T m F G s with
  | error q => rw [x, eb_e] at e; exact absurd e (by simp)
  | ok t =>
    rw [x, eb_o] at e
    have := pNm_m h x
    have h2 := hf t this.1 this.2.1 a u e
    exact ⟨by omega, h2.2⟩
theorem pWl_m {F : Nat → Nat → Nat} {w : Bool} {s : Nat} (h : s ≤ m) : Mn m s (pWl T m F w s) := by
  unfold pWl
  split
  · exact Mn_er _
  · exact LB_bd h (fun t h1 h2 => Mn_bd (pCl_m h2) (fun c u h3 h4 => Mn_ok (Nat.le_refl _) h4))
theorem pDr_m {F G : Nat → Nat → Nat} {s : Nat} (h : s ≤ m) : Mn m s (pDr T m F G s) := by
  unfold pDr
  split
  · exact Mn_er _
  · exact LB_bd h (fun t h1 h2 => Nm_bd h2 (fun u h3 h4 => Mn_bd (pCl_m h4) (fun c v h5 h6 => Mn_ok (Nat.le_refl _) h6)))
theorem pSd_m {s : Nat} (h : s ≤ m) : Mn m s (pSd T m s) := by
  unfold pSd
  (repeat' split) <;> first | exact Mn_er _ | exact Mn_ok (adv_g s) (adv_le h)
theorem pDg_m {F G : Nat → Nat → Nat} {s : Nat} (h : s ≤ m) : Mn m s (pDg T m F G s) := by
  unfold pDg
  split
  · exact Mn_er _
  · refine LB_bd h (fun t h1 h2 => Nm_bd h2 (fun u h3 h4 => Mn_bd (pSd_m h4) (fun d v h5 h6 => Mn_bd (pCl_m h6) (fun c x h7 h8 => ?_))))
    simp only
    have := adv_g (T := T) (m := m) x
    (repeat' split) <;> first | exact Mn_er _ | exact Mn_ok (adv_g x) (adv_le h8)
theorem pDn_m {F G : Nat → Nat → Nat} {s : Nat} (h : s ≤ m) : Mn m s (pDn T m F G s) := by
  unfold pDn
  (repeat' split) <;> first | exact Mn_er _ | exact Mn_ok (adv_g s) (adv_le h)
theorem pHd_m {F G : Nat → Nat → Nat} {s : Nat} (h : s ≤ m) : Mn m s (pHd T m F G s) := by
  unfold pHd
  split
  · exact Mn_er _
  · refine LB_bd h (fun t h1 h2 => Mn_bd (pDn_m h2) (fun d u h3 h4 => Mn_bd (pWh_m h4) (fun n v h5 h6 => ?_)))
    simp only
    split
    · exact Mn_er _
    · exact Mn_bd (pWh_m h6) (fun c x h7 h8 => Mn_ok (Nat.le_refl _) h8)
end PQ
