/-! the tape as both readers see it: where a token begins, of what kind it is, how long -/
def kc (b : Nat) : Nat := if 97 ≤ b ∧ b ≤ 122 then 1 else if 48 ≤ b ∧ b ≤ 57 then 2 else if b = 59 then 3 else 4
def rn (P : Nat → Bool) : Nat → Nat → Nat
  | _, 0 => 0
  | q, n + 1 => if P q then rn P (q + 1) n + 1 else 0
theorem rn_le (P : Nat → Bool) : ∀ n q, rn P q n ≤ n
  | 0, _ => Nat.le_refl _
  | n + 1, q => by
    rw [rn]; have := rn_le P n (q + 1); split <;> omega
theorem rn_t (P : Nat → Bool) : ∀ n q i, i < rn P q n → P (q + i) = true
  | 0, _, _, h => by simp [rn] at h
  | n + 1, q, i, h => by
    rw [rn] at h
    cases hp : P q
    · simp [hp] at h
    · rw [hp] at h
      cases i with
      | zero => simpa using hp
      | succ i =>
        have := rn_t P n (q + 1) i (by simp at h; omega)
        rw [show q + (i + 1) = q + 1 + i by omega]; exact this
def tk0 (T : Nat → Nat) (m s : Nat) : Nat := if s < m then kc (T s) else 0
def tLn (T : Nat → Nat) (m s : Nat) : Nat := if s < m then (if kc (T s) ≤ 2 then rn (fun i => kc (T i) == kc (T s)) (s + 1) (m - s - 1) + 1 else 1) else 0
def tK (T : Nat → Nat) (m s : Nat) : Nat := if s < m then (if (kc (T s) = 1 ∧ 8 < tLn T m s) ∨ (kc (T s) = 2 ∧ 3 < tLn T m s) then 4 else kc (T s)) else 0
def tsk (T : Nat → Nat) (m q : Nat) : Nat := q + rn (fun i => T i == 32) q (m - q)
def adv (T : Nat → Nat) (m s : Nat) : Nat := tsk T m (s + tLn T m s)
theorem kc_b (b : Nat) : 1 ≤ kc b ∧ kc b ≤ 4 := by unfold kc; (repeat' split) <;> omega
theorem tL_le {T : Nat → Nat} {m s : Nat} (h : s ≤ m) : s + tLn T m s ≤ m := by
  unfold tLn
  have := rn_le (fun i => kc (T i) == kc (T s)) (m - s - 1) (s + 1)
  (repeat' split) <;> omega
theorem tsk_le {T : Nat → Nat} {m q : Nat} (h : q ≤ m) : tsk T m q ≤ m := by
  unfold tsk
  have := rn_le (fun i => T i == 32) (m - q) q
  omega
theorem adv_le {T : Nat → Nat} {m s : Nat} (h : s ≤ m) : adv T m s ≤ m := tsk_le (tL_le h)
theorem tK_le (T : Nat → Nat) (m s : Nat) : tK T m s ≤ 4 := by
  unfold tK; have := kc_b (T s); (repeat' split) <;> omega
theorem tK_lt {T : Nat → Nat} {m s : Nat} (h : tK T m s ≠ 0) : s < m := by
  unfold tK at h; by_cases c : s < m
  · exact c
  · rw [if_neg c] at h; exact absurd rfl h
theorem tK_c {T : Nat → Nat} {m s k : Nat} (h : tK T m s = k) (h1 : k = 1 ∨ k = 2) : s < m ∧ kc (T s) = k ∧ 1 ≤ tLn T m s ∧ (k = 1 → tLn T m s ≤ 8) ∧ (k = 2 → tLn T m s ≤ 3) ∧ ∀ i, i < tLn T m s → kc (T (s + i)) = k := by
  have hs : s < m := tK_lt (T := T) (by omega)
  unfold tK at h
  rw [if_pos hs] at h
  by_cases c : (kc (T s) = 1 ∧ 8 < tLn T m s) ∨ (kc (T s) = 2 ∧ 3 < tLn T m s)
  · rw [if_pos c] at h; omega
  · rw [if_neg c] at h
    refine ⟨hs, h, ?_, by omega, by omega, ?_⟩
    · unfold tLn; rw [if_pos hs]; split <;> omega
    · intro i hi
      unfold tLn at hi
      rw [if_pos hs, if_pos (by omega)] at hi
      cases i with
      | zero => simpa using h
      | succ i =>
        have := rn_t _ _ _ i (by omega : i < rn (fun i => kc (T i) == kc (T s)) (s + 1) (m - s - 1))
        rw [show s + (i + 1) = s + 1 + i by omega]
        simp at this; omega
theorem tL_3 {T : Nat → Nat} {m s : Nat} (h : tK T m s = 3) : tLn T m s = 1 := by
  have hs : s < m := tK_lt (T := T) (by omega)
  unfold tK at h
  rw [if_pos hs] at h
  by_cases c : (kc (T s) = 1 ∧ 8 < tLn T m s) ∨ (kc (T s) = 2 ∧ 3 < tLn T m s)
  · rw [if_pos c] at h; omega
  · rw [if_neg c] at h
    unfold tLn; rw [if_pos hs, if_neg (by omega)]
theorem kc_1 {b : Nat} (h : kc b = 1) : 97 ≤ b ∧ b ≤ 122 := by
  unfold kc at h; by_cases c : 97 ≤ b ∧ b ≤ 122
  · exact c
  · rw [if_neg c] at h; revert h; (repeat' split) <;> omega
theorem kc_2 {b : Nat} (h : kc b = 2) : 48 ≤ b ∧ b ≤ 57 := by
  unfold kc at h; revert h; (repeat' split) <;> omega
/-! numbers and words out of bytes -/
def vv (T : Nat → Nat) (s : Nat) : Nat → Nat
  | 0 => 0
  | j + 1 => 10 * vv T s j + T (s + j) - 48
def p5 (T : Nat → Nat) (s : Nat) : Nat → Nat
  | 0 => 0
  | j + 1 => 32 * p5 T s j + (T (s + j) - 96)
def p8 (T : Nat → Nat) (s : Nat) : Nat → Nat
  | 0 => 0
  | j + 1 => 256 * p8 T s j + T (s + j)
theorem vv_lt {T : Nat → Nat} {s : Nat} : ∀ j, (∀ i, i < j → T (s + i) ≤ 57) → vv T s j < 10 ^ j
  | 0, _ => by simp [vv]
  | j + 1, h => by
    have := vv_lt (s := s) j (fun i hi => h i (by omega))
    have := h j (by omega)
    rw [vv, Nat.pow_succ]; omega
theorem p5_lt {T : Nat → Nat} {s : Nat} : ∀ j, (∀ i, i < j → T (s + i) ≤ 122) → p5 T s j < 32 ^ j
  | 0, _ => by simp [p5]
  | j + 1, h => by
    have := p5_lt (s := s) j (fun i hi => h i (by omega))
    have := h j (by omega)
    rw [p5, Nat.pow_succ]; omega
theorem p8_lt {T : Nat → Nat} {s : Nat} : ∀ j, (∀ i, i < j → T (s + i) ≤ 122) → p8 T s j < 256 ^ j
  | 0, _ => by simp [p8]
  | j + 1, h => by
    have := p8_lt (s := s) j (fun i hi => h i (by omega))
    have := h j (by omega)
    rw [p8, Nat.pow_succ]; omega
theorem p5_inj {T U : Nat → Nat} {s t : Nat} : ∀ j k, (∀ i, i < j → kc (T (s + i)) = 1) → (∀ i, i < k → kc (U (t + i)) = 1) → p5 T s j = p5 U t k → j = k ∧ ∀ i, i < j → T (s + i) = U (t + i)
  | 0, 0, _, _, _ => ⟨rfl, fun i hi => by omega⟩
  | 0, k + 1, _, h2, h => by
    have := kc_1 (h2 k (by omega)); rw [p5, p5] at h; omega
  | j + 1, 0, h1, _, h => by
    have := kc_1 (h1 j (by omega)); rw [p5, p5] at h; omega
  | j + 1, k + 1, h1, h2, h => by
    have a := kc_1 (h1 j (by omega))
    have b := kc_1 (h2 k (by omega))
    rw [p5, p5] at h
    obtain ⟨e1, e2⟩ := p5_inj j k (fun i hi => h1 i (by omega)) (fun i hi => h2 i (by omega)) (by omega)
    refine ⟨by omega, fun i hi => ?_⟩
    by_cases c : i = j
    · subst c; subst e1; omega
    · exact e2 i (by omega)
theorem p8_inj {T U : Nat → Nat} {s t : Nat} : ∀ j k, (∀ i, i < j → kc (T (s + i)) = 1) → (∀ i, i < k → kc (U (t + i)) = 1) → p8 T s j = p8 U t k → j = k ∧ ∀ i, i < j → T (s + i) = U (t + i)
  | 0, 0, _, _, _ => ⟨rfl, fun i hi => by omega⟩
  | 0, k + 1, _, h2, h => by
    have := kc_1 (h2 k (by omega)); rw [p8, p8] at h; omega
  | j + 1, 0, h1, _, h => by
    have := kc_1 (h1 j (by omega)); rw [p8, p8] at h; omega
  | j + 1, k + 1, h1, h2, h => by
    have a := kc_1 (h1 j (by omega))
    have b := kc_1 (h2 k (by omega))
    rw [p8, p8] at h
    obtain ⟨e1, e2⟩ := p8_inj j k (fun i hi => h1 i (by omega)) (fun i hi => h2 i (by omega)) (by omega)
    refine ⟨by omega, fun i hi => ?_⟩
    by_cases c : i = j
    · subst c; subst e1; omega
    · exact e2 i (by omega)
theorem p5_c {T U : Nat → Nat} {s t : Nat} : ∀ j, (∀ i, i < j → T (s + i) = U (t + i)) → p5 T s j = p5 U t j
  | 0, _ => rfl
  | j + 1, h => by rw [p5, p5, p5_c j (fun i hi => h i (by omega)), h j (by omega)]
theorem p8_c {T U : Nat → Nat} {s t : Nat} : ∀ j, (∀ i, i < j → T (s + i) = U (t + i)) → p8 T s j = p8 U t j
  | 0, _ => rfl
  | j + 1, h => by rw [p8, p8, p8_c j (fun i hi => h i (by omega)), h j (by omega)]
/-- the same word at two places -/
theorem p58 {T : Nat → Nat} {m s t : Nat} (h1 : tK T m s = 1) (h2 : tK T m t = 1) : p5 T s (tLn T m s) = p5 T t (tLn T m t) ↔ p8 T s (tLn T m s) = p8 T t (tLn T m t) := by
  have a := (tK_c h1 (Or.inl rfl)).2.2.2.2.2
  have b := (tK_c h2 (Or.inl rfl)).2.2.2.2.2
  constructor
  · intro e; obtain ⟨c, d⟩ := p5_inj _ _ a b e; rw [← c]; exact p8_c _ d
  · intro e; obtain ⟨c, d⟩ := p8_inj _ _ a b e; rw [← c]; exact p5_c _ d
/-- the texts: their lengths and letters -/
def tw (n i : Nat) : Nat := (((stxL.getD n "").toList.map (fun c => c.toNat)).getD i 0)
def twl (n : Nat) : Nat := stLenL.getD n 0
theorem tw_k : ∀ n, n < 12 → ∀ i, i < twl n → kc (tw n i) = 1 := by decide +kernel
theorem tw_l : ∀ n, n < 12 → 1 ≤ twl n ∧ twl n ≤ 8 := by decide +kernel
theorem tw_b : ∀ n, n < 12 → ∀ i, i < twl n → (stBytL.getD n []).getD i 0 = nI (tw n i) := by decide +kernel
/-- the token at s is the n-th text -/
def isW (T : Nat → Nat) (m s n : Nat) : Bool := decide (tK T m s = 1) && decide (tLn T m s = twl n) && decide (∀ i, i < twl n → T (s + i) = tw n i)
theorem isW_t {T : Nat → Nat} {m s n : Nat} : isW T m s n = true ↔ tK T m s = 1 ∧ tLn T m s = twl n ∧ ∀ i, i < twl n → T (s + i) = tw n i := by
  simp [isW, and_assoc]
theorem isW_5 {T : Nat → Nat} {m s n : Nat} (hn : n < 12) (h : tK T m s = 1) : isW T m s n = true ↔ p5 T s (tLn T m s) = p5 (tw n) 0 (twl n) := by
  have a := (tK_c h (Or.inl rfl)).2.2.2.2.2
  rw [isW_t]
  constructor
  · intro ⟨_, e, f⟩; rw [e]; exact p5_c _ (fun i hi => by rw [Nat.zero_add]; exact f i hi)
  · intro e
    obtain ⟨c, d⟩ := p5_inj _ _ a (fun i hi => by rw [Nat.zero_add]; exact tw_k n hn i hi) e
    exact ⟨h, c, fun i hi => by have := d i (by omega); rw [Nat.zero_add] at this; exact this⟩
def isN (T : Nat → Nat) (m s : Nat) : Bool := decide (tK T m s = 1) && !isW T m s 0 && !isW T m s 1 && !isW T m s 2 && !isW T m s 3 && !isW T m s 4 && !isW T m s 5
