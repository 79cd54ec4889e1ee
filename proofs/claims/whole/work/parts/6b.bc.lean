/-! how many bits are set -/
def dg (k : Nat) (f : Nat → Nat) : Nat → Nat
  | 0 => 0
  | n + 1 => dg k f n + 2 ^ (k * n) * f n
theorem dg_c {k : Nat} {f g : Nat → Nat} : ∀ {n : Nat}, (∀ i, i < n → f i = g i) → dg k f n = dg k g n
  | 0, _ => rfl
  | n + 1, h => by rw [dg, dg, dg_c (fun i hi => h i (by omega)), h n (by omega)]
theorem dg_add (k : Nat) (f g : Nat → Nat) : ∀ n, dg k f n + dg k g n = dg k (fun i => f i + g i) n
  | 0 => rfl
  | n + 1 => by
    rw [dg, dg, dg, ← dg_add k f g n, Nat.mul_add]; omega
theorem dg_front (k : Nat) (f : Nat → Nat) : ∀ n, dg k f (n + 1) = f 0 + 2 ^ k * dg k (fun i => f (i + 1)) n
  | 0 => by simp [dg]
  | n + 1 => by
    have e : 2 ^ (k * (n + 1)) = 2 ^ k * 2 ^ (k * n) := by
      rw [← Nat.pow_add]; congr 1; rw [Nat.mul_add, Nat.mul_one, Nat.add_comm]
    rw [dg, dg_front k f n, dg, e, Nat.mul_assoc, Nat.mul_add (2 ^ k)]; omega
theorem dg_shr {k : Nat} {f : Nat → Nat} (h0 : f 0 < 2 ^ k) {n : Nat} (hn : f n = 0) : dg k f n / 2 ^ k = dg k (fun i => f (i + 1)) n := by
  cases n with
  | zero => simp [dg]
  | succ n =>
    rw [dg_front, Nat.add_mul_div_left _ _ (Nat.pow_pos (by omega)), Nat.div_eq_of_lt h0, Nat.zero_add, dg, hn, Nat.mul_zero, Nat.add_zero]
theorem dg_lt {k : Nat} {f : Nat → Nat} (h : ∀ i, f i < 2 ^ k) : ∀ n, dg k f n < 2 ^ (k * n)
  | 0 => by simp [dg]
  | n + 1 => by
    have ih := dg_lt h n
    have e : k * (n + 1) = k * n + k := by rw [Nat.mul_add, Nat.mul_one]
    rw [dg, e, Nat.pow_add]
    have h1 : f n + 1 ≤ 2 ^ k := h n
    have h2 : 2 ^ (k * n) * (f n + 1) ≤ 2 ^ (k * n) * 2 ^ k := Nat.mul_le_mul_left _ h1
    rw [Nat.mul_add, Nat.mul_one] at h2
    omega
theorem dg_tb {k : Nat} (hk : 0 < k) {f : Nat → Nat} (h : ∀ i, f i < 2 ^ k) : ∀ n j, (dg k f n).testBit j = (decide (j < k * n) && (f (j / k)).testBit (j % k))
  | 0, j => by simp [dg]
  | n + 1, j => by
    have ih := dg_tb hk h n j
    have hl := dg_lt h n
    have e : k * (n + 1) = k * n + k := by rw [Nat.mul_add, Nat.mul_one]
    rw [dg, Nat.add_comm, Nat.testBit_two_pow_mul_add _ hl]
    by_cases c : j < k * n
    · have c2 : j < k * (n + 1) := by omega
      rw [if_pos c, ih]; simp [c, c2]
    · rw [if_neg c]
      by_cases c2 : j < k * (n + 1)
      · have d1 : j / k = n := by
          rw [Nat.div_eq_iff hk]
          constructor
          · rw [Nat.mul_comm]; omega
          · rw [Nat.mul_comm n k]; omega
        have d2 : j % k = j - k * n := by
          have := Nat.div_add_mod j k
          rw [d1] at this; omega
        simp [c2, d1, d2]
      · have : (f n).testBit (j - k * n) = false := by
          apply Nat.testBit_lt_two_pow
          have : 2 ^ k ≤ 2 ^ (j - k * n) := Nat.pow_le_pow_right (by omega) (by omega)
          have := h n
          omega
        rw [this]; simp [c2]
theorem dg_and {k : Nat} (hk : 0 < k) {f g : Nat → Nat} (hf : ∀ i, f i < 2 ^ k) (hg : ∀ i, g i < 2 ^ k) (n : Nat) : dg k f n &&& dg k g n = dg k (fun i => f i &&& g i) n := by
  have hfg : ∀ i, f i &&& g i < 2 ^ k := fun i => Nat.and_lt_two_pow _ (hg i)
  apply Nat.eq_of_testBit_eq
  intro j
  rw [Nat.testBit_and, dg_tb hk hf, dg_tb hk hg, dg_tb hk hfg, Nat.testBit_and]
  cases decide (j < k * n) <;> simp
theorem dg_two (k : Nat) (f : Nat → Nat) : ∀ n, dg k f (2 * n) = dg (2 * k) (fun i => f (2 * i) + 2 ^ k * f (2 * i + 1)) n
  | 0 => rfl
  | n + 1 => by
    have e : 2 * (n + 1) = 2 * n + 1 + 1 := by omega
    have e1 : k * (2 * n) = 2 * k * n := by rw [Nat.mul_left_comm, Nat.mul_assoc]
    have e2 : 2 ^ (k * (2 * n + 1)) = 2 ^ (2 * k * n) * 2 ^ k := by
      rw [← Nat.pow_add]; congr 1; rw [Nat.mul_add, Nat.mul_one, e1]
    rw [e, dg, dg, dg_two k f n, dg, e1, e2, Nat.mul_add (2 ^ (2 * k * n)), Nat.mul_assoc (2 ^ (2 * k * n))]; omega
def ctB (P : Nat → Bool) : Nat → Nat
  | 0 => 0
  | n + 1 => ctB P n + (P n).toNat
theorem ctB_c {P Q : Nat → Bool} : ∀ {n : Nat}, (∀ i, i < n → P i = Q i) → ctB P n = ctB Q n
  | 0, _ => rfl
  | n + 1, h => by rw [ctB, ctB, ctB_c (fun i hi => h i (by omega)), h n (by omega)]
theorem ctB_le (P : Nat → Bool) : ∀ n, ctB P n ≤ n
  | 0 => Nat.le_refl _
  | n + 1 => by
    have := ctB_le P n
    rw [ctB]; cases P n <;> simp <;> omega
/-- the steps, over numbers -/
theorem pop_ {m : Nat} (hm : m < 2 ^ 64) :
    let a1 := m - ((m / 2) &&& 6148914691236517205)
    let a2 := (a1 &&& 3689348814741910323) + ((a1 / 4) &&& 3689348814741910323)
    let a3 := (a2 + a2 / 16) &&& 1085102592571150095
    let a4 := a3 + a3 / 256
    let a5 := a4 + a4 / 65536
    let a6 := a5 + a5 / 4294967296
    ((m / 2) &&& 6148914691236517205) ≤ m ∧ a1 < 2 ^ 64 ∧ a2 < 2 ^ 64 ∧ a2 + a2 / 16 < 2 ^ 64 ∧ a3 < 2 ^ 64 ∧ a4 < 2 ^ 64 ∧ a5 < 2 ^ 64 ∧ a6 < 2 ^ 64 ∧ a6 % 128 = ctB (fun i => m.testBit i) 64 := by
  intro a1 a2 a3 a4 a5 a6
  have b1 : ∀ i, (m.testBit i).toNat < 2 ^ 1 := fun i => by cases m.testBit i <;> decide
  have bz : ∀ i, 64 ≤ i → m.testBit i = false := fun i hi => by
    apply Nat.testBit_lt_two_pow
    have : 2 ^ 64 ≤ 2 ^ i := Nat.pow_le_pow_right (by omega) hi
    omega
  have m0 : m = dg 1 (fun i => (m.testBit i).toNat) 64 := by
    apply Nat.eq_of_testBit_eq
    intro j
    rw [dg_tb (by omega) b1, Nat.div_one, Nat.mod_one]
    by_cases c : j < 64
    · have : j < 1 * 64 := by omega
      cases m.testBit j <;> simp [this]
    · rw [bz j (by omega)]
      have : ¬ j < 1 * 64 := by omega
      simp [this]
  have mm := m0
  rw [dg_two 1 _ 32] at mm
  have h1 : m / 2 = dg 1 (fun i => (m.testBit (i + 1)).toNat) 64 := by
    have := dg_shr (k := 1) (f := fun i => (m.testBit i).toNat) (b1 0) (n := 64) (by simp [bz 64 (by omega)])
    rw [← m0] at this
    simpa using this
  have M5 : 6148914691236517205 = dg 1 (fun i => if i % 2 = 0 then 1 else 0) 64 := by decide +kernel
  have h2 : (m / 2) &&& 6148914691236517205 = dg 2 (fun i => (m.testBit (2 * i + 1)).toNat) 32 := by
    rw [h1, M5, dg_and (by omega) (fun i => b1 (i + 1)) (fun i => by split <;> omega)]
    have e : (64 : Nat) = 2 * 32 := rfl
    rw [e, dg_two]
    apply dg_c
    intro i hi
    have e1 : (2 * i) % 2 = 0 := by omega
    have e2 : (2 * i + 1) % 2 = 1 := by omega
    simp only [e1, e2, if_true]
    cases m.testBit (2 * i + 1) <;> simp
  have hp : m = dg 2 (fun i => (m.testBit (2 * i)).toNat + (m.testBit (2 * i + 1)).toNat) 32 + dg 2 (fun i => (m.testBit (2 * i + 1)).toNat) 32 := by
    rw [dg_add]
    have := mm
    rw [this]
    apply dg_c
    intro i hi
    try simp only
    rw [← this]
    omega
  have A1 : a1 = dg 2 (fun i => (m.testBit (2 * i)).toNat + (m.testBit (2 * i + 1)).toNat) 32 := by
    show m - ((m / 2) &&& 6148914691236517205) = _
    rw [h2]; omega
  have p3 : ∀ i, (m.testBit (2 * i)).toNat + (m.testBit (2 * i + 1)).toNat ≤ 2 := fun i => by
    cases m.testBit (2 * i) <;> cases m.testBit (2 * i + 1) <;> decide
  have a1l : a1 < 2 ^ 64 := by
    rw [A1]; exact dg_lt (k := 2) (fun i => by have := p3 i; omega) 32
  have M3 : 3689348814741910323 = dg 2 (fun i => if i % 2 = 0 then 3 else 0) 32 := by decide +kernel
  have and3 : ∀ x : Nat, x ≤ 2 → x &&& 3 = x := by
    intro x hx
    have : ∀ x : Fin 3, x.val &&& 3 = x.val := by decide
    exact this ⟨x, by omega⟩
  have P : ∃ p : Nat → Nat, (∀ i, p i ≤ 2) ∧ (∀ i, 32 ≤ i → p i = 0) ∧ a1 = dg 2 p 32 ∧ ∀ i, p i = (m.testBit (2 * i)).toNat + (m.testBit (2 * i + 1)).toNat :=
    ⟨fun i => (m.testBit (2 * i)).toNat + (m.testBit (2 * i + 1)).toNat, p3, fun i hi => by simp [bz (2 * i) (by omega), bz (2 * i + 1) (by omega)], A1, fun i => rfl⟩
  obtain ⟨p, pl, pz, pe, pd⟩ := P
  have c1 : a1 &&& 3689348814741910323 = dg 4 (fun i => p (2 * i)) 16 := by
    rw [pe, M3, dg_and (by omega) (fun i => by have := pl i; omega) (fun i => by split <;> omega)]
    have e : (32 : Nat) = 2 * 16 := rfl
    rw [e, dg_two]
    apply dg_c
    intro i hi
    have e1 : (2 * i) % 2 = 0 := by omega
    have e2 : (2 * i + 1) % 2 = 1 := by omega
    simp [e1, e2, and3 _ (pl (2 * i))]
  have c2 : (a1 / 4) &&& 3689348814741910323 = dg 4 (fun i => p (2 * i + 1)) 16 := by
    have s := dg_shr (k := 2) (f := p) (by have := pl 0; omega) (n := 32) (pz 32 (by omega))
    rw [← pe] at s
    have : a1 / 4 = dg 2 (fun i => p (i + 1)) 32 := by simpa using s
    rw [this, M3, dg_and (by omega) (fun i => by have := pl (i + 1); omega) (fun i => by split <;> omega)]
    have e : (32 : Nat) = 2 * 16 := rfl
    rw [e, dg_two]
    apply dg_c
    intro i hi
    have e1 : (2 * i) % 2 = 0 := by omega
    have e2 : (2 * i + 1) % 2 = 1 := by omega
    simp [e1, e2, and3 _ (pl (2 * i + 1))]
  have Q : ∃ q : Nat → Nat, (∀ i, q i ≤ 4) ∧ (∀ i, 16 ≤ i → q i = 0) ∧ a2 = dg 4 q 16 ∧ ∀ i, q i = p (2 * i) + p (2 * i + 1) :=
    ⟨fun i => p (2 * i) + p (2 * i + 1), fun i => by have := pl (2 * i); have := pl (2 * i + 1); dsimp only; omega, fun i hi => by simp [pz (2 * i) (by omega), pz (2 * i + 1) (by omega)], by
      show (a1 &&& 3689348814741910323) + ((a1 / 4) &&& 3689348814741910323) = _
      rw [c1, c2, dg_add], fun i => rfl⟩
  obtain ⟨q, ql, qz, qe, qd⟩ := Q
  have a2l : a2 < 2 ^ 64 := by
    rw [qe]; exact dg_lt (k := 4) (fun i => by have := ql i; omega) 16
  have c3 : a2 + a2 / 16 = dg 4 (fun i => q i + q (i + 1)) 16 := by
    have s := dg_shr (k := 4) (f := q) (by have := ql 0; omega) (n := 16) (qz 16 (by omega))
    rw [← qe] at s
    have s' : a2 / 16 = dg 4 (fun i => q (i + 1)) 16 := by simpa using s
    rw [s', ← dg_add, ← qe]
  have a3l' : a2 + a2 / 16 < 2 ^ 64 := by
    rw [c3]; exact dg_lt (k := 4) (fun i => by have := ql i; have := ql (i + 1); omega) 16
  have M0 : 1085102592571150095 = dg 4 (fun i => if i % 2 = 0 then 15 else 0) 16 := by decide +kernel
  have and15 : ∀ x : Nat, x ≤ 8 → x &&& 15 = x := by
    intro x hx
    have : ∀ x : Fin 9, x.val &&& 15 = x.val := by decide
    exact this ⟨x, by omega⟩
  have R : ∃ r : Nat → Nat, (∀ i, r i ≤ 8) ∧ (∀ i, 8 ≤ i → r i = 0) ∧ a3 = dg 8 r 8 ∧ ∀ i, r i = q (2 * i) + q (2 * i + 1) :=
    ⟨fun i => q (2 * i) + q (2 * i + 1), fun i => by have := ql (2 * i); have := ql (2 * i + 1); dsimp only; omega, fun i hi => by simp [qz (2 * i) (by omega), qz (2 * i + 1) (by omega)], by
      show (a2 + a2 / 16) &&& 1085102592571150095 = _
      rw [c3, M0, dg_and (by omega) (fun i => by have := ql i; have := ql (i + 1); omega) (fun i => by split <;> omega)]
      have e : (16 : Nat) = 2 * 8 := rfl
      rw [e, dg_two]
      apply dg_c
      intro i hi
      have e1 : (2 * i) % 2 = 0 := by omega
      have e2 : (2 * i + 1) % 2 = 1 := by omega
      have l := ql (2 * i)
      have l2 := ql (2 * i + 1)
      simp [e1, e2, and15 _ (show q (2 * i) + q (2 * i + 1) ≤ 8 by omega)], fun i => rfl⟩
  obtain ⟨r, rl, rz, re, rd⟩ := R
  have a3l : a3 < 2 ^ 64 := by
    rw [re]; exact dg_lt (k := 8) (fun i => by have := rl i; omega) 8
  have S : ∃ s : Nat → Nat, (∀ i, s i ≤ 16) ∧ (∀ i, 8 ≤ i → s i = 0) ∧ a4 = dg 8 s 8 ∧ ∀ i, s i = r i + r (i + 1) :=
    ⟨fun i => r i + r (i + 1), fun i => by have := rl i; have := rl (i + 1); dsimp only; omega, fun i hi => by simp [rz i (by omega), rz (i + 1) (by omega)], by
      show a3 + a3 / 256 = _
      have s := dg_shr (k := 8) (f := r) (by have := rl 0; omega) (n := 8) (rz 8 (by omega))
      rw [← re] at s
      have s' : a3 / 256 = dg 8 (fun i => r (i + 1)) 8 := by simpa using s
      rw [s', ← dg_add, ← re], fun i => rfl⟩
  obtain ⟨s, sl, sz, se, sd⟩ := S
  have a4l : a4 < 2 ^ 64 := by
    rw [se]; exact dg_lt (k := 8) (fun i => by have := sl i; omega) 8
  have sh2 : ∀ g : Nat → Nat, (∀ i, g i < 2 ^ 8) → (∀ i, 8 ≤ i → g i = 0) → dg 8 g 8 / 65536 = dg 8 (fun i => g (i + 2)) 8 := by
    intro g hg hz
    have e : (65536 : Nat) = 2 ^ 8 * 2 ^ 8 := by decide
    rw [e, ← Nat.div_div_eq_div_mul, dg_shr (hg 0) (hz 8 (by omega)), dg_shr (f := fun i => g (i + 1)) (hg 1) (hz 9 (by omega))]
  have T : ∃ t : Nat → Nat, (∀ i, t i ≤ 32) ∧ (∀ i, 8 ≤ i → t i = 0) ∧ a5 = dg 8 t 8 ∧ ∀ i, t i = s i + s (i + 2) :=
    ⟨fun i => s i + s (i + 2), fun i => by have := sl i; have := sl (i + 2); dsimp only; omega, fun i hi => by simp [sz i (by omega), sz (i + 2) (by omega)], by
      show a4 + a4 / 65536 = _
      rw [se, sh2 s (fun i => by have := sl i; omega) sz, dg_add], fun i => rfl⟩
  obtain ⟨t, tl, tz, te, td⟩ := T
  have a5l : a5 < 2 ^ 64 := by
    rw [te]; exact dg_lt (k := 8) (fun i => by have := tl i; omega) 8
  have U : a6 = dg 8 (fun i => t i + t (i + 4)) 8 := by
    show a5 + a5 / 4294967296 = _
    have e : (4294967296 : Nat) = 65536 * 65536 := by decide
    rw [te, e, ← Nat.div_div_eq_div_mul, sh2 t (fun i => by have := tl i; omega) tz, sh2 (fun i => t (i + 2)) (fun i => by have := tl (i + 2); omega) (fun i hi => tz (i + 2) (by omega)), dg_add]
  have a6l : a6 < 2 ^ 64 := by
    rw [U]; exact dg_lt (k := 8) (fun i => by have := tl i; have := tl (i + 4); omega) 8
  refine ⟨?_, a1l, a2l, a3l', a3l, a4l, a5l, a6l, ?_⟩
  · rw [h2]; omega
  · rw [U]
    have e : dg 8 (fun i => t i + t (i + 4)) 8 = dg 8 (fun i => t i + t (i + 4)) (7 + 1) := rfl
    rw [e, dg_front]
    have z1 := tl 0
    have z2 := tl 4
    have : (t 0 + t 4 + 2 ^ 8 * dg 8 (fun i => t (i + 1) + t (i + 1 + 4)) 7) % 128 = t 0 + t 4 := by omega
    show (t 0 + t (0 + 4) + 2 ^ 8 * dg 8 (fun i => t (i + 1) + t (i + 1 + 4)) 7) % 128 = _
    rw [Nat.zero_add, this]
    simp only [td, sd, rd, qd, pd, ctB]
    simp only [Nat.reduceMul, Nat.reduceAdd]
    omega
section BC
variable {z : Nat} {E : aEt} {n : Nat} {K N : Nat → Nat} {R : Nat → Nat → Option Nat} {I : Nat → Nat → Int32} {J : Nat → Nat → Int64} {lx : List Value → aH → aO}
theorem lN_tn {a : Nat} (h : a < 2 ^ 64) : (lN a).toBitVec.toNat = a := by
  show (BitVec.ofNat 64 a).toNat = a
  rw [BitVec.toNat_ofNat, Nat.mod_eq_of_lt h]
theorem lN_of (x : Int64) : x = lN x.toBitVec.toNat := by
  rw [← Int64.toBitVec_inj]
  apply BitVec.eq_of_toNat_eq
  rw [lN_tn x.toBitVec.isLt]
theorem lN_sh {a k : Nat} (h : a < 2 ^ 64) (hk : k < 64) : ((lN a).toUInt64 >>> ((nI k).toInt64.toUInt64 &&& Int64.toUInt64 63)).toInt64 = lN (a / 2 ^ k) := by
  have s : ∀ c : Fin 64, ((nI c.val).toInt64.toUInt64 &&& Int64.toUInt64 63).toNat = c.val := by decide +kernel
  rw [← Int64.toBitVec_inj]
  apply BitVec.eq_of_toNat_eq
  have e : a / 2 ^ k < 2 ^ 64 := Nat.lt_of_le_of_lt (Nat.div_le_self _ _) h
  rw [lN_tn e]
  show ((lN a).toUInt64 >>> ((nI k).toInt64.toUInt64 &&& Int64.toUInt64 63)).toNat = _
  rw [UInt64.toNat_shiftRight, s ⟨k, hk⟩, Nat.mod_eq_of_lt hk, Nat.shiftRight_eq_div_pow]
  congr 1
  exact lN_tn h
theorem lN_an {a b : Nat} (ha : a < 2 ^ 64) (hb : b < 2 ^ 64) : lN a &&& lN b = lN (a &&& b) := by
  rw [← Int64.toBitVec_inj, Int64.toBitVec_and]
  apply BitVec.eq_of_toNat_eq
  rw [BitVec.toNat_and, lN_tn ha, lN_tn hb, lN_tn (Nat.and_lt_two_pow _ hb)]
theorem s_314 (x : Int64) (S : aH) : Ca lx 314 [.long x] S = some (some (.int (nI (ctB (hb x) 64))), S) := by
  rw [f_314]
  have hx := lN_of x
  have hm := x.toBitVec.isLt
  have hh : hb x = fun i => x.toBitVec.toNat.testBit i := rfl
  rw [hh]
  obtain ⟨m, em⟩ : ∃ m, m = x.toBitVec.toNat := ⟨_, rfl⟩
  rw [← em] at hx hm ⊢
  rw [hx]
  have k5 : (6148914691236517205 : Int64) = lN 6148914691236517205 := rfl
  have k3 : (3689348814741910323 : Int64) = lN 3689348814741910323 := rfl
  have kf : (1085102592571150095 : Int64) = lN 1085102592571150095 := rfl
  have i1 : (1 : Int32) = nI 1 := rfl
  have i2 : (2 : Int32) = nI 2 := rfl
  have i4 : (4 : Int32) = nI 4 := rfl
  have i8 : (8 : Int32) = nI 8 := rfl
  have i16 : (16 : Int32) = nI 16 := rfl
  have i32 : (32 : Int32) = nI 32 := rfl
  obtain ⟨g0, g1, g2, g3', g3, g4, g5, g6, gg⟩ := pop_ hm
  have n5 : (6148914691236517205 : Nat) < 2 ^ 64 := by decide
  have n3 : (3689348814741910323 : Nat) < 2 ^ 64 := by decide
  have nf : (1085102592571150095 : Nat) < 2 ^ 64 := by decide
  have d1 : m / 2 ^ 1 < 2 ^ 64 := Nat.lt_of_le_of_lt (Nat.div_le_self _ _) hm
  rw [k5, k3, kf, i1, i2, i4, i8, i16, i32]
  rw [lN_sh hm (by omega), lN_an d1 n5, lN_sub g0]
  generalize ea1 : m - (m / 2 ^ 1 &&& 6148914691236517205) = a1 at *
  have ea1' : m - (m / 2 &&& 6148914691236517205) = a1 := ea1
  try rw [ea1'] at g1 g2 g3' g3 g4 g5 g6 gg
  have d2 : a1 / 2 ^ 2 < 2 ^ 64 := Nat.lt_of_le_of_lt (Nat.div_le_self _ _) g1
  rw [lN_sh g1 (by omega), lN_an g1 n3, lN_an d2 n3, lN_add]
  generalize ea2 : (a1 &&& 3689348814741910323) + (a1 / 2 ^ 2 &&& 3689348814741910323) = a2 at *
  have ea2' : (a1 &&& 3689348814741910323) + (a1 / 4 &&& 3689348814741910323) = a2 := ea2
  try rw [ea2'] at g2 g3' g3 g4 g5 g6 gg
  rw [lN_sh g2 (by omega), lN_add, lN_an g3' nf]
  generalize ea3 : (a2 + a2 / 2 ^ 4) &&& 1085102592571150095 = a3 at *
  have ea3' : (a2 + a2 / 16) &&& 1085102592571150095 = a3 := ea3
  try rw [ea3'] at g3 g4 g5 g6 gg
  rw [lN_sh g3 (by omega), lN_add]
  generalize ea4 : a3 + a3 / 2 ^ 8 = a4 at *
  have ea4' : a3 + a3 / 256 = a4 := ea4
  try rw [ea4'] at g4 g5 g6 gg
  rw [lN_sh g4 (by omega), lN_add]
  generalize ea5 : a4 + a4 / 2 ^ 16 = a5 at *
  have ea5' : a4 + a4 / 65536 = a5 := ea5
  try rw [ea5'] at g5 g6 gg
  rw [lN_sh g5 (by omega), lN_add]
  generalize ea6 : a5 + a5 / 2 ^ 32 = a6 at *
  have ea6' : a5 + a5 / 4294967296 = a6 := ea6
  try rw [ea6'] at g6 gg
  rw [lN_i]
  have w : nI a6 = nI (a6 % 2 ^ 32) := by
    rw [← Int32.toBitVec_inj]
    apply BitVec.eq_of_toNat_eq
    show (BitVec.ofNat 32 a6).toNat = (BitVec.ofNat 32 (a6 % 2 ^ 32)).toNat
    rw [BitVec.toNat_ofNat, BitVec.toNat_ofNat, Nat.mod_mod]
  rw [w, pk_andN (Nat.mod_lt _ (by decide)) 7 (by decide)]
  have : a6 % 2 ^ 32 % 2 ^ 7 = a6 % 128 := by omega
  rw [this, gg]
end BC
