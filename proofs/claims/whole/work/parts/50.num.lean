/-! numbers, as natural numbers -/
def mI (n : Nat) : Int32 := -nI n
def bI (b : Bool) : Int32 := nI b.toNat
def oI (x : Nat) : Int32 := if x < 64 then nI x else mI 1
theorem lits : (0 : Int32) = nI 0 ∧ (1 : Int32) = nI 1 ∧ (2 : Int32) = nI 2 ∧ (3 : Int32) = nI 3 ∧ (4 : Int32) = nI 4 ∧ (5 : Int32) = nI 5 ∧ (6 : Int32) = nI 6 ∧ (7 : Int32) = nI 7 ∧ (8 : Int32) = nI 8 ∧ (9 : Int32) = nI 9 ∧ (10 : Int32) = nI 10 ∧ (11 : Int32) = nI 11 ∧ (12 : Int32) = nI 12 ∧ (13 : Int32) = nI 13 ∧ (14 : Int32) = nI 14 ∧ (15 : Int32) = nI 15 ∧ (16 : Int32) = nI 16 ∧ (17 : Int32) = nI 17 ∧ (18 : Int32) = nI 18 ∧ (19 : Int32) = nI 19 ∧ (20 : Int32) = nI 20 ∧ (21 : Int32) = nI 21 ∧ (22 : Int32) = nI 22 ∧ (23 : Int32) = nI 23 ∧ (24 : Int32) = nI 24 ∧ (25 : Int32) = nI 25 ∧ (26 : Int32) = nI 26 ∧ (27 : Int32) = nI 27 ∧ (28 : Int32) = nI 28 ∧ (29 : Int32) = nI 29 ∧ (30 : Int32) = nI 30 ∧ (31 : Int32) = nI 31 ∧ (32 : Int32) = nI 32 ∧ (36 : Int32) = nI 36 ∧ (45 : Int32) = nI 45 ∧ (48 : Int32) = nI 48 ∧ (57 : Int32) = nI 57 ∧ (59 : Int32) = nI 59 ∧ (60 : Int32) = nI 60 ∧ (63 : Int32) = nI 63 ∧ (64 : Int32) = nI 64 ∧ (65 : Int32) = nI 65 ∧ (74 : Int32) = nI 74 ∧ (75 : Int32) = nI 75 ∧ (81 : Int32) = nI 81 ∧ (96 : Int32) = nI 96 ∧ (97 : Int32) = nI 97 ∧ (99 : Int32) = nI 99 ∧ (100 : Int32) = nI 100 ∧ (101 : Int32) = nI 101 ∧ (102 : Int32) = nI 102 ∧ (103 : Int32) = nI 103 ∧ (104 : Int32) = nI 104 ∧ (105 : Int32) = nI 105 ∧ (110 : Int32) = nI 110 ∧ (114 : Int32) = nI 114 ∧ (115 : Int32) = nI 115 ∧ (119 : Int32) = nI 119 ∧ (122 : Int32) = nI 122 ∧ (127 : Int32) = nI 127 ∧ (128 : Int32) = nI 128 ∧ (144 : Int32) = nI 144 ∧ (145 : Int32) = nI 145 ∧ (200 : Int32) = nI 200 ∧ (255 : Int32) = nI 255 ∧ (256 : Int32) = nI 256 ∧ (320 : Int32) = nI 320 ∧ (435 : Int32) = nI 435 ∧ (700 : Int32) = nI 700 ∧ (999 : Int32) = nI 999 ∧ (2175 : Int32) = nI 2175 ∧ (2320 : Int32) = nI 2320 ∧ (9999 : Int32) = nI 9999 ∧ (65537 : Int32) = nI 65537 := ⟨rfl, rfl, rfl, rfl, rfl, rfl, rfl, rfl, rfl, rfl, rfl, rfl, rfl, rfl, rfl, rfl, rfl, rfl, rfl, rfl, rfl, rfl, rfl, rfl, rfl, rfl, rfl, rfl, rfl, rfl, rfl, rfl, rfl, rfl, rfl, rfl, rfl, rfl, rfl, rfl, rfl, rfl, rfl, rfl, rfl, rfl, rfl, rfl, rfl, rfl, rfl, rfl, rfl, rfl, rfl, rfl, rfl, rfl, rfl, rfl, rfl, rfl, rfl, rfl, rfl, rfl, rfl, rfl, rfl, rfl, rfl, rfl, rfl, rfl⟩
theorem neg_mI (n : Nat) : -nI n = mI n := rfl
theorem mI_t {n : Nat} (h : n < 2 ^ 31) : (mI n).toInt = -(n : Int) := sb_negT h
theorem m_eq {a b : Nat} (ha : a < 2 ^ 31) (hb : b < 2 ^ 31) : mI a = mI b ↔ a = b := by
  rw [← Int32.toInt_inj, mI_t ha, mI_t hb]; omega
theorem nm_eq {a b : Nat} (ha : a < 2 ^ 31) (h0 : 0 < b) (hb : b < 2 ^ 31) : nI a = mI b ↔ False := by
  rw [← Int32.toInt_inj, nI_toInt ha, mI_t hb]; exact iff_false_intro (by omega)
theorem mn_eq {a b : Nat} (ha : a < 2 ^ 31) (h0 : 0 < b) (hb : b < 2 ^ 31) : mI b = nI a ↔ False := by
  rw [← Int32.toInt_inj, nI_toInt ha, mI_t hb]; exact iff_false_intro (by omega)
theorem nm_lt {a b : Nat} (ha : a < 2 ^ 31) (hb : b < 2 ^ 31) : nI a < mI b ↔ False := by
  rw [Int32.lt_iff_toInt_lt, nI_toInt ha, mI_t hb]; exact iff_false_intro (by omega)
theorem mn_lt {a b : Nat} (ha : a < 2 ^ 31) (h0 : 0 < b) (hb : b < 2 ^ 31) : mI b < nI a ↔ True := by
  rw [Int32.lt_iff_toInt_lt, nI_toInt ha, mI_t hb]; exact iff_true_intro (by omega)
theorem nm_le {a b : Nat} (ha : a < 2 ^ 31) (h0 : 0 < b) (hb : b < 2 ^ 31) : nI a ≤ mI b ↔ False := by
  rw [Int32.le_iff_toInt_le, nI_toInt ha, mI_t hb]; exact iff_false_intro (by omega)
theorem mn_le {a b : Nat} (ha : a < 2 ^ 31) (hb : b < 2 ^ 31) : mI b ≤ nI a ↔ True := by
  rw [Int32.le_iff_toInt_le, nI_toInt ha, mI_t hb]; exact iff_true_intro (by omega)
theorem bI_0 (b : Bool) : bI b = nI 0 ↔ b = false := by cases b <;> decide
theorem bI_1 (b : Bool) : bI b = nI 1 ↔ b = true := by cases b <;> decide
theorem bI_f : nI 0 = bI false := rfl
theorem bI_t : nI 1 = bI true := rfl
theorem oI_lt {x : Nat} (h : x < 64) : oI x = nI x := if_pos h
theorem oI_ge {x : Nat} (h : ¬ x < 64) : oI x = mI 1 := if_neg h
/-! masks of at most four -/
theorem bt_t {m g : Nat} (hm : m < 16) (hg : g < 4) : ((nI m >>> (nI g &&& nI 31)) &&& nI 1) = nI 0 ↔ m.testBit g = false := by
  have h : ∀ m : Fin 16, ∀ g : Fin 4, ((nI m.val >>> (nI g.val &&& nI 31)) &&& nI 1) = nI 0 ↔ m.val.testBit g.val = false := by decide +kernel
  exact h ⟨m, hm⟩ ⟨g, hg⟩
theorem bt_v {m g : Nat} (hm : m < 16) (hg : g < 4) : ((nI m >>> (nI g &&& nI 31)) &&& nI 1) = bI (m.testBit g) := by
  have h : ∀ m : Fin 16, ∀ g : Fin 4, ((nI m.val >>> (nI g.val &&& nI 31)) &&& nI 1) = bI (m.val.testBit g.val) := by decide +kernel
  exact h ⟨m, hm⟩ ⟨g, hg⟩
theorem bt_o {m g : Nat} (hg : g < 4) (hm : m < 2 ^ g) : nI m ||| (nI 1 <<< (nI g &&& nI 31)) = nI (m + 2 ^ g) := by
  have h : ∀ g : Fin 4, ∀ m : Fin 16, m.val < 2 ^ g.val → nI m.val ||| (nI 1 <<< (nI g.val &&& nI 31)) = nI (m.val + 2 ^ g.val) := by decide +kernel
  have h2 : m < 16 := Nat.lt_of_lt_of_le hm (by have : 2 ^ g ≤ 2 ^ 4 := Nat.pow_le_pow_right (by decide) (by omega); omega)
  exact h ⟨g, hg⟩ ⟨m, h2⟩ hm
def msk (P : Nat → Bool) : Nat → Nat
  | 0 => 0
  | n + 1 => msk P n + if P n then 2 ^ n else 0
theorem msk_lt (P : Nat → Bool) : ∀ n, msk P n < 2 ^ n
  | 0 => by simp [msk]
  | n + 1 => by
    have h := msk_lt P n
    rw [msk, Nat.pow_succ]; split <;> omega
theorem msk_16 (P : Nat → Bool) {n : Nat} (h : n ≤ 4) : msk P n < 16 :=
  Nat.lt_of_lt_of_le (msk_lt P n) (by have : 2 ^ n ≤ 2 ^ 4 := Nat.pow_le_pow_right (by decide) h; omega)
theorem msk_c {P Q : Nat → Bool} : ∀ {n : Nat}, (∀ g, g < n → P g = Q g) → msk P n = msk Q n
  | 0, _ => rfl
  | n + 1, h => by rw [msk, msk, msk_c (fun g hg => h g (by omega)), h n (by omega)]
theorem msk_b (P : Nat → Bool) {n g : Nat} (h : n ≤ 4) (hg : g < n) : (msk P n).testBit g = P g := by
  have e : msk P n = msk (fun g => if g = 0 then P 0 else if g = 1 then P 1 else if g = 2 then P 2 else P 3) n := by
    apply msk_c; intro g hg
    have : g = 0 ∨ g = 1 ∨ g = 2 ∨ g = 3 := by omega
    rcases this with h | h | h | h <;> simp [h]
  have d : ∀ a b c d : Bool, ∀ n : Fin 5, ∀ g : Fin 4, g.val < n.val → (msk (fun g => if g = 0 then a else if g = 1 then b else if g = 2 then c else d) n.val).testBit g.val = (if g.val = 0 then a else if g.val = 1 then b else if g.val = 2 then c else d) := by decide +kernel
  have := d (P 0) (P 1) (P 2) (P 3) ⟨n, by omega⟩ ⟨g, by omega⟩ hg
  rw [e, this]
  have : g = 0 ∨ g = 1 ∨ g = 2 ∨ g = 3 := by omega
  rcases this with h | h | h | h <;> simp [h]
theorem msk_and (P Q : Nat → Bool) {n : Nat} (h : n ≤ 4) : nI (msk P n) &&& (nI (msk Q n) ^^^ mI 1) = nI (msk (fun g => P g && !Q g) n) := by
  have e (P : Nat → Bool) : msk P n = msk (fun g => if g = 0 then P 0 else if g = 1 then P 1 else if g = 2 then P 2 else P 3) n := by
    apply msk_c; intro g hg
    have : g = 0 ∨ g = 1 ∨ g = 2 ∨ g = 3 := by omega
    rcases this with h | h | h | h <;> simp [h]
  have d : ∀ a b c d a' b' c' d' : Bool, ∀ n : Fin 5, nI (msk (fun g => if g = 0 then a else if g = 1 then b else if g = 2 then c else d) n.val) &&& (nI (msk (fun g => if g = 0 then a' else if g = 1 then b' else if g = 2 then c' else d') n.val) ^^^ mI 1) = nI (msk (fun g => if g = 0 then a && !a' else if g = 1 then b && !b' else if g = 2 then c && !c' else d && !d') n.val) := by decide +kernel
  have := d (P 0) (P 1) (P 2) (P 3) (Q 0) (Q 1) (Q 2) (Q 3) ⟨n, by omega⟩
  rw [e P, e Q, this, e (fun g => P g && !Q g)]
theorem msk_or (P Q : Nat → Bool) {n : Nat} (h : n ≤ 4) : nI (msk P n) ||| nI (msk Q n) = nI (msk (fun g => P g || Q g) n) := by
  have e (P : Nat → Bool) : msk P n = msk (fun g => if g = 0 then P 0 else if g = 1 then P 1 else if g = 2 then P 2 else P 3) n := by
    apply msk_c; intro g hg
    have : g = 0 ∨ g = 1 ∨ g = 2 ∨ g = 3 := by omega
    rcases this with h | h | h | h <;> simp [h]
  have d : ∀ a b c d a' b' c' d' : Bool, ∀ n : Fin 5, nI (msk (fun g => if g = 0 then a else if g = 1 then b else if g = 2 then c else d) n.val) ||| nI (msk (fun g => if g = 0 then a' else if g = 1 then b' else if g = 2 then c' else d') n.val) = nI (msk (fun g => if g = 0 then a || a' else if g = 1 then b || b' else if g = 2 then c || c' else d || d') n.val) := by decide +kernel
  have := d (P 0) (P 1) (P 2) (P 3) (Q 0) (Q 1) (Q 2) (Q 3) ⟨n, by omega⟩
  rw [e P, e Q, this, e (fun g => P g || Q g)]
/-! sets of 64 cells -/
def hb (x : Int64) (c : Nat) : Bool := x.toBitVec.getLsbD c
theorem sh_tp : ∀ c : Fin 64, ((1 : Int64) <<< ((nI c.val).toInt64 &&& 63)).toBitVec = BitVec.twoPow 64 c.val := by decide +kernel
theorem hb_o (x : Int64) {c i : Nat} (hc : c < 64) : hb (x ||| ((1 : Int64) <<< ((nI c).toInt64 &&& 63))) i = (hb x i || decide (i = c)) := by
  unfold hb
  rw [Int64.toBitVec_or, BitVec.getLsbD_or, sh_tp ⟨c, hc⟩, BitVec.getLsbD_twoPow]
  by_cases h : i = c
  · subst h; simp [hc]
  · have : ¬ c = i := fun e => h e.symm
    simp [h, this]
theorem hb_a (x : Int64) {c i : Nat} (hc : c < 64) (hi : i < 64) : hb (x &&& (((1 : Int64) <<< ((nI c).toInt64 &&& 63)) ^^^ (-1))) i = (hb x i && !decide (i = c)) := by
  unfold hb
  have m1 : (-1 : Int64).toBitVec = BitVec.allOnes 64 := by decide
  rw [Int64.toBitVec_and, BitVec.getLsbD_and, Int64.toBitVec_xor, BitVec.getLsbD_xor, sh_tp ⟨c, hc⟩, BitVec.getLsbD_twoPow, m1, BitVec.getLsbD_allOnes]
  by_cases h : i = c
  · subst h; simp [hc]
  · have : ¬ c = i := fun e => h e.symm
    simp [h, this, hi]
theorem hb_x (x : Int64) {c i : Nat} (hc : c < 64) : hb (x ^^^ ((1 : Int64) <<< ((nI c).toInt64 &&& 63))) i = (hb x i ^^ decide (i = c)) := by
  unfold hb
  rw [Int64.toBitVec_xor, BitVec.getLsbD_xor, sh_tp ⟨c, hc⟩, BitVec.getLsbD_twoPow]
  by_cases h : i = c
  · subst h; simp [hc]
  · have : ¬ c = i := fun e => h e.symm
    simp [h, this]
theorem hb_n (x y : Int64) {i : Nat} (hi : i < 64) : hb (x &&& (y ^^^ (-1))) i = (hb x i && !hb y i) := by
  unfold hb
  have m1 : (-1 : Int64).toBitVec = BitVec.allOnes 64 := by decide
  rw [Int64.toBitVec_and, BitVec.getLsbD_and, Int64.toBitVec_xor, BitVec.getLsbD_xor, m1, BitVec.getLsbD_allOnes]
  simp [hi]
theorem hb_0 (i : Nat) : hb 0 i = false := by
  unfold hb
  have : (0 : Int64).toBitVec = 0#64 := rfl
  rw [this]; simp
theorem hb_ext {x y : Int64} (h : ∀ i, i < 64 → hb x i = hb y i) : x = y := by
  rw [← Int64.toBitVec_inj]
  exact BitVec.eq_of_getLsbD_eq h
theorem hb_t (x : Int64) {c : Nat} (hc : c < 64) : (((x.toUInt64 >>> ((nI c).toInt64.toUInt64 &&& Int64.toUInt64 63)).toInt64) &&& 1) = 0 ↔ hb x c = false := by
  have s : ∀ c : Fin 64, ((nI c.val).toInt64.toUInt64 &&& Int64.toUInt64 63).toNat = c.val := by decide +kernel
  have e : (x.toUInt64 >>> ((nI c).toInt64.toUInt64 &&& Int64.toUInt64 63)).toInt64.toBitVec = x.toBitVec >>> c := by
    apply BitVec.eq_of_toNat_eq
    show (x.toUInt64 >>> ((nI c).toInt64.toUInt64 &&& Int64.toUInt64 63)).toNat = _
    rw [UInt64.toNat_shiftRight, s ⟨c, hc⟩, Nat.mod_eq_of_lt hc, BitVec.toNat_ushiftRight]
    rfl
  rw [← Int64.toBitVec_inj, Int64.toBitVec_and, e]
  show x.toBitVec >>> c &&& 1#64 = 0#64 ↔ _
  unfold hb
  constructor
  · intro h
    have t := congrArg (fun x => x.getLsbD 0) h
    simpa using t
  · intro h
    apply BitVec.eq_of_getLsbD_eq
    intro i hi
    rcases Nat.eq_zero_or_pos i with rfl | h0
    · simp [h]
    · simp; intro _; omega
/-! a run that goes round and round -/
theorem loopN {α : Type} {X : Nat → α} {n : Nat} (h : ∀ i, i < n → X i = X (i + 1)) : X 0 = X n := by
  induction n with
  | zero => rfl
  | succ n ih => rw [ih (fun i hi => h i (by omega)), h n (by omega)]
theorem loopF {α : Type} {X : Nat → α} {m n : Nat} (hm : m ≤ n) (h : ∀ i, m ≤ i → i < n → X i = X (i + 1)) : X m = X n := by
  induction n with
  | zero => have : m = 0 := by omega
            rw [this]
  | succ n ih =>
    by_cases e : m = n + 1
    · rw [e]
    · rw [ih (by omega) (fun i h1 h2 => h i h1 (by omega)), h n (by omega) (by omega)]
