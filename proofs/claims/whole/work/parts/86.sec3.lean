/-! where it can be -/
def pkA (F : Nat → Nat → Nat) (m i : Nat) : Nat := stp F (fa F 320 i % 5) (m / F 0 2) (fa F 320 i / 5)
def tlA (F : Nat → Nat → Nat) (m : Nat) : Nat → (Nat → Nat)
  | 0 => fun _ => 0
  | i + 1 => up (tlA F m i) (pkA F m i) (tlA F m i (pkA F m i) + 1)
def TA (F : Nat → Nat → Nat) (m : Nat) : Nat → Nat := tlA F m (fct F)
theorem fct_l (F : Nat → Nat → Nat) : fct F ≤ 320 := ctB_le _ _
theorem fa_l {F : Nat → Nat → Nat} {i : Nat} (h : i < fct F) : fa F 320 i < 320 ∧ isS F (fa F 320 i / 5) = true := by
  have := fa_p F 320 i h
  refine ⟨this.1, ?_⟩
  have := this.2
  unfold ftP at this
  simp at this; exact this.1
theorem pk_S {F : Nat → Nat → Nat} {m i : Nat} (h : i < fct F) : isS F (pkA F m i) = true := stp_S _ _ (fa_l h).2
theorem tl_le (F : Nat → Nat → Nat) (m : Nat) : ∀ i c, tlA F m i c ≤ i
  | 0, c => Nat.le_refl _
  | i + 1, c => by
    rw [tlA]
    by_cases e : c = pkA F m i
    · rw [e, up_s]; have := tl_le F m i (pkA F m i); omega
    · rw [up_n e]; have := tl_le F m i c; omega
theorem TA_le (F : Nat → Nat → Nat) (m c : Nat) : TA F m c ≤ 320 := Nat.le_trans (tl_le F m _ c) (fct_l F)
def CSc (I : Nat → Nat → Int32) (F : Nat → Nat → Nat) : Prop := I 108 2 = nI (fct F) ∧ ∀ k, k < fct F → I 109 k = nI (fa F 320 k / 5) ∧ I 110 k = nI (fa F 320 k % 5)
def fl2 (T : Nat → Nat) : Nat → Nat
  | 0 => 0
  | i + 1 => if T (fl2 T i) < T i then i else fl2 T i
theorem fl2_l (T : Nat → Nat) : ∀ i, fl2 T i < i ∨ fl2 T i = 0
  | 0 => Or.inr rfl
  | i + 1 => by
    rw [fl2]
    split
    · left; omega
    · rcases fl2_l T i with h | h
      · left; omega
      · exact Or.inr h
def mxk (g : Nat → Nat) : Nat → Nat
  | 0 => 0
  | n + 1 => if mxk g n < g n then g n else mxk g n
theorem mxk_o {g : Nat → Nat} {k v : Nat} : ∀ {n : Nat}, n ≤ k → mxk (up g k v) n = mxk g n
  | 0, _ => rfl
  | n + 1, h => by rw [mxk, mxk, mxk_o (by omega), up_n (by omega)]
theorem mxk_u {g : Nat → Nat} {k v : Nat} (hv : g k ≤ v) : ∀ {n : Nat}, k < n → mxk (up g k v) n = if mxk g n < v then v else mxk g n
  | 0, h => by omega
  | n + 1, h => by
    rw [mxk, mxk]
    by_cases e : k = n
    · subst e
      rw [mxk_o (Nat.le_refl _), up_s]
      (repeat' split) <;> omega
    · rw [mxk_u hv (n := n) (by omega), up_n (by omega)]
      (repeat' split) <;> omega
theorem mxk_le {g : Nat → Nat} {b : Nat} (h : ∀ k, g k ≤ b) : ∀ n, mxk g n ≤ b
  | 0 => Nat.zero_le _
  | n + 1 => by
    rw [mxk]
    have := mxk_le h n
    have := h n
    split <;> omega
def bfA (T : Nat → Nat) (a : Nat) : Nat → (Nat → Nat)
  | 0 => fun _ => 0
  | i + 1 => if 0 < T i then up (bfA T a i) (apt i a) (bfA T a i (apt i a) + T i) else bfA T a i
def lvA (T : Nat → Nat) (a : Nat) : Nat := mxk (bfA T a 64) 15
theorem bf_le {T : Nat → Nat} (hT : ∀ c, T c ≤ 320) (a : Nat) : ∀ i k, bfA T a i k ≤ 320 * i
  | 0, k => by simp [bfA]
  | i + 1, k => by
    have ih := bf_le hT a i
    have := hT i
    rw [bfA]
    split
    · by_cases e : k = apt i a
      · rw [e, up_s]; have := ih (apt i a); omega
      · rw [up_n e]; have := ih k; omega
    · have := ih k; omega
section SEC3
variable {z : Nat} {E : aEt} {n : Nat} {K N : Nat → Nat} {R : Nat → Nat → Option Nat} {I : Nat → Nat → Int32} {J : Nat → Nat → Int64} {lx : List Value → aH → aO} {p s f : Nat} {F : Nat → Nat → Nat} {ρ : Nat → Nat}
theorem c_164 (hL : CL K N R p s) (hS : CSc I F) (x : Int32) : Ca lx 164 [.ref z, .int x] (St z E n K N R I J) = some (some (.int (bI (rg x (fct F)))), (St z E n K N R I J)) := by
  rw [f_164]
  have hL' := hL
  unfold CL at hL'
  have k0 : K 0 = 9 := by simp [hL']
  have r6 : R 0 6 = some 108 := by simp [hL']
  have k4 : K 108 = 4 := by simp [hL']
  have q := hS.1
  unfold rg
  by_cases c1 : x < 0
  · have : ¬ 0 ≤ x := Int32.not_le.mpr c1
    simp [c1, this, gd_T]; rfl
  · have c1' : 0 ≤ x := Int32.not_lt.mp c1
    by_cases c2 : nI (fct F) ≤ x
    · have c2' : ¬ x < nI (fct F) := Int32.not_lt.mpr c2
      simp only [k_S0, k0, gd_t, r_S0, r6, Option.map_some, nR_s, k_St, k4, i_St, q]
      simp [c1, c2, c2', gd_T]; rfl
    · have c2' : x < nI (fct F) := Int32.not_le.mp c2
      simp only [k_S0, k0, gd_t, r_S0, r6, Option.map_some, nR_s, k_St, k4, i_St, q]
      simp [c1, c1', c2, c2', gd_T]; rfl
theorem s_64 (hL : CL K N R p s) (hP : Pl K N R p) (hF : PI I J p F) (hO : FOk F) (hS : CSc I F) {i m : Nat} (hi : i < fct F) (hm : m ≤ 60) : Ca lx 64 [.ref (z + 108), .ref (z + p), .int (nI i), .int (nI m)] (St z E n K N R I J) = some (some (.int (nI (pkA F m i))), (St z E n K N R I J)) := by
  have hL' := hL
  unfold CL at hL'
  have k4 : K 108 = 4 := by simp [hL']
  have r0 : R 108 0 = some 109 := by simp [hL']
  have r1 : R 108 1 = some 110 := by simp [hL']
  have k9 : K 109 = 13 := by simp [hL']
  have n9 : N 109 = 320 := by simp [hL']
  have k10 : K 110 = 13 := by simp [hL']
  have n10 : N 110 = 320 := by simp [hL']
  have fl := fct_l F
  have fa1 := fa_l hi
  obtain ⟨a, b⟩ := hS.2 i hi
  have e63 := s_63 (lx := lx) (z := z) (E := E) (n := n) hP hF hO (show fa F 320 i / 5 < 64 by omega) (show fa F 320 i % 5 < 5 by omega) hm
  rw [f_64]
  simp (disch := first | assumption | omega) [k_St, n_St, i_St, j_St, r_St, wI_St, wJ_St, k_S0, n_S0, i_S0, j_S0, r_S0, wI_S0, wJ_S0, cI_s, cJ_s, cV_s, nR_s, nQ_s, nQ_n, lt_s_, gd_T, gd_t, Option.map_some, lits, neg_mI, nI_add, pk_mul, nI_clamp, nI_eq, nI_leI, nI_ltI, nm_eq, mn_eq, nm_lt, mn_lt, nm_le, mn_le, m_eq, bI_0, bI_1, if_neg, k4, hS.1, r0, r1, k9, n9, k10, n10, a, b, e63]
  rfl
/-- the class's tally -/
theorem c_65 (hL : CL K N R p s) (hP : Pl K N R p) (hF : PI I J p F) (hO : FOk F) (hS : CSc I F) (hp : 114 ≤ p) {m : Nat} (hm : m ≤ 60) : Ca lx 65 [.ref (z + 108), .ref (z + p), .int (nI m)] (St z E n K N R I J) = some (none, St z E n K N R (pr I 111 64 (TA F m)) J) := by
  have hL' := hL
  unfold CL at hL'
  have k4 : K 108 = 4 := by simp [hL']
  have r3 : R 108 3 = some 111 := by simp [hL']
  have k11 : K 111 = 13 := by simp [hL']
  have n11 : N 111 = 64 := by simp [hL']
  have o64 : (Int32.ofNat 64 : Int32) = nI 64 := rfl
  have fl := fct_l F
  have L := loopN (X := fun i => Am lx 65 3 [some (.ref (z + 108)), some (.ref (z + p)), some (.int (nI m)), some (.int (nI i)), none] [] (0, 0) (St z E n K N R (fun b k => if b = 111 ∧ k < i then nI 0 else I b k) J)) (n := 64) (by
    intro i hi
    try simp only
    rw [e_65_3]
    have e : u2 (fun b k => if b = 111 ∧ k < i then nI 0 else I b k) 111 i (nI 0) = fun b k => if b = 111 ∧ k < i + 1 then nI 0 else I b k := by
      funext b k
      unfold u2
      by_cases hb : b = 111
      · by_cases hk : k = i
        · simp [hb, hk]
        · have : k < i + 1 ↔ k < i := by omega
          simp [hb, hk, this]
      · simp [hb]
    simp (disch := first | assumption | omega) [k_St, n_St, i_St, j_St, r_St, wI_St, wJ_St, k_S0, n_S0, i_S0, j_S0, r_S0, wI_S0, wJ_S0, cI_s, cJ_s, cV_s, nR_s, nQ_s, nQ_n, lt_s_, gd_T, gd_t, Option.map_some, lits, neg_mI, nI_add, pk_mul, nI_clamp, nI_eq, nI_leI, nI_ltI, nm_eq, mn_eq, nm_lt, mn_lt, nm_le, mn_le, m_eq, bI_0, bI_1, if_neg, k4, r3, k11, n11, o64, e])
  try simp only at L
  have e0 : (fun b k => if b = 111 ∧ k < 0 then nI 0 else I b k) = I := by funext b k; simp
  have e64 : (fun b k => if b = 111 ∧ k < 64 then nI 0 else I b k) = pr I 111 64 (tlA F m 0) := rfl
  rw [e0, e64] at L
  have hS1 : ∀ τ, CSc (pr I 111 64 τ) F := fun τ => ⟨by rw [pr_n (by decide)]; exact hS.1, fun k hk => by rw [pr_n (by decide), pr_n (by decide)]; exact hS.2 k hk⟩
  have hF1 : ∀ τ, PI (pr I 111 64 τ) J p F := fun τ => PI_c hF (fun a a1 a2 => pr_n (by omega)) rfl
  have L2 := loopN (X := fun i => Am lx 65 18 [some (.ref (z + 108)), some (.ref (z + p)), some (.int (nI m)), some (.int (nI i)), none] [] (0, 0) (St z E n K N R (pr I 111 64 (tlA F m i)) J)) (n := fct F) (by
    intro i hi
    try simp only
    rw [e_65_18, tlA]
    have e64 := s_64 (lx := lx) (z := z) (E := E) (n := n) hL hP (hF1 (tlA F m i)) hO (hS1 (tlA F m i)) hi hm
    have pl1 := isS_lt (pk_S (m := m) hi)
    have s6 := s_6 (lx := lx) pl1
    simp (disch := first | assumption | omega) [k_St, n_St, i_St, j_St, r_St, wI_St, wJ_St, k_S0, n_S0, i_S0, j_S0, r_S0, wI_S0, wJ_S0, cI_s, cJ_s, cV_s, nR_s, nQ_s, nQ_n, lt_s_, gd_T, gd_t, Option.map_some, lits, neg_mI, nI_add, pk_mul, nI_clamp, nI_eq, nI_leI, nI_ltI, nm_eq, mn_eq, nm_lt, mn_lt, nm_le, mn_le, m_eq, bI_0, bI_1, if_neg, k4, (hS1 (tlA F m i)).1, e64, s6, r3, k11, n11, pr_s, pr_u])
  try simp only at L2
  rw [f_65]
  have z0 : (0 : Int32) = nI 0 := rfl
  rw [z0, L, e_65_3]
  simp (disch := first | assumption | omega) [k_St, n_St, i_St, j_St, r_St, wI_St, wJ_St, k_S0, n_S0, i_S0, j_S0, r_S0, wI_S0, wJ_S0, cI_s, cJ_s, cV_s, nR_s, nQ_s, nQ_n, lt_s_, gd_T, gd_t, Option.map_some, lits, neg_mI, nI_add, pk_mul, nI_clamp, nI_eq, nI_leI, nI_ltI, nm_eq, mn_eq, nm_lt, mn_lt, nm_le, mn_le, m_eq, bI_0, bI_1, k4, r3, k11, n11, o64, L2]
  rw [e_65_18]
  simp (disch := first | assumption | omega) [k_St, n_St, i_St, j_St, r_St, wI_St, wJ_St, k_S0, n_S0, i_S0, j_S0, r_S0, wI_S0, wJ_S0, cI_s, cJ_s, cV_s, nR_s, nQ_s, nQ_n, lt_s_, gd_T, gd_t, Option.map_some, lits, neg_mI, nI_add, pk_mul, nI_clamp, nI_eq, nI_leI, nI_ltI, nm_eq, mn_eq, nm_lt, mn_lt, nm_le, mn_le, m_eq, bI_0, bI_1, k4, (hS1 (tlA F m (fct F))).1]
  rfl
theorem c_66 (hL : CL K N R p s) {T : Nat → Nat} {c : Nat} (hc : c < 64) : Ca lx 66 [.ref (z + 108), .int (nI c)] (St z E n K N R (pr I 111 64 T) J) = some (some (.int (nI (T c))), St z E n K N R (pr I 111 64 T) J) := by
  have hL' := hL
  unfold CL at hL'
  have k4 : K 108 = 4 := by simp [hL']
  have r3 : R 108 3 = some 111 := by simp [hL']
  have k11 : K 111 = 13 := by simp [hL']
  have n11 : N 111 = 64 := by simp [hL']
  rw [f_66]
  simp (disch := first | assumption | omega) [k_St, n_St, i_St, j_St, r_St, wI_St, wJ_St, k_S0, n_S0, i_S0, j_S0, r_S0, wI_S0, wJ_S0, cI_s, cJ_s, cV_s, nR_s, nQ_s, nQ_n, lt_s_, gd_T, gd_t, Option.map_some, lits, neg_mI, nI_add, pk_mul, nI_clamp, nI_eq, nI_leI, nI_ltI, nm_eq, mn_eq, nm_lt, mn_lt, nm_le, mn_le, m_eq, bI_0, bI_1, s_6 hc, k4, r3, k11, n11, pr_s]
theorem c_67 (hL : CL K N R p s) {T : Nat → Nat} (hT : ∀ c, T c ≤ 320) : Ca lx 67 [.ref (z + 108)] (St z E n K N R (pr I 111 64 T) J) = some (some (.int (nI (fl2 T 64))), St z E n K N R (pr I 111 64 T) J) := by
  have hL' := hL
  unfold CL at hL'
  have k4 : K 108 = 4 := by simp [hL']
  have r3 : R 108 3 = some 111 := by simp [hL']
  have k11 : K 111 = 13 := by simp [hL']
  have n11 : N 111 = 64 := by simp [hL']
  have o64 : (Int32.ofNat 64 : Int32) = nI 64 := rfl
  have L := loopN (X := fun i => Am lx 67 5 [some (.ref (z + 108)), some (.int (nI (fl2 T i))), some (.int (nI i))] [] (0, 0) (St z E n K N R (pr I 111 64 T) J)) (n := 64) (by
    intro i hi
    try simp only
    rw [e_67_5, fl2]
    have bl : fl2 T i < 64 := by have := fl2_l T i; omega
    have e66 := c_66 (lx := lx) (z := z) (E := E) (n := n) (N := N) (R := R) (I := I) (J := J) (T := T) hL bl
    have t1 := hT i
    have t2 := hT (fl2 T i)
    by_cases c : T (fl2 T i) < T i
    · simp (disch := first | assumption | omega) [k_St, n_St, i_St, j_St, r_St, wI_St, wJ_St, k_S0, n_S0, i_S0, j_S0, r_S0, wI_S0, wJ_S0, cI_s, cJ_s, cV_s, nR_s, nQ_s, nQ_n, lt_s_, gd_T, gd_t, Option.map_some, lits, neg_mI, nI_add, pk_mul, nI_clamp, nI_eq, nI_leI, nI_ltI, nm_eq, mn_eq, nm_lt, mn_lt, nm_le, mn_le, m_eq, bI_0, bI_1, if_neg, if_pos, k4, r3, k11, n11, o64, pr_s, e66, c]
    · simp (disch := first | assumption | omega) [k_St, n_St, i_St, j_St, r_St, wI_St, wJ_St, k_S0, n_S0, i_S0, j_S0, r_S0, wI_S0, wJ_S0, cI_s, cJ_s, cV_s, nR_s, nQ_s, nQ_n, lt_s_, gd_T, gd_t, Option.map_some, lits, neg_mI, nI_add, pk_mul, nI_clamp, nI_eq, nI_leI, nI_ltI, nm_eq, mn_eq, nm_lt, mn_lt, nm_le, mn_le, m_eq, bI_0, bI_1, if_neg, if_pos, k4, r3, k11, n11, o64, pr_s, e66, c])
  try simp only at L
  rw [f_67]
  have z0 : (0 : Int32) = nI 0 := rfl
  have f0 : fl2 T 0 = 0 := rfl
  rw [f0] at L
  rw [z0, L, e_67_5]
  simp (disch := first | assumption | omega) [k_St, n_St, i_St, j_St, r_St, wI_St, wJ_St, k_S0, n_S0, i_S0, j_S0, r_S0, wI_S0, wJ_S0, cI_s, cJ_s, cV_s, nR_s, nQ_s, nQ_n, lt_s_, gd_T, gd_t, Option.map_some, lits, neg_mI, nI_add, pk_mul, nI_clamp, nI_eq, nI_leI, nI_ltI, nm_eq, mn_eq, nm_lt, mn_lt, nm_le, mn_le, m_eq, bI_0, bI_1, k4, r3, k11, n11, o64]
theorem c_69 (hL : CL K N R p s) {T : Nat → Nat} (hT : ∀ c, T c ≤ 320) {a : Nat} (ha : a < 64) (g : Nat → Nat) : Ca lx 69 [.ref (z + 108), .int (nI a)] (St z E n K N R (pr (pr I 111 64 T) 112 15 g) J) = some (some (.int (nI (lvA T a))), St z E n K N R (pr (pr I 111 64 T) 112 15 (bfA T a 64)) J) := by
  have hL' := hL
  unfold CL at hL'
  have k4 : K 108 = 4 := by simp [hL']
  have r3 : R 108 3 = some 111 := by simp [hL']
  have r4 : R 108 4 = some 112 := by simp [hL']
  have k11 : K 111 = 13 := by simp [hL']
  have n11 : N 111 = 64 := by simp [hL']
  have k12 : K 112 = 13 := by simp [hL']
  have n12 : N 112 = 15 := by simp [hL']
  have o64 : (Int32.ofNat 64 : Int32) = nI 64 := rfl
  have o15 : (Int32.ofNat 15 : Int32) = nI 15 := rfl
  have L := loopN (X := fun i => Am lx 69 3 [some (.ref (z + 108)), some (.int (nI a)), some (.int (nI i)), none, none] [] (0, 0) (St z E n K N R (pr (pr I 111 64 T) 112 15 (fun k => if k < i then 0 else g k)) J)) (n := 15) (by
    intro i hi
    try simp only
    rw [e_69_3]
    have e : up (fun k => if k < i then 0 else g k) i 0 = fun k => if k < i + 1 then 0 else g k := by
      funext k
      unfold up
      by_cases hk : k = i
      · simp [hk]
      · have : k < i + 1 ↔ k < i := by omega
        simp [hk, this]
    simp (disch := first | assumption | omega) [k_St, n_St, i_St, j_St, r_St, wI_St, wJ_St, k_S0, n_S0, i_S0, j_S0, r_S0, wI_S0, wJ_S0, cI_s, cJ_s, cV_s, nR_s, nQ_s, nQ_n, lt_s_, gd_T, gd_t, Option.map_some, lits, neg_mI, nI_add, pk_mul, nI_clamp, nI_eq, nI_leI, nI_ltI, nm_eq, mn_eq, nm_lt, mn_lt, nm_le, mn_le, m_eq, bI_0, bI_1, if_neg, k4, r4, k12, n12, o15, pr_u, e])
  try simp only at L
  have e0 : (fun k => if k < 0 then 0 else g k) = g := by funext k; simp
  have e15 : pr (pr I 111 64 T) 112 15 (fun k => if k < 15 then 0 else g k) = pr (pr I 111 64 T) 112 15 (bfA T a 0) := pr_c (fun k hk => by simp [bfA, hk])
  rw [e0, e15] at L
  have x11 : ∀ g k, k < 64 → pr (pr I 111 64 T) 112 15 g 111 k = nI (T k) := fun g k hk => by rw [pr_n (by decide), pr_s hk]
  have L2 := loopN (X := fun i => Am lx 69 20 [some (.ref (z + 108)), some (.int (nI a)), some (.int (nI (mxk (bfA T a i) 15))), some (.int (nI i)), none] [] (0, 0) (St z E n K N R (pr (pr I 111 64 T) 112 15 (bfA T a i)) J)) (n := 64) (by
    intro i hi
    try simp only
    rw [e_69_20, bfA]
    have s4 := s_4 (lx := lx) hi ha
    have al := apt_le hi ha
    have t1 := hT i
    have bl := bf_le hT a i
    have ml := mxk_le (fun k => bf_le hT a i k) 15
    have bla := bl (apt i a)
    by_cases c : 0 < T i
    · rw [if_pos c, mxk_u (by omega) (show apt i a < 15 by omega)]
      by_cases c2 : mxk (bfA T a i) 15 < bfA T a i (apt i a) + T i
      · simp (disch := first | assumption | omega) [k_St, n_St, i_St, j_St, r_St, wI_St, wJ_St, k_S0, n_S0, i_S0, j_S0, r_S0, wI_S0, wJ_S0, cI_s, cJ_s, cV_s, nR_s, nQ_s, nQ_n, lt_s_, gd_T, gd_t, Option.map_some, lits, neg_mI, nI_add, pk_mul, nI_clamp, nI_eq, nI_leI, nI_ltI, nm_eq, mn_eq, nm_lt, mn_lt, nm_le, mn_le, m_eq, bI_0, bI_1, if_neg, if_pos, k4, r3, k11, n11, o64, s4, x11, r4, k12, n12, o15, pr_s, pr_u, up_s, ca_901, c2]
      · simp (disch := first | assumption | omega) [k_St, n_St, i_St, j_St, r_St, wI_St, wJ_St, k_S0, n_S0, i_S0, j_S0, r_S0, wI_S0, wJ_S0, cI_s, cJ_s, cV_s, nR_s, nQ_s, nQ_n, lt_s_, gd_T, gd_t, Option.map_some, lits, neg_mI, nI_add, pk_mul, nI_clamp, nI_eq, nI_leI, nI_ltI, nm_eq, mn_eq, nm_lt, mn_lt, nm_le, mn_le, m_eq, bI_0, bI_1, if_neg, if_pos, k4, r3, k11, n11, o64, s4, x11, r4, k12, n12, o15, pr_s, pr_u, up_s, ca_901, c2]
    · rw [if_neg c]
      have t0 : T i = 0 := by omega
      simp (disch := first | assumption | omega) [k_St, n_St, i_St, j_St, r_St, wI_St, wJ_St, k_S0, n_S0, i_S0, j_S0, r_S0, wI_S0, wJ_S0, cI_s, cJ_s, cV_s, nR_s, nQ_s, nQ_n, lt_s_, gd_T, gd_t, Option.map_some, lits, neg_mI, nI_add, pk_mul, nI_clamp, nI_eq, nI_leI, nI_ltI, nm_eq, mn_eq, nm_lt, mn_lt, nm_le, mn_le, m_eq, bI_0, bI_1, if_neg, if_pos, k4, r3, k11, n11, o64, s4, x11, t0])
  try simp only at L2
  have m0 : mxk (bfA T a 0) 15 = 0 := by show mxk (fun _ => 0) 15 = 0; decide
  rw [m0] at L2
  rw [f_69]
  have z0 : (0 : Int32) = nI 0 := rfl
  rw [z0, L, e_69_3]
  simp (disch := first | assumption | omega) [k_St, n_St, i_St, j_St, r_St, wI_St, wJ_St, k_S0, n_S0, i_S0, j_S0, r_S0, wI_S0, wJ_S0, cI_s, cJ_s, cV_s, nR_s, nQ_s, nQ_n, lt_s_, gd_T, gd_t, Option.map_some, lits, neg_mI, nI_add, pk_mul, nI_clamp, nI_eq, nI_leI, nI_ltI, nm_eq, mn_eq, nm_lt, mn_lt, nm_le, mn_le, m_eq, bI_0, bI_1, k4, r4, k12, n12, o15, L2]
  rw [e_69_20]
  simp (disch := first | assumption | omega) [k_St, n_St, i_St, j_St, r_St, wI_St, wJ_St, k_S0, n_S0, i_S0, j_S0, r_S0, wI_S0, wJ_S0, cI_s, cJ_s, cV_s, nR_s, nQ_s, nQ_n, lt_s_, gd_T, gd_t, Option.map_some, lits, neg_mI, nI_add, pk_mul, nI_clamp, nI_eq, nI_leI, nI_ltI, nm_eq, mn_eq, nm_lt, mn_lt, nm_le, mn_le, m_eq, bI_0, bI_1, k4, r3, k11, n11, o64]
  rfl
/-- where one more drum tells most -/
def bdF (F : Nat → Nat → Nat) (T : Nat → Nat) : Nat → Nat × Nat
  | 0 => (64, 0)
  | i + 1 => if isS F i && (decide ((bdF F T i).1 = 64) || decide (lvA T i < (bdF F T i).2)) then (i, lvA T i) else bdF F T i
theorem bdF_l (F : Nat → Nat → Nat) (T : Nat → Nat) : ∀ i, i ≤ 64 → (bdF F T i).1 = 64 ∨ ((bdF F T i).1 < i ∧ (bdF F T i).2 = lvA T (bdF F T i).1)
  | 0, _ => Or.inl rfl
  | i + 1, h => by
    rw [bdF]
    split
    · right; exact ⟨by show i < i + 1; omega, rfl⟩
    · rcases bdF_l F T i (by omega) with e | e
      · exact Or.inl e
      · exact Or.inr ⟨by omega, e.2⟩
theorem bdF_s (F : Nat → Nat → Nat) (T : Nat → Nat) {c : Nat} (hs : isS F c = true) : ∀ i, i ≤ 64 → c < i → (bdF F T i).1 < 64
  | 0, _, h => by omega
  | i + 1, h, hc => by
    rw [bdF]
    by_cases e : c = i
    · subst e
      by_cases e2 : (bdF F T c).1 = 64
      · simp [hs, e2]; omega
      · have := bdF_l F T c (by omega)
        split
        · show c < 64; omega
        · omega
    · have := bdF_s F T hs i (by omega) (by omega)
      split
      · show i < 64; omega
      · exact this
theorem lv_le {T : Nat → Nat} (hT : ∀ c, T c ≤ 320) (a : Nat) : lvA T a ≤ 20480 := mxk_le (fun k => bf_le hT a 64 k) 15
theorem c_68 (hL : CL K N R p s) (hP : Pl K N R p) (hF : PI I J p F) (hp : 114 ≤ p) {T : Nat → Nat} (hT : ∀ c, T c ≤ 320) (g : Nat → Nat) : ∃ g', Ca lx 68 [.ref (z + 108), .ref (z + p)] (St z E n K N R (pr (pr I 111 64 T) 112 15 g) J) = some (some (.int (oI (bdF F T 64).1)), St z E n K N R (pr (pr I 111 64 T) 112 15 g') J) := by
  have hL' := hL
  unfold CL at hL'
  have k4 : K 108 = 4 := by simp [hL']
  have kp := hP.1
  have hF1 : ∀ g, PI (pr (pr I 111 64 T) 112 15 g) J p F := fun g => PI_c hF (fun a a1 a2 => by rw [pr_n (by omega), pr_n (by omega)]) rfl
  have A : ∀ i, i ≤ 64 → ∃ g', Am lx 68 7 [some (.ref (z + 108)), some (.ref (z + p)), some (.int (mI 1)), some (.int (nI 0)), some (.int (nI 0)), none] [] (0, 0) (St z E n K N R (pr (pr I 111 64 T) 112 15 g) J) = Am lx 68 7 [some (.ref (z + 108)), some (.ref (z + p)), some (.int (oI (bdF F T i).1)), some (.int (nI (bdF F T i).2)), some (.int (nI i)), none] [] (0, 0) (St z E n K N R (pr (pr I 111 64 T) 112 15 g') J) := by
    intro i
    induction i with
    | zero => intro _; exact ⟨g, rfl⟩
    | succ i ih =>
      intro hi
      obtain ⟨g1, e1⟩ := ih (by omega)
      have i64 : i < 64 := by omega
      have a1 := s_26c (lx := lx) (z := z) (E := E) (n := n) hP (hF1 g1) i64
      have a2 := c_69 (lx := lx) (z := z) (E := E) (n := n) (N := N) (R := R) (I := I) (J := J) hL hT i64 g1
      have oi : oI i = nI i := oI_lt i64
      have ll := lv_le hT i
      rw [bdF]
      cases c1 : isS F i
      · rw [c1] at a1
        refine ⟨g1, ?_⟩
        rw [e1, e_68_7]
        simp (disch := first | assumption | omega) [k_St, n_St, i_St, j_St, r_St, wI_St, wJ_St, k_S0, n_S0, i_S0, j_S0, r_S0, wI_S0, wJ_S0, cI_s, cJ_s, cV_s, nR_s, nQ_s, nQ_n, lt_s_, gd_T, gd_t, Option.map_some, lits, neg_mI, nI_add, pk_mul, nI_clamp, nI_eq, nI_leI, nI_ltI, nm_eq, mn_eq, nm_lt, mn_lt, nm_le, mn_le, m_eq, bI_0, bI_1, if_neg, kp, a1]
      · rw [c1] at a1
        refine ⟨bfA T i 64, ?_⟩
        rw [e1, e_68_7]
        rcases bdF_l F T i (by omega) with c2 | ⟨c2, c3⟩
        · have o64 : oI 64 = mI 1 := rfl
          simp (disch := first | assumption | omega) [k_St, n_St, i_St, j_St, r_St, wI_St, wJ_St, k_S0, n_S0, i_S0, j_S0, r_S0, wI_S0, wJ_S0, cI_s, cJ_s, cV_s, nR_s, nQ_s, nQ_n, lt_s_, gd_T, gd_t, Option.map_some, lits, neg_mI, nI_add, pk_mul, nI_clamp, nI_eq, nI_leI, nI_ltI, nm_eq, mn_eq, nm_lt, mn_lt, nm_le, mn_le, m_eq, bI_0, bI_1, if_neg, kp, a1, k4, a2, c2, o64, oi, e_68_25]
        · have c2' : (bdF F T i).1 < 64 := by omega
          have c2n : ¬ (bdF F T i).1 = 64 := by omega
          have lb : (bdF F T i).2 ≤ 20480 := by rw [c3]; exact lv_le hT _
          by_cases c4 : lvA T i < (bdF F T i).2
          · simp (disch := first | assumption | omega) [k_St, n_St, i_St, j_St, r_St, wI_St, wJ_St, k_S0, n_S0, i_S0, j_S0, r_S0, wI_S0, wJ_S0, cI_s, cJ_s, cV_s, nR_s, nQ_s, nQ_n, lt_s_, gd_T, gd_t, Option.map_some, lits, neg_mI, nI_add, pk_mul, nI_clamp, nI_eq, nI_leI, nI_ltI, nm_eq, mn_eq, nm_lt, mn_lt, nm_le, mn_le, m_eq, bI_0, bI_1, if_neg, if_pos, kp, a1, k4, a2, c2n, oI_lt c2', c4, oi, e_68_25]
          · simp (disch := first | assumption | omega) [k_St, n_St, i_St, j_St, r_St, wI_St, wJ_St, k_S0, n_S0, i_S0, j_S0, r_S0, wI_S0, wJ_S0, cI_s, cJ_s, cV_s, nR_s, nQ_s, nQ_n, lt_s_, gd_T, gd_t, Option.map_some, lits, neg_mI, nI_add, pk_mul, nI_clamp, nI_eq, nI_leI, nI_ltI, nm_eq, mn_eq, nm_lt, mn_lt, nm_le, mn_le, m_eq, bI_0, bI_1, if_neg, if_pos, kp, a1, k4, a2, c2n, oI_lt c2', c4]
  obtain ⟨g1, e1⟩ := A 64 (Nat.le_refl _)
  refine ⟨g1, ?_⟩
  rw [f_68]
  have z0 : (0 : Int32) = nI 0 := rfl
  have m1 : (-1 : Int32) = mI 1 := rfl
  rw [z0, m1, e1, e_68_7]
  simp (disch := first | assumption | omega) [k_St, n_St, i_St, j_St, r_St, wI_St, wJ_St, k_S0, n_S0, i_S0, j_S0, r_S0, wI_S0, wJ_S0, cI_s, cJ_s, cV_s, nR_s, nQ_s, nQ_n, lt_s_, gd_T, gd_t, Option.map_some, lits, neg_mI, nI_add, pk_mul, nI_clamp, nI_eq, nI_leI, nI_ltI, nm_eq, mn_eq, nm_lt, mn_lt, nm_le, mn_le, m_eq, bI_0, bI_1, if_pos]
end SEC3
