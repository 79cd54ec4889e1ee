/-! the law's entry -/
def cdL : List Cond := flatC (Jvm.Cond.and given_1 narrow_1)
def tmR : List (String × Nat) := [("CounterMine$Reader", 56), ("CounterMine$Reader", 65), ("CounterMine$Reader", 70), ("CounterMine$Reader", 75), ("CounterMine$Reader", 80), ("CounterMine$Reader", 85), ("CounterMine$Reader", 103), ("CounterMine$Reader", 111), ("CounterMine$Reader", 115), ("CounterMine$Reader", 119), ("CounterMine$Reader", 230), ("CounterMine$Reader", 228), ("CounterMine", 356)]
def tmT (i : Nat) : Term := Term.string (tmR.getD i ("", 0)).1 (tmR.getD i ("", 0)).2
def pxL : List Nat := [23, 77, 89, 103, 118, 133, 32, 42, 53, 64, 173, 151, 194]
def neL : List (Nat × Nat × Nat) := [(0, 1, 84), (0, 2, 97), (0, 3, 111), (0, 4, 125), (0, 5, 142), (0, 6, 41), (0, 7, 51), (0, 8, 61), (0, 9, 73), (0, 10, 183), (0, 11, 163), (0, 12, 213), (1, 2, 102), (1, 3, 116), (1, 4, 130), (1, 5, 147), (1, 10, 188), (1, 11, 168), (1, 12, 218), (2, 3, 117), (2, 4, 131), (2, 5, 148), (2, 10, 189), (2, 11, 169), (2, 12, 219), (3, 4, 132), (3, 5, 149), (3, 10, 190), (3, 11, 170), (3, 12, 220), (4, 5, 150), (4, 10, 191), (4, 11, 171), (4, 12, 221), (5, 10, 192), (5, 11, 172), (5, 12, 222), (6, 1, 85), (6, 2, 98), (6, 3, 112), (6, 4, 126), (6, 5, 143), (6, 7, 52), (6, 8, 62), (6, 9, 74), (6, 10, 184), (6, 11, 164), (6, 12, 214), (7, 1, 86), (7, 2, 99), (7, 3, 113), (7, 4, 127), (7, 5, 144), (7, 8, 63), (7, 9, 75), (7, 10, 185), (7, 11, 165), (7, 12, 215), (8, 1, 87), (8, 2, 100), (8, 3, 114), (8, 4, 128), (8, 5, 145), (8, 9, 76), (8, 10, 186), (8, 11, 166), (8, 12, 216), (9, 1, 88), (9, 2, 101), (9, 3, 115), (9, 4, 129), (9, 5, 146), (9, 10, 187), (9, 11, 167), (9, 12, 217), (10, 12, 224), (11, 10, 193), (11, 12, 223)]
def eqL : List (Nat × Nat × Nat) := [(0, 154, 234), (1, 156, 356), (2, 158, 383), (3, 160, 411), (4, 162, 439), (5, 164, 470), (6, 235, 257), (7, 240, 281), (8, 242, 305), (9, 244, 331), (10, 298, 504), (11, 300, 538)]
set_option maxRecDepth 100000 in
theorem px0 : ∀ i, i < 13 → cdL[pxL.getD i 0]? = some (Cond.exactly (tmT i) "java/lang/String") := by decide +kernel
set_option maxRecDepth 100000 in
theorem px1 : ∀ i, i < 13 → cdL[pxL.getD i 0 + 1]? = some (Cond.eq (.field (tmT i) "java/lang/String" "coder" "B") (.int 0)) := by decide +kernel
set_option maxRecDepth 100000 in
theorem px2 : ∀ i, i < 13 → cdL[pxL.getD i 0 + 2]? = some (Cond.arrayOf (.field (tmT i) "java/lang/String" "value" "[B") .byte) := by decide +kernel
set_option maxRecDepth 100000 in
theorem px3 : ∀ i, i < 13 → cdL[pxL.getD i 0 + 3]? = some (Cond.eq (.length (.field (tmT i) "java/lang/String" "value" "[B")) (.int (Int32.ofNat (stLenL.getD i 0)))) := by decide +kernel
set_option maxRecDepth 100000 in
theorem px4 : ∀ i, i < 13 → ∀ j, j < stLenL.getD i 0 → cdL[pxL.getD i 0 + 4 + j]? = some (Cond.eq (.elem (.field (tmT i) "java/lang/String" "value" "[B") (.int (Int32.ofNat j))) (.int ((stBytL.getD i []).getD j 0))) := by decide +kernel
set_option maxRecDepth 100000 in
theorem px5 : ∀ q ∈ neL, cdL[q.2.2]? = some (Cond.not (Cond.eq (tmT q.1) (tmT q.2.1))) := by decide +kernel
set_option maxRecDepth 100000 in
theorem px6 : ∀ i, i < 13 → ∀ j, j < 13 → i ≠ j → ∃ q ∈ neL, (q.1 = i ∧ q.2.1 = j) ∨ (q.1 = j ∧ q.2.1 = i) := by decide +kernel
set_option maxRecDepth 100000 in
theorem px7 : ∀ q ∈ eqL, cdL[q.2.2]? = some (Cond.eq (tmT q.1) (Term.string "CounterMineModel" q.2.1)) := by decide +kernel
set_option maxRecDepth 100000 in
theorem py0 : cdL[4]? = some (Cond.eq (.static "java/lang/String" "COMPACT_STRINGS" "Z") (.int 1)) := by decide +kernel
set_option maxRecDepth 100000 in
theorem py1 : cdL[5]? = some (Cond.isRef (.static "jdk/internal/util/Preconditions" "SIOOBE_FORMATTER" "Ljava/util/function/BiFunction;")) := by decide +kernel
set_option maxRecDepth 100000 in
theorem py2 : cdL[9]? = some (Cond.isRef (.static Bundle.tN "UNASSIGNED_STACK" Bundle.steD)) := by decide +kernel
set_option maxRecDepth 100000 in
theorem py3 : cdL[10]? = some (Cond.isRef (.static Bundle.tN "SUPPRESSED_SENTINEL" Bundle.listD)) := by decide +kernel
set_option maxRecDepth 100000 in
theorem pz0 : lw_tbl[553]? = some (Cond.laysStatic "java/lang/String" "COMPACT_STRINGS" "Z") := by decide +kernel
set_option maxRecDepth 100000 in
theorem pz1 : lw_tbl[569]? = some (Cond.laysStatic "jdk/internal/util/Preconditions" "SIOOBE_FORMATTER" "Ljava/util/function/BiFunction;") := by decide +kernel
set_option maxRecDepth 100000 in
theorem pz2 : lw_tbl[1279]? = some (Cond.laysStatic Bundle.tN "UNASSIGNED_STACK" Bundle.steD) := by decide +kernel
set_option maxRecDepth 100000 in
theorem pz3 : lw_tbl[1281]? = some (Cond.laysStatic Bundle.tN "SUPPRESSED_SENTINEL" Bundle.listD) := by decide +kernel
set_option maxRecDepth 100000 in
theorem pz4 : lw_tbl[123]? = some (Cond.initialized "java/lang/String") := by decide +kernel
set_option maxRecDepth 100000 in
theorem pz5 : lw_tbl[125]? = some (Cond.initialized "jdk/internal/util/Preconditions") := by decide +kernel
set_option maxRecDepth 100000 in
theorem pz6 : lw_tbl[131]? = some (Cond.initialized Bundle.tN) := by decide +kernel
set_option maxRecDepth 100000 in
theorem pz7 : lw_tbl[1256]? = some (Cond.declares (Bundle.initS "java/lang/RuntimeException")) := by decide +kernel
set_option maxRecDepth 100000 in
theorem pz8 : lw_tbl[1258]? = some (Cond.declares (Bundle.initS "java/lang/Exception")) := by decide +kernel
set_option maxRecDepth 100000 in
theorem pz9 : lw_tbl[1260]? = some (Cond.declares (Bundle.initS Bundle.tN)) := by decide +kernel
set_option maxRecDepth 100000 in
theorem pz10 : lw_tbl[1254]? = some (Cond.castable nse nse) := by decide +kernel
set_option maxRecDepth 100000 in
theorem pz11 : lw_tbl[1291]? = some (Cond.stringRef RX10 356 "no such gallery") := by decide +kernel
theorem sl_rep : ∀ q ∈ slT, (q.1 = 4 ∧ (tmR.getD q.2.2 ("", 0)) = ("CounterMine$Reader", q.2.1) ∨ q.1 = 12 ∧ (q.2.2, q.2.1) ∈ eqL.map (fun x => (x.1, x.2.1))) ∧ q.2.2 < 13 := by decide +kernel
theorem ve_eqR {args : Array Value} {s : State} {t u : Term} {a : Nat} (h : (Cond.eq t u).before args s = true) (ht : t.eval args s none [] s = some (.ref a)) : u.eval args s none [] s = some (.ref a) := by
  cases hv : u.eval args s none [] s with
  | none => simp [Cond.before, Cond.holds, Cond.value, ht, hv] at h
  | some w =>
    cases w <;> simp [Cond.before, Cond.holds, Cond.value, ht, hv] at h
    rw [h]
def S0_ (z : Nat) (g : Nat → Nat) (b L : Nat) (xs : Nat → Int32) : aH := (fun _ => 99, fun _ => 0, fun _ _ => 0, fun _ _ => 0, fun _ _ => none, z, (g, b, L, xs))
/-- what is left to show: the law's own run over the flat heap ends with 1 -/
def LawOk : Prop := ∀ (z : Nat) (g : Nat → Nat) (b L : Nat) (xs : Nat → Int32), L ≤ 3072 → (∀ i j, i < 13 → j < 13 → g i = g j → i = j) → ∃ S', Amg aCode aML aMb (xtF lx_) 315 0 (pd_ (ea_ [.ref b]) 7) [] (601024, 7293034) (S0_ z g b L xs) = some (some (.int 1), S')
theorem arr_of {s : State} {args : Array Value} {ty : FieldType} (hne : ∀ C, ty ≠ .object C) (h : (Cond.arrayClass ty).before args s = true) : ∃ cA : ClassId, ArrOfT s cA ty ∧ va_RA s cA ty := by
  obtain ⟨c, k, comp, h1, h2, h3⟩ := Cond.arrayClass_spec h
  refine ⟨c, fun n z => ⟨(fun k h => by cases h), k, h2, comp, h3⟩, ?_⟩
  cases ty <;> first | exact h1 | exact absurd rfl (hne _)
theorem clX_get {k : Nat} {q : vw_C} (h : vwCl[k]? = some q) : k < 12 ∧ clX k = q := by
  have hk : k < 12 := (List.getElem?_eq_some_iff.mp h).1
  exact ⟨hk, by unfold clX; rw [List.getD_eq_getElem?_getD, h]; rfl⟩
theorem hts_at {s : State} {args : Array Value} (hts : ∀ w ∈ lw_tbl, w.before args s = true) {i : Nat} {w : Cond} (h : lw_tbl[i]? = some w) : w.before args s = true := hts w (List.mem_of_getElem? h)
set_option maxHeartbeats 4000000 in
set_option maxRecDepth 100000 in
theorem start_env {s : State} {args : Array Value} (hts : ∀ w ∈ lw_tbl, w.before args s = true) (hcd : ∀ w ∈ cdL, w.before args s = true) : ∃ (D : va_G) (cy : Nat → ClassId) (g adV : Nat → Nat), Ev D cy g adV (fun q => s.heap.size ≤ q) s ∧ Ex (fun q => s.heap.size ≤ q) s ∧ ∀ i j, i < 13 → j < 13 → g i = g j → i = j := by
  have hA : ∀ a : Nat, a < s.heap.size → ¬ (fun q : Nat => s.heap.size ≤ q) a := fun a h => Nat.not_le.mpr h
  have htg : ∀ w ∈ wsG, w.before args s = true := fun w h => hts w (wsG_tbl w h)
  have hc : ∀ {i : Nat} {w : Cond}, cdL[i]? = some w → w.before args s = true := fun h => hcd _ (List.mem_of_getElem? h)
  -- classes
  have hkn : ∀ k, ∃ q : ClassId × (Nat → Nat), k < 12 → u_Kn s (clX k).1 (clX k).2.1 (clX k).2.2 q.1 q.2 := by
    intro k
    by_cases hk : k < 12
    · obtain ⟨c, i, h⟩ := u_known (C := (clX k).1) (T := (clX k).2.1) (N := (clX k).2.2) (n := (clX k).2.2) htg (clIn k hk) (htg _ (insW0 _ (List.mem_map.mpr ⟨k, List.mem_range.mpr hk, rfl⟩)))
      exact ⟨(c, i), fun _ => h⟩
    · exact ⟨(0, fun _ => 0), fun h => absurd h hk⟩
  obtain ⟨dq, hdq⟩ := Classical.axiomOfChoice hkn
  -- arrays
  obtain ⟨cI, aI1, aI2⟩ := arr_of (fun C h => by cases h) (htg _ (arrW0 (Cond.arrayClass .int) (by simp)))
  obtain ⟨cJ, aJ1, aJ2⟩ := arr_of (fun C h => by cases h) (htg _ (arrW0 (Cond.arrayClass .long) (by simp)))
  obtain ⟨cZ, aZ1, aZ2⟩ := arr_of (fun C h => by cases h) (htg _ (arrW0 (Cond.arrayClass .boolean) (by simp)))
  obtain ⟨cB, aB1, aB2⟩ := arr_of (fun C h => by cases h) (htg _ (arrW0 (Cond.arrayClass .byte) (by simp)))
  have hAO := hts_at hts aoWt
  obtain ⟨comp, cO, kO, o1, o2, o3, o4, o5⟩ := Cond.arrayOver_spec hAO
  -- strings
  obtain ⟨g, adV, hS, hg⟩ := vk_Sof (N := 13) (tm := tmT) (len := stLenL) (byt := stBytL) (A := fun q => s.heap.size ≤ q) stLen_lt (fun i hi => hc (px0 i hi)) (fun i hi => hc (px1 i hi)) (fun i hi => hc (px2 i hi)) (fun i hi => hc (px3 i hi)) (fun i hi j hj => hc (px4 i hi j hj)) (fun i j hi hj hij => by
      obtain ⟨q, hq, ⟨rfl, rfl⟩ | ⟨rfl, rfl⟩⟩ := px6 i hi j hj hij
      · exact Or.inl (hc (px5 q hq))
      · exact Or.inr (hc (px5 q hq))) hA
  have hstr : ∀ q ∈ slT, vk_R (cnm q.1) q.2.1 (stx q.2.2) (g q.2.2) s := by
    intro q hq
    obtain ⟨hr, h13⟩ := sl_rep q hq
    have hw : (Cond.stringRef (cnm q.1) q.2.1 (stx q.2.2)).before args s = true := by
      have hm : Cond.stringRef (cnm q.1) q.2.1 (stx q.2.2) ∈ slT.map (fun q => Cond.stringRef (cnm q.1) q.2.1 (stx q.2.2)) := List.mem_map.mpr ⟨q, hq, rfl⟩
      rw [slWt] at hm
      obtain ⟨i, -, hi⟩ := List.mem_filterMap.mp hm
      exact hts_at hts hi
    refine vk_R.of hw ?_
    have h0 := hg q.2.2 h13
    rcases hr with ⟨e1, e2⟩ | ⟨e1, e2⟩
    · unfold tmT at h0
      rw [e2] at h0
      rw [e1]
      exact h0
    · obtain ⟨x, hx, ex⟩ := List.mem_map.mp e2
      have e3 : x.1 = q.2.2 := congrArg Prod.fst ex
      have e4 : x.2.1 = q.2.1 := congrArg Prod.snd ex
      have h1 := hc (px7 x hx)
      rw [e3, e4] at h1
      rw [e1]
      exact ve_eqR h1 h0
  have hK : va_K (fun k => (dq k).1, fun k => (dq k).2) vwCl (tysA (fun k => if k = 12 then cB else if k = 13 then cI else if k = 14 then cJ else if k = 15 then cZ else cO)) s := by
    refine ⟨fun k q h => ?_, fun k q h => ?_⟩
    · obtain ⟨hk, e⟩ := clX_get h
      have := hdq k hk
      rw [e] at this
      exact this
    · match k, h with
      | 0, h => cases h; exact ⟨aB1, aB2⟩
      | 1, h => cases h; exact ⟨aI1, aI2⟩
      | 2, h => cases h; exact ⟨aJ1, aJ2⟩
      | 3, h => cases h; exact ⟨aZ1, aZ2⟩
      | 4, h => cases h; exact ⟨fun N z => ⟨(fun k h => by cases h), kO, o3, comp, o4⟩, kO, comp, o3, o4, o1, o5⟩
      | k + 5, h => cases h
  have hN1 : ∀ q ∈ flT, q.2.2.2.2 = 1 → va_Nw (flN q) s := by
    intro q hq h1
    have hm : flN q ∈ (flT.filter (fun q => q.2.2.2.2 == 1)).map flN := List.mem_map.mpr ⟨q, List.mem_filter.mpr ⟨hq, by simpa using h1⟩, rfl⟩
    rw [flNt] at hm
    obtain ⟨i, -, hi⟩ := List.mem_filterMap.mp hm
    exact va_Nw.of rfl (hts_at hts hi)
  have hN2 : ∀ q ∈ mlT, (q.2.2.2 = 3 → va_Nw (mlN "CounterMine" q) s) ∧ (q.2.2.2 = 4 → va_Nw (mlN "CounterMineModel" q) s) := by
    intro q hq
    refine ⟨fun h1 => ?_, fun h1 => ?_⟩
    · have hm : mlN "CounterMine" q ∈ (mlT.filter (fun q => q.2.2.2 == 3)).map (mlN "CounterMine") := List.mem_map.mpr ⟨q, List.mem_filter.mpr ⟨hq, by simpa using h1⟩, rfl⟩
      rw [mlNt3] at hm
      obtain ⟨i, -, hi⟩ := List.mem_filterMap.mp hm
      exact va_Nw.of rfl (hts_at hts hi)
    · have hm : mlN "CounterMineModel" q ∈ (mlT.filter (fun q => q.2.2.2 == 4)).map (mlN "CounterMineModel") := List.mem_map.mpr ⟨q, List.mem_filter.mpr ⟨hq, by simpa using h1⟩, rfl⟩
      rw [mlNt4] at hm
      obtain ⟨i, -, hi⟩ := List.mem_filterMap.mp hm
      exact va_Nw.of rfl (hts_at hts hi)
  refine ⟨_, _, g, adV, ⟨hK, hN1, hN2, va_AO.of hAO, hstr, hS, va_Zof (hts_at hts pz0) (hts_at hts pz4) (va_eqt (hc py0)) hA, va_Zqof (hts_at hts pz1) (hts_at hts pz5) (hc py1) hA⟩, ⟨va_Nw.of rfl (hts_at hts pz7), va_Nw.of rfl (hts_at hts pz8), va_Nw.of rfl (hts_at hts pz9), va_Nw.of rfl (hts_at hts pz10), vx_Zqof (hts_at hts pz2) (hts_at hts pz6) (hc py2) hA, vx_Zqof (hts_at hts pz3) (hts_at hts pz6) (hc py3) hA, g 12, vk_R.of (hts_at hts pz11) (hg 12 (by decide))⟩, hS.2⟩
