/-! the environment of a call, its contract -/
def stLenL : List Nat := stxL.map (fun s => s.toList.length)
def stBytL : List (List Int32) := stxL.map (fun s => s.toList.map (fun c => Int32.ofNat c.toNat))
def Ev (D : va_G) (cy : Nat → ClassId) (g adV : Nat → Nat) (A : Nat → Prop) (U : State) : Prop :=
  va_K D vwCl (tysA cy) U ∧ (∀ q ∈ flT, q.2.2.2.2 = 1 → va_Nw (flN q) U) ∧ (∀ q ∈ mlT, (q.2.2.2 = 3 → va_Nw (mlN "CounterMine" q) U) ∧ (q.2.2.2 = 4 → va_Nw (mlN "CounterMineModel" q) U)) ∧ va_AO RX9 U ∧ (∀ q ∈ slT, vk_R (cnm q.1) q.2.1 (stx q.2.2) (g q.2.2) U) ∧ vk_S 13 stLenL stBytL g adV A U U.heap ∧ va_Z "java/lang/String" "COMPACT_STRINGS" "Z" (.int 1) A U U.heap ∧ va_Zq "jdk/internal/util/Preconditions" "SIOOBE_FORMATTER" "Ljava/util/function/BiFunction;" A U U.heap
theorem Ev.call {D : va_G} {cy : Nat → ClassId} {g adV : Nat → Nat} {A A1 : Nat → Prop} {s U : State} {H : Heap} {locs : List Loc} (h : Ev D cy g adV A s) (hS : va_S A s.heap H locs) (hA : ∀ q, A1 q → A q) (hU : U.heap = H) (hw : s.WarmedH U.vm) : Ev D cy g adV A1 U := by
  obtain ⟨h1, h2, h3, h4, h5, h6, h7, h8⟩ := h
  refine ⟨va_K.moved hw.alike h1, fun q hq hn => va_Nw.warmF hw (h2 q hq hn), fun q hq => ⟨fun hn => va_Nw.warmM hw ((h3 q hq).1 hn), fun hn => va_Nw.warmM hw ((h3 q hq).2 hn)⟩, va_AO.moved hw.alike h4, fun q hq => vk_R.warm hw (h5 q hq), ?_, ?_, ?_⟩
  · rw [hU]; exact (vk_S.moved hw.alike (h6.kept hS.2.1)).narrow hA
  · rw [hU]; exact (va_Z.moved hw.alike (h7.kept hS.2.1)).narrow hA
  · rw [hU]; exact (va_Zq.moved hw.alike (h8.kept hS.2.1)).narrow hA
theorem Ev.same {D : va_G} {cy : Nat → ClassId} {g adV : Nat → Nat} {A : Nat → Prop} {u U : State} (hv : U.vm = u.vm) (hh : U.heap = u.heap) (h : Ev D cy g adV A u) : Ev D cy g adV A U := by
  obtain ⟨h1, h2, h3, h4, h5, h6, h7, h8⟩ := h
  have hal : u.vm.Alike U.vm := by rw [hv]; exact Vm.Alike.refl _
  refine ⟨va_K.moved hal h1, fun q hq hn => va_Nw.same rfl hv.symm (h2 q hq hn), fun q hq => ⟨fun hn => va_Nw.same rfl hv.symm ((h3 q hq).1 hn), fun hn => va_Nw.same rfl hv.symm ((h3 q hq).2 hn)⟩, va_AO.moved hal h4, fun q hq => vk_R.same hv (h5 q hq), ?_, ?_, ?_⟩
  · rw [hh]; exact vk_S.moved hal h6
  · rw [hh]; exact va_Z.moved hal h7
  · rw [hh]; exact va_Zq.moved hal h8
def A_of (S : aH) : Nat → Prop := fun q => aK S q < 17 ∨ aZ S ≤ q
abbrev aEt : Type := (Nat → Nat) × Nat × Nat × (Nat → Int32)
def PreX (D : va_G) (cy : Nat → ClassId) (adV : Nat → Nat) (E : aEt) (S : aH) (U : State) : Prop := Wd D cy (fun _ => True) S U.heap ∧ Ev D cy E.1 adV (A_of S) U ∧ aE S = E
def PostX (D : va_G) (cy : Nat → ClassId) (E : aEt) (A : Nat → Prop) (v : Option Value) (S' : aH) : Array Value → State → Outcome → State → Prop := match v with
  | none => va_Qv (fun u : aH => u = S') (fun u t => Wd D cy A u t.heap ∧ aE u = E) A
  | some (.int x) => va_Qi (fun r (u : aH) => r = x ∧ u = S') (fun u t => Wd D cy A u t.heap ∧ aE u = E) A
  | some (.long x) => va_Ql (fun r (u : aH) => r = x ∧ u = S') (fun u t => Wd D cy A u t.heap ∧ aE u = E) A
  | _ => fun _ _ _ _ => False
def rmX (t : aMt) : Room := { frames := tF t, cells := (tM t).1, slots := (tM t).2, locals := tW t }
def wsX (t : aMt) : List Cond := Cond.code (tY t) (tB t) (tL t) (tR t) :: wsG
def MetX (l : Launch) (D : va_G) (cy : Nat → ClassId) (adV : Nat → Nat) (E : aEt) (t : aMt) (as : List Value) (S : aH) (v : Option Value) (S' : aH) : Prop :=
  Met l (tY t) (wsX t) (rmX t) (va_Pc as (PreX D cy adV E S)) (PostX D cy E (A_of S) v S') (tM t).1 (tM t).2 (A_of S)
theorem PreX.blind {D : va_G} {cy : Nat → ClassId} {adV : Nat → Nat} {E : aEt} {S : aH} {as : List Value} : FrameBlind (va_Pc as (PreX D cy adV E S)) := by
  intro a U gf mk h
  obtain ⟨h0, h1, h2, h3⟩ := h
  exact ⟨h0, h1, Ev.same (u := U) (U := U.calling gf mk a) rfl rfl h2, h3⟩
-- shapes of what the machine asks
theorem pI_some {st : List Value} {f : Int32 → List Value → aO} {q : Option Value × aH} (h : pI st f = some q) : ∃ x r, st = .int x :: r ∧ f x r = some q := by
  unfold pI at h; split at h
  · exact ⟨_, _, rfl, h⟩
  · cases h
theorem pJ_some {st : List Value} {f : Int64 → List Value → aO} {q : Option Value × aH} (h : pJ st f = some q) : ∃ x r, st = .long x :: r ∧ f x r = some q := by
  unfold pJ at h; split at h
  · exact ⟨_, _, rfl, h⟩
  · cases h
theorem pR_some {st : List Value} {f : Nat → List Value → aO} {q : Option Value × aH} (h : pR st f = some q) : ∃ x r, st = .ref x :: r ∧ f x r = some q := by
  unfold pR at h; split at h
  · exact ⟨_, _, rfl, h⟩
  · cases h
theorem lI_some {v : Option Value} {f : Int32 → aO} {q : Option Value × aH} (h : lI v f = some q) : ∃ x, v = some (.int x) ∧ f x = some q := by
  unfold lI at h; split at h
  · exact ⟨_, rfl, h⟩
  · cases h
theorem lJ_some {v : Option Value} {f : Int64 → aO} {q : Option Value × aH} (h : lJ v f = some q) : ∃ x, v = some (.long x) ∧ f x = some q := by
  unfold lJ at h; split at h
  · exact ⟨_, rfl, h⟩
  · cases h
theorem lR_some {v : Option Value} {f : Nat → aO} {q : Option Value × aH} (h : lR v f = some q) : ∃ x, v = some (.ref x) ∧ f x = some q := by
  unfold lR at h; split at h
  · exact ⟨_, rfl, h⟩
  · cases h
theorem nR_some {v : Option Nat} {f : Nat → aO} {q : Option Value × aH} (h : nR v f = some q) : ∃ x, v = some x ∧ f x = some q := by
  unfold nR at h; split at h
  · exact ⟨_, rfl, h⟩
  · cases h
theorem gd_some {c : Prop} [Decidable c] {x : aO} {q : Option Value × aH} (h : gd c x = some q) : c ∧ x = some q := by
  unfold gd at h; split at h
  · exact ⟨‹_›, h⟩
  · cases h
theorem bo_some {c : Bool} {x : aO} {q : Option Value × aH} (h : bo_ c x = some q) : c = true ∧ x = some q := by
  cases c
  · cases h
  · exact ⟨rfl, h⟩
theorem tk_some {f : List Value → List Value → aO} {q : Option Value × aH} : ∀ (v : Nat) (acc st : List Value), tk_ v acc st f = some q → ∃ xs r, st = xs ++ r ∧ xs.length = v ∧ f (xs.reverse ++ acc) r = some q
  | 0, acc, st, h => ⟨[], st, rfl, rfl, h⟩
  | v + 1, acc, [], h => by cases h
  | v + 1, acc, x :: st, h => by
    obtain ⟨xs, r, e1, e2, e3⟩ := tk_some v (x :: acc) st h
    refine ⟨x :: xs, r, by rw [e1]; rfl, by simp [e2], ?_⟩
    rw [List.reverse_cons, List.append_assoc]; exact e3
theorem cl_some {w : Nat} {y : aO} {r : List Value} {K : List Value → aH → aO} {q : Option Value × aH} (h : cl_ w y r K = some q) : ∃ v S', y = some (v, S') ∧ (v = none ∨ (∃ x, v = some (.int x)) ∨ ∃ x, v = some (.long x)) ∧ K (v.toList ++ r) S' = some q := by
  unfold cl_ at h; split at h
  · unfold cV at h; split at h
    · exact ⟨none, _, rfl, Or.inl rfl, h⟩
    · cases h
  · unfold cI at h; split at h
    · exact ⟨some (.int _), _, rfl, Or.inr (Or.inl ⟨_, rfl⟩), h⟩
    · cases h
  · unfold cJ at h; split at h
    · exact ⟨some (.long _), _, rfl, Or.inr (Or.inr ⟨_, rfl⟩), h⟩
    · cases h
theorem cs_sum : ∀ r : List Value, cs_ r = (r.map fun v => v.category).sum
  | [] => rfl
  | v :: r => by simp [cs_, cs_sum r]
/-- the locals -/
def lh (Lc : Array Slot) (nL : Nat) (ls : aL) : Prop := ∃ lv : List (Nat × Value), lv_has Lc nL lv ∧ ∀ i v, lg_ ls i = some v → (i, v) ∈ lv
theorem lh.at {Lc : Array Slot} {nL : Nat} {ls : aL} (h : lh Lc nL ls) {i : Nat} {v : Value} (hv : lg_ ls i = some v) : Lc[i]? = some (.val v) := by
  obtain ⟨lv, h1, h2⟩ := h
  exact h1.2.2 (i, v) (h2 i v hv)
theorem lh.size {Lc : Array Slot} {nL : Nat} {ls : aL} (h : lh Lc nL ls) : Lc.size = nL := by
  obtain ⟨lv, h1, h2⟩ := h
  exact h1.1
theorem lg_ls : ∀ (ls : aL) (i : Nat) (x : Option Value) (j : Nat) (v : Value), lg_ (ls_ ls i x) j = some v → (j = i ∧ x = some v) ∨ (j ≠ i ∧ lg_ ls j = some v)
  | [], i, x, j, v, h => by simp [ls_, lg_] at h
  | y :: t, 0, x, 0, v, h => by simp [ls_, lg_] at h; exact Or.inl ⟨rfl, h⟩
  | y :: t, 0, x, j + 1, v, h => by simp [ls_, lg_] at h; exact Or.inr ⟨by omega, by simpa [lg_] using h⟩
  | y :: t, i + 1, x, 0, v, h => by simp [ls_, lg_] at h; exact Or.inr ⟨by omega, by simpa [lg_] using h⟩
  | y :: t, i + 1, x, j + 1, v, h => by
    simp only [ls_, lg_] at h
    rcases lg_ls t i x j v h with ⟨a, b⟩ | ⟨a, b⟩
    · exact Or.inl ⟨by omega, b⟩
    · exact Or.inr ⟨by omega, by simpa [lg_] using b⟩
theorem nl_cat {x : Option Value} {v : Value} (h : nl_ x = some v) : x = some v ∧ ¬ v.category = 2 := by
  unfold nl_ at h; split at h
  · cases h
  · cases h
  · subst h
    refine ⟨rfl, ?_⟩
    cases v <;> simp_all [Value.category]
theorem lgst_ {ls : aL} {i j : Nat} {v w : Value} (h : lg_ (st_ ls i v) j = some w) : (j = i ∧ w = v) ∨ (j ≠ i ∧ lg_ ls j = some w ∧ ¬ (j + 1 = i ∧ w.category = 2)) := by
  cases i with
  | zero =>
    rcases lg_ls ls 0 (some v) j w h with ⟨a, b⟩ | ⟨a, b⟩
    · exact Or.inl ⟨a, (Option.some.inj b).symm⟩
    · exact Or.inr ⟨a, b, fun q => by omega⟩
  | succ i =>
    rcases lg_ls _ i _ j w h with ⟨a, b⟩ | ⟨a, b⟩
    · obtain ⟨c1, c2⟩ := nl_cat b
      subst a
      exact Or.inr ⟨by omega, c1, fun q => c2 q.2⟩
    · rcases lg_ls ls (i + 1) (some v) j w b with ⟨a', b'⟩ | ⟨a', b'⟩
      · exact Or.inl ⟨a', (Option.some.inj b').symm⟩
      · exact Or.inr ⟨a', b', fun q => by omega⟩
theorem lg_sl_ {ls : aL} {i j : Nat} {v w : Value} (h : lg_ (sl_ ls i v) j = some w) : (j = i ∧ w = v) ∨ (j ≠ i ∧ j ≠ i + 1 ∧ lg_ ls j = some w ∧ ¬ (j + 1 = i ∧ w.category = 2)) := by
  unfold sl_ at h
  rcases lg_ls _ (i + 1) none j w h with ⟨a, b⟩ | ⟨a, b⟩
  · cases b
  · rcases lgst_ b with ⟨c1, c2⟩ | ⟨c1, c2, c3⟩
    · exact Or.inl ⟨c1, c2⟩
    · exact Or.inr ⟨c1, a, c2, c3⟩
theorem lg_mk : ∀ (m : List (Int32 × Nat)) (ls : aL) (j : Nat) (v : Value), lg_ (mk_ m ls) j = some v → lg_ ls j = some v
  | [], ls, j, v, h => by simp [mk_, lg_] at h
  | (_, 0) :: m, [], j, v, h => by simp [mk_, lg_] at h
  | (_, n + 1) :: m, [], j, v, h => by simp [mk_, lg_] at h
  | (_, 0) :: m, x :: t, 0, v, h => by simp [mk_, lg_] at h
  | (_, 0) :: m, x :: t, j + 1, v, h => by simp only [mk_, lg_] at h ⊢; exact lg_mk m t j v h
  | (_, n + 1) :: m, x :: t, 0, v, h => by simpa [mk_, lg_] using h
  | (_, n + 1) :: m, x :: t, j + 1, v, h => by simp only [mk_, lg_] at h ⊢; exact lg_mk m t j v h
theorem lh.st {Lc : Array Slot} {nL : Nat} {ls : aL} {lv : List (Nat × Value)} (h2 : ∀ i v, lg_ ls i = some v → (i, v) ∈ lv) {Lc' : Array Slot} {i : Nat} {v : Value} (h : lv_has Lc' nL ((i, v) :: lv.filter (fun q => !(q.1 == i) && !(q.1 + 1 == i && q.2.category == 2)))) : lh Lc' nL (st_ ls i v) := by
  refine ⟨_, h, fun j w hw => ?_⟩
  rcases lgst_ hw with ⟨rfl, rfl⟩ | ⟨a, b, d⟩
  · exact List.mem_cons_self
  · refine List.mem_cons_of_mem _ (List.mem_filter.mpr ⟨h2 j w b, ?_⟩)
    by_cases h1 : j + 1 = i
    · have : ¬ w.category = 2 := fun q => d ⟨h1, q⟩
      simp [a, this]
    · simp [a, h1]
theorem lh.sl {Lc : Array Slot} {nL : Nat} {ls : aL} {lv : List (Nat × Value)} (h2 : ∀ i v, lg_ ls i = some v → (i, v) ∈ lv) {Lc' : Array Slot} {i : Nat} {v : Value} (h : lv_has Lc' nL ((i, v) :: lv.filter (fun q => !(q.1 == i) && (!(q.1 == i + 1) && !(q.1 + 1 == i && q.2.category == 2))))) : lh Lc' nL (sl_ ls i v) := by
  refine ⟨_, h, fun j w hw => ?_⟩
  rcases lg_sl_ hw with ⟨rfl, rfl⟩ | ⟨a, a2, b, d⟩
  · exact List.mem_cons_self
  · refine List.mem_cons_of_mem _ (List.mem_filter.mpr ⟨h2 j w b, ?_⟩)
    by_cases h1 : j + 1 = i
    · have : ¬ w.category = 2 := fun q => d ⟨h1, q⟩
      simp [a, a2, this]
    · simp [a, a2, h1]
theorem lh.mk {Lc : Array Slot} {nL : Nat} {ls : aL} (m : List (Int32 × Nat)) (h : lh Lc nL ls) : lh Lc nL (mk_ m ls) := by
  obtain ⟨lv, h1, h2⟩ := h
  exact ⟨lv, h1, fun i v hv => h2 i v (lg_mk m ls i v hv)⟩
