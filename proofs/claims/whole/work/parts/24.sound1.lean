/-! every run of the abstract machine is a run of the machine -/
def strNo (g : Nat → Nat) (a : Nat) : Option Nat := (List.range 13).find? (fun n => g n == a)
def xtF (lx : List Value → aH → aO) : aC := fun u as S => match u with
  | 900 => (match as with
    | [.int x] => some (some (.int (if 0 ≤ x then x else 0 - x)), S)
    | _ => none)
  | 901 => (match as with
    | [.int x, .int y] => some (some (.int (if x < y then y else x)), S)
    | _ => none)
  | 902 => (match as with
    | [.int x, .int y] => some (some (.int (if y < x then y else x)), S)
    | _ => none)
  | 903 => (match as with
    | [.ref a] => nR (strNo (aG S) a) fun n => some (some (.int (Int32.ofNat (stLenL.getD n 0))), S)
    | _ => none)
  | 904 => (match as with
    | [.ref a, .int i] => nR (strNo (aG S) a) fun n => gd (ix_ i (stLenL.getD n 0)) (some (some (.int ((stBytL.getD n []).getD i.toNatClampNeg 0)), S))
    | _ => none)
  | 905 => lx as S
  | _ => none
def aCode (id : Nat) : List aM := tC (mGx id)
def aML (id : Nat) : Nat := tL (mGx id)
def aMb (id : Nat) : aB := tM (mGx id)
/-- what a method's frame stands on -/
def Cx (l : Launch) (D : va_G) (cy : Nat → ClassId) (adV : Nat → Nat) (E : aEt) (t : aMt) (p : Program) (R : Room) (s : State) (m : MethodId) (args : Array Value) (meth : Method) (c : Code) (A : Nat → Prop) : Prop :=
  p.tables.exec = Jvm.exec ∧ c.code = tB t ∧ c.maxLocals = tL t ∧ s.vm.findClass (cnm (tO t)) = some m.cls ∧ (∀ w ∈ wsG, w.before args s = true) ∧ ((tY t).name = "<init>" → meth.name = "<init>") ∧ Ev D cy E.1 adV A s ∧ (∀ q, s.heap.size ≤ q → A q) ∧ tF t ≤ R.frames ∧ tW t ≤ R.locals ∧ (tO t = 14 → va_X E.2.1 E.2.2.1 E.2.2.2 s s.heap ∧ E.2.1 < s.heap.size ∧ (¬ A E.2.1) ∧ Ex A s)
/-- the end of a frame, whoever asks -/
def Rt (l : Launch) (D : va_G) (cy : Nat → ClassId) (E : aEt) (t : aMt) (p : Program) (e : Env) (R : Room) (s : State) (m : MethodId) (args : Array Value) (below : List Frame) (meth : Method) (c : Code) (A : Nat → Prop) (Q : State → Prop) (v : Option Value) (S' : aH) : Prop :=
  ∀ (pc : Nat) (Lc : Array Slot) (H : Heap) (locs : List Loc) (cu su : Nat), cu ≤ R.cells → su ≤ R.slots → Lc.size = tL t → Wd D cy A S' H → aE S' = E → va_S A s.heap H locs →
    (v = none → tR t = none ∧ decode (tB t) pc = .ok (.return_, 1)) → (∀ x, v = some (.int x) → (tR t = some .int ∨ tR t = some .boolean ∧ (x = 0 ∨ x = 1)) ∧ decode (tB t) pc = .ok (.ireturn, 1)) → (∀ x, v = some (.long x) → tR t = some .long ∧ decode (tB t) pc = .ok (.lreturn, 1)) →
    (v = some (.retAddr 7) → (∃ k i, cg_ (tC t) k = some i ∧ i.1 = .nop ∧ i.2.1.1 = 7 ∧ pc = tP t k) ∧ cu + 1 ≤ R.cells ∧ su + 6 ≤ R.slots) → (v = none ∨ (∃ x, v = some (.int x)) ∨ (∃ x, v = some (.long x)) ∨ v = some (.retAddr 7)) → W p l e R s m args below meth c H locs cu su Q (F0 m pc Lc (if v = some (.retAddr 7) then [] else v.toList))
/-- what is called by hand -/
def Xs (l : Launch) (D : va_G) (cy : Nat → ClassId) (adV : Nat → Nat) (E : aEt) (lx : List Value → aH → aO) (u : Nat) : Prop :=
  ∀ (t : aMt) (p : Program) (e : Env) (R : Room) (s : State) (m : MethodId) (args : Array Value) (below : List Frame) (meth : Method) (c : Code) (A : Nat → Prop) (Q : State → Prop) (as rest : List Value) (S S' : aH) (v : Option Value) (H : Heap) (locs : List Loc) (cu su pc x : Nat) (Lc : Array Slot),
    Cx l D cy adV E t p R s m args meth c A → xtF lx u as S = some (v, S') → aE S = E → (tO t, x, u, (if u = 905 then 1 else 0)) ∈ mlT → (xF u).1 ≤ tF t → (xF u).2 ≤ tW t → (u = 905 → cu + 1 ≤ R.cells ∧ su + 6 ≤ R.slots) → cu ≤ R.cells → su ≤ R.slots → Lc.size = tL t → (rest.map fun v => v.category).sum ≤ 8 → Wd D cy A S H → va_S A s.heap H locs →
    decode (tB t) pc = .ok ((if u = 905 then Instr.invokestatic x else Instr.invokevirtual x), 3) →
    (∀ (H1 : Heap) (locs1 : List Loc), Wd D cy A S' H1 → aE S' = E → va_S A s.heap H1 locs1 → W p l e R s m args below meth c H1 locs1 (cu + (if u = 905 then 1 else 0)) (su + (if u = 905 then 6 else 0)) Q (F0 m (pc + 3) Lc (v.toList ++ rest))) →
    W p l e R s m args below meth c H locs cu su Q (F0 m pc Lc (as.reverse ++ rest))
/-- all runs of n steps -/
def Bd (l : Launch) (D : va_G) (cy : Nat → ClassId) (adV : Nat → Nat) (E : aEt) (lx : List Value → aH → aO) (n : Nat) : Prop :=
  ∀ (id : Nat), id < 317 → ∀ (p : Program) (e : Env) (R : Room) (s : State) (m : MethodId) (args : Array Value) (below : List Frame) (meth : Method) (c : Code) (A : Nat → Prop) (Q : State → Prop) (v : Option Value) (S' : aH),
    Cx l D cy adV E (mGx id) p R s m args meth c A → Rt l D cy E (mGx id) p e R s m args below meth c A Q v S' →
    ∀ (k : Nat) (ls : aL) (st : List Value) (b : aB) (S : aH) (H : Heap) (locs : List Loc) (cu su : Nat) (Lc : Array Slot),
      am aCode aML aMb (xtF lx) n id k ls st b S = some (v, S') → lh Lc (tL (mGx id)) ls → Wd D cy A S H → va_S A s.heap H locs → aE S = E → cu + b.1 ≤ R.cells → su + b.2 ≤ R.slots →
      W p l e R s m args below meth c H locs cu su Q (F0 m (tP (mGx id) k) Lc st)
theorem ea_lh : ∀ (vs : List Value) (o n i : Nat) (v : Value), lg_ (pd_ (ea_ vs) n) i = some v → (o + i, v) ∈ lv_args o vs
  | [], o, n, i, v, h => by
    exfalso
    have key : ∀ (n i : Nat), lg_ (List.replicate n none) i = none := by
      intro n
      induction n with
      | zero => intro i; rfl
      | succ n ih => intro i; cases i with
        | zero => rfl
        | succ i => exact ih i
    simp only [ea_, pd_] at h
    rw [key] at h; cases h
  | .long x :: t, o, n, 0, v, h => by simp [ea_, pd_, lg_] at h; subst h; simp [lv_args]
  | .long x :: t, o, n, 1, v, h => by simp [ea_, pd_, lg_] at h
  | .long x :: t, o, n, i + 2, v, h => by
    simp only [ea_, pd_, lg_] at h
    have := ea_lh t (o + 2) _ i v h
    simp only [lv_args, Value.category]
    rw [show o + (i + 2) = o + 2 + i by omega]
    exact List.mem_cons_of_mem _ this
  | .int x :: t, o, n, 0, v, h => by simp [ea_, pd_, lg_] at h; subst h; simp [lv_args]
  | .int x :: t, o, n, i + 1, v, h => by
    simp only [ea_, pd_, lg_] at h
    have := ea_lh t (o + 1) _ i v h
    simp only [lv_args, Value.category]
    rw [show o + (i + 1) = o + 1 + i by omega]
    exact List.mem_cons_of_mem _ this
  | .ref x :: t, o, n, 0, v, h => by simp [ea_, pd_, lg_] at h; subst h; simp [lv_args]
  | .ref x :: t, o, n, i + 1, v, h => by
    simp only [ea_, pd_, lg_] at h
    have := ea_lh t (o + 1) _ i v h
    simp only [lv_args, Value.category]
    rw [show o + (i + 1) = o + 1 + i by omega]
    exact List.mem_cons_of_mem _ this
  | .null :: t, o, n, 0, v, h => by simp [ea_, pd_, lg_] at h; subst h; simp [lv_args]
  | .null :: t, o, n, i + 1, v, h => by
    simp only [ea_, pd_, lg_] at h
    have := ea_lh t (o + 1) _ i v h
    simp only [lv_args, Value.category]
    rw [show o + (i + 1) = o + 1 + i by omega]
    exact List.mem_cons_of_mem _ this
  | .float x :: t, o, n, 0, v, h => by simp [ea_, pd_, lg_] at h; subst h; simp [lv_args]
  | .float x :: t, o, n, i + 1, v, h => by
    simp only [ea_, pd_, lg_] at h
    have := ea_lh t (o + 1) _ i v h
    simp only [lv_args, Value.category]
    rw [show o + (i + 1) = o + 1 + i by omega]
    exact List.mem_cons_of_mem _ this
  | .retAddr x :: t, o, n, 0, v, h => by simp [ea_, pd_, lg_] at h; subst h; simp [lv_args]
  | .retAddr x :: t, o, n, i + 1, v, h => by
    simp only [ea_, pd_, lg_] at h
    have := ea_lh t (o + 1) _ i v h
    simp only [lv_args, Value.category]
    rw [show o + (i + 1) = o + 1 + i by omega]
    exact List.mem_cons_of_mem _ this
  | .double x :: t, o, n, 0, v, h => by simp [ea_, pd_, lg_] at h
  | .double x :: t, o, n, 1, v, h => by simp [ea_, pd_, lg_] at h
  | .double x :: t, o, n, i + 2, v, h => by
    simp only [ea_, pd_, lg_] at h
    have := ea_lh t (o + 2) _ i v h
    simp only [lv_args, Value.category]
    rw [show o + (i + 2) = o + 2 + i by omega]
    exact List.mem_cons_of_mem _ this
theorem lg_sl_len : ∀ vs : List Value, (lg_sl vs).length = cs_ vs
  | [] => rfl
  | v :: t => by
    have h := lg_sl_len t
    rcases lv_cat v with hc | hc
    · simp only [lg_sl, List.flatMap_cons, hc, List.length_append, cs_]
      simp only [lg_sl] at h
      simp [h]
    · simp only [lg_sl, List.flatMap_cons, hc, List.length_append, cs_]
      simp only [lg_sl] at h
      simp [h]
/-- a contract out of the runs -/
theorem met_of {l : Launch} {D : va_G} {cy : Nat → ClassId} {adV : Nat → Nat} {E : aEt} {lx : List Value → aH → aO} {n id : Nat} (hB : Bd l D cy adV E lx n) (hid : id < 317) (h14 : tO (mGx id) ≠ 14) {as : List Value} {S S' : aH} {v : Option Value} (hcs : cs_ as ≤ tL (mGx id)) (hv : v = none ∨ (∃ x, v = some (.int x)) ∨ ∃ x, v = some (.long x)) (h : am aCode aML aMb (xtF lx) n id 0 (pd_ (ea_ as) (aML id)) [] (aMb id) S = some (v, S')) (h0 : tP (mGx id) 0 = 0) : MetX l D cy adV E (mGx id) as S v S' := by
  have hck := mGx_ok hid
  unfold chkT at hck
  simp only [Bool.and_eq_true, decide_eq_true_eq] at hck
  obtain ⟨⟨⟨⟨hpl, hcn⟩, har⟩, hmh⟩, hcl⟩ := hck
  refine Met.ofW (cc := tB (mGx id)) (maxL := tL (mGx id)) (ret := tR (mGx id)) hpl rfl ?_
  intro p e s m args below meth c s₁ B hml hv0
  obtain ⟨rfl, hWd, hE, hEe⟩ := hv0
  have hts := atoms_spec (ws := wsX (mGx id)) B.pre
  have hown : s.vm.findClass (tY (mGx id)).cls = some m.cls := findClass_of_methodNamed B.named
  have hr := B.returns
  have hb := B.bytes
  have hx := B.exec
  have hlocks := B.notSynchronized
  obtain ⟨L, w1, w2, w3, w4⟩ := hWd
  have hW : Wd D cy (A_of S) S s.heap := ⟨L, w1, w2, ⟨w3.1, fun k q hq => by
    obtain ⟨a, ha, he⟩ := List.mem_map.mp (List.mem_of_getElem? hq)
    rw [← he]
    exact Or.inl ((w1 a).mp ha)⟩, w4⟩
  have hS0 : va_S (A_of S) s.heap s.heap [] := va_S.rf
  have hlv := lv_entry as (n := tL (mGx id)) (by rw [lg_sl_len]; exact hcs)
  rw [lg_entry_eq]
  have hcx : Cx l D cy adV E (mGx id) p (rmX (mGx id)) s m as.toArray meth c (A_of S) := ⟨hx, hb, hml, by rw [← hcn]; exact hown, fun w hw => hts w (List.mem_cons_of_mem _ hw), fun hn => (name_of_methodNamed B.named B.method).1.trans hn, hE, fun q hq => Or.inr (by rw [← w4]; exact hq), Nat.le_refl _, Nat.le_refl _, fun q => absurd q h14⟩
  have key := hB id hid p e (rmX (mGx id)) s m as.toArray below meth c (A_of S) (MQ below (PostX D cy E (A_of S) v S') as.toArray s (tM (mGx id)).1 (tM (mGx id)).2 (A_of S)) v S' hcx ?_ 0 (pd_ (ea_ as) (aML id)) [] (aMb id) S s.heap [] 0 0 _ h ⟨_, hlv, fun i w hw => by have := ea_lh as 0 _ i w hw; rwa [Nat.zero_add] at this⟩ hW hS0 hEe (by rw [Nat.zero_add]; exact Nat.le_refl _) (by rw [Nat.zero_add]; exact Nat.le_refl _)
  · rw [h0] at key; exact key
  · intro pc Lc H locs cu su hcu hsu hLc hWe hEe' hSe q0 q1 q2 q3 hvv
    refine W.widen (k := (tM (mGx id)).1) (n := (tM (mGx id)).2) hcu hsu ?_
    rcases hv with rfl | ⟨x, rfl⟩ | ⟨x, rfl⟩
    · obtain ⟨r0, r1⟩ := q0 rfl
      exact W.vret hx hb (by rw [hr, r0]) (fun t ht hW9 => ⟨⟨S', rfl, rfl, by rw [ht]; exact hWe, hEe'⟩, hSe.F ht⟩) hSe.2.2 r1
    · obtain ⟨r0, r1⟩ := q1 x rfl
      rcases r0 with r0 | ⟨r0, r01⟩
      · exact W.iret (v := x) hx hb (by rw [hr, r0]) (fun t ht hW9 => ⟨⟨x, S', rfl, ⟨rfl, rfl⟩, by rw [ht]; exact hWe, hEe'⟩, hSe.F ht⟩) hSe.2.2 r1
      · exact W.zret (v := x) (ty := .boolean) hx hb (by rw [hr, r0]) (by rcases r01 with rfl | rfl <;> rfl) (fun t ht hW9 => ⟨⟨x, S', rfl, ⟨rfl, rfl⟩, by rw [ht]; exact hWe, hEe'⟩, hSe.F ht⟩) hSe.2.2 r1
    · obtain ⟨r0, r1⟩ := q2 x rfl
      exact W.lret (v := x) hx hb (by rw [hr, r0]) (fun t ht hW9 => ⟨⟨x, S', rfl, ⟨rfl, rfl⟩, by rw [ht]; exact hWe, hEe'⟩, hSe.F ht⟩) hSe.2.2 r1
