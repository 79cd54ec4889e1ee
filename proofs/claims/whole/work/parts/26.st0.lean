/-! one step -/
theorem chkL_get (t : aMt) : ∀ (l : List aM) (k0 k : Nat) (i : aM), chkL t k0 l = true → cg_ l k = some i → chk t (k0 + k) i = true
  | [], k0, k, i, h, hi => by simp [cg_] at hi
  | x :: r, k0, 0, i, h, hi => by
    simp [cg_] at hi; subst hi
    simp only [chkL, Bool.and_eq_true] at h
    exact h.1
  | x :: r, k0, k + 1, i, h, hi => by
    simp only [chkL, Bool.and_eq_true] at h
    have := chkL_get t r (k0 + 1) k i h.2 (by simpa [cg_] using hi)
    rw [show k0 + (k + 1) = k0 + 1 + k by omega]; exact this
theorem gt_cases {f : Option Nat} {w : Nat} (h : gtT f w = true) : ∃ ty, f = some ty ∧ ((ty = 0 ∨ ty = 4) ∧ w = 0 ∨ ty = 1 ∧ w = 1 ∨ ty = 2 ∧ (w = 2 ∨ w = 3)) := by
  unfold gtT at h; split at h <;> simp at h
  · exact ⟨0, rfl, Or.inl ⟨Or.inl rfl, h⟩⟩
  · exact ⟨4, rfl, Or.inl ⟨Or.inr rfl, h⟩⟩
  · exact ⟨1, rfl, Or.inr (Or.inl ⟨rfl, h⟩)⟩
  · exact ⟨2, rfl, Or.inr (Or.inr ⟨rfl, h⟩)⟩
theorem pt_cases {f : Option Nat} {w : Nat} (h : ptT f w = true) : ∃ ty, f = some ty ∧ (ty = 0 ∧ w = 0 ∨ ty = 4 ∧ w = 4 ∨ ty = 1 ∧ w = 1 ∨ ty = 2 ∧ w = 2) := by
  unfold ptT at h; split at h <;> simp at h
  · exact ⟨0, rfl, Or.inl ⟨rfl, h⟩⟩
  · exact ⟨4, rfl, Or.inr (Or.inl ⟨rfl, h⟩)⟩
  · exact ⟨1, rfl, Or.inr (Or.inr (Or.inl ⟨rfl, h⟩))⟩
  · exact ⟨2, rfl, Or.inr (Or.inr (Or.inr ⟨rfl, h⟩))⟩
theorem ty_of {u v ty : Nat} (hu : u < 12) (hv : v < (clX u).2.2) (h : (fT u)[v]? = some ty) : (ty = 0 → clTy u v = .int) ∧ (ty = 4 → clTy u v = .boolean) ∧ (ty = 1 → clTy u v = .long) ∧ (ty = 2 → (∃ n, clTy u v = .object n) ∨ ∃ n, clTy u v = .array n) := by
  obtain ⟨t1, t2, t3, t4, t5, t6⟩ := clTy_cd u hu v hv
  rw [h] at t1
  have t1 := Option.some.inj t1
  generalize clTy u v = q at t1 t2 t3 t4 t5 t6
  refine ⟨fun e => ?_, fun e => ?_, fun e => ?_, fun e => ?_⟩ <;> subst e <;> cases q <;> first | rfl | exact Or.inl ⟨_, rfl⟩ | exact Or.inr ⟨_, rfl⟩ | exact absurd rfl t2 | exact absurd rfl t3 | exact absurd rfl t4 | exact absurd rfl t5 | exact absurd rfl t6 | (exfalso; simp [cdT] at t1; done)
theorem sw_table {t : aMt} {k : Nat} {x : Int32} {d : Nat} {K : Nat → aO} {q : Option Value × aH} : ∀ (ts : List (Int32 × Nat)) (os : List Int) (lo : Int), swT t k lo ts os = true → sw_ x d K ts = some q → (∃ (j : Nat) (o : Int) (g : Nat), os[j]? = some o ∧ j < ts.length ∧ x.toInt = lo + (j : Int) ∧ (tP t k : Int) + o = (tP t g : Int) ∧ K g = some q) ∨ ((x.toInt < lo ∨ lo + ts.length ≤ x.toInt) ∧ K d = some q)
  | [], [], lo, h, hq => Or.inr ⟨by simp; omega, hq⟩
  | [], o :: os, lo, h, hq => by simp [swT] at h
  | (c, g) :: r, [], lo, h, hq => by simp [swT] at h
  | (c, g) :: r, o :: os, lo, h, hq => by
    simp only [swT, jp, Bool.and_eq_true, decide_eq_true_eq] at h
    obtain ⟨⟨h1, h2⟩, h3⟩ := h
    unfold sw_ at hq
    split at hq
    · next hx => exact Or.inl ⟨0, o, g, rfl, by simp, by rw [hx, h1]; simp, h2, hq⟩
    · next hx =>
      rcases sw_table r os (lo + 1) h3 hq with ⟨j, o', g', e1, e0, e2, e3, e4⟩ | ⟨e1, e2⟩
      · exact Or.inl ⟨j + 1, o', g', by simpa using e1, by simp; omega, by rw [e2]; omega, e3, e4⟩
      · refine Or.inr ⟨?_, e2⟩
        have : x.toInt ≠ lo := fun z => hx (Int32.toInt_inj.mp (z.trans h1.symm))
        simp only [List.length_cons]
        rcases e1 with e1 | e1
        · left; omega
        · right; omega
theorem sw_look {t : aMt} {k : Nat} {x : Int32} {d : Nat} {df : Int} {K : Nat → aO} {q : Option Value × aH} (hd : (tP t k : Int) + df = (tP t d : Int)) : ∀ (ts : List (Int32 × Nat)) (ps : List (Int × Int)), lkT t k ts ps = true → sw_ x d K ts = some q → ∃ g, (tP t k : Int) + Op.lookupswitch.offset ps df x.toInt = (tP t g : Int) ∧ K g = some q
  | [], [], h, hq => ⟨d, hd, hq⟩
  | [], o :: os, h, hq => by simp [lkT] at h
  | (c, g) :: r, [], h, hq => by simp [lkT] at h
  | (c, g) :: r, (a, o) :: os, h, hq => by
    simp only [lkT, jp, Bool.and_eq_true, decide_eq_true_eq] at h
    obtain ⟨⟨h1, h2⟩, h3⟩ := h
    unfold sw_ at hq
    rw [Op.lookupswitch.offset_cons]
    split at hq
    · next hx => exact ⟨g, by rw [if_pos (by first | (rw [hx]; exact h1) | (rw [hx]; exact h1.symm) | simp [hx, h1])]; exact h2, hq⟩
    · next hx =>
      have : x.toInt ≠ a := fun z => hx (Int32.toInt_inj.mp (z.trans h1.symm))
      rw [if_neg (by first | exact this | exact fun z => this z.symm | simp [this])]
      exact sw_look hd r os h3 hq
theorem x_ldcwS {p : Program} {l : Launch} {e : Env} {R : Room} {s : State} {m : MethodId} {args : Array Value} {below : List Frame} {meth : Method} {c : Code} {H : Heap} {locs : List Loc} {cells slots : Nat} {Q : State → Prop} {cc : ByteArray} {pc : Nat} {ls : Array Slot} {rest : List Value} (hexec : p.tables.exec = Jvm.exec) (hb : c.code = cc) {own tx : String} {index q : Nat} (hown : s.vm.findClass own = some m.cls) (hZ : vk_R own index tx q s) (hdg : decode cc pc = .ok (.ldc_w index, 3))
    (k : W p l e R s m args below meth c H locs cells slots Q (F0 m (pc + 3) ls (.ref q :: rest))) : W p l e R s m args below meth c H locs cells slots Q (F0 m pc ls rest) := by
  intro T hT X
  obtain ⟨t, a1, b1⟩ := k T hT X
  refine ⟨t, ?_, b1⟩
  obtain ⟨kk, cf, i, a', hk, hcf, hcp, -, hr, hev'⟩ := Cond.stringRef_spec hown hZ.1
  cases hZ.2.symm.trans hev'
  obtain ⟨k', hk', he⟩ := X.warmed.alike.2.2 _ _ hk
  have hr' : k'.resolved[index]? = some (some (.string q)) := by
    rcases X.warmed.entry hk hk' index with h | ⟨h, -⟩
    · rw [h]; exact hr
    · rw [hr] at h; cases h
  have hdg' : decode c.code pc = .ok (.ldc_w index, 3) := by rw [hb]; exact hdg
  jvm_step X.here [X.here.top, hexec, hdg', ldc_w.wp_string (e := e) (s := T) (f := F0 m pc ls rest) X.here.top hk' (by rw [he]; exact hcf) hcp hr']
  exact a1
theorem rk_some {z : Nat} {as : List Value} {S : aH} {x : aO} {q : Option Value × aH} (h : rk_ z as S x = some q) : (z = 99 ∨ ∃ a As, as = .ref a :: As ∧ (z = 98 ∨ aK S a = z)) ∧ x = some q := by
  unfold rk_ at h
  split at h
  · exact ⟨Or.inl rfl, h⟩
  · split at h
    · exact ⟨Or.inr ⟨_, _, rfl, Or.inl rfl⟩, h⟩
    · cases h
  · split at h
    · obtain ⟨h1, h2⟩ := gd_some h
      exact ⟨Or.inr ⟨_, _, rfl, Or.inr h1⟩, h2⟩
    · cases h
theorem rm_of {g : aMt} {ts : List (Int32 × Nat)} (h : rmT g ts = true) : (ts = [] ∧ (tM g).1 = 0 ∧ (tM g).2 = 0) ∨ ∃ i1 i2, ts = [(i1, (tM g).1), (i2, (tM g).2)] := by
  unfold rmT at h
  split at h
  · simp only [decide_eq_true_eq] at h
    exact Or.inl ⟨rfl, by rw [h], by rw [h]⟩
  · simp only [decide_eq_true_eq] at h
    exact Or.inr ⟨_, _, by rw [h]⟩
  · cases h
theorem ca_some {u v w z mc ms : Nat} {ts : List (Int32 × Nat)} {st : List Value} {b : aB} {S : aH} {C : aC} {K : List Value → aB → aH → aO} {q : Option Value × aH} (h : ca_ u v w z ts st b S C K = some q) (hts : (ts = [] ∧ mc = 0 ∧ ms = 0) ∨ ∃ i1 i2, ts = [(i1, mc), (i2, ms)]) :
    ∃ xs r val S1, st = xs ++ r ∧ xs.length = v ∧ (r.map fun v => v.category).sum ≤ 8 ∧ (z = 99 ∨ ∃ a As, xs.reverse = .ref a :: As ∧ (z = 98 ∨ aK S a = z)) ∧ mc ≤ b.1 ∧ ms ≤ b.2 ∧ C u xs.reverse S = some (val, S1) ∧ (val = none ∨ (∃ x, val = some (.int x)) ∨ ∃ x, val = some (.long x)) ∧ K (val.toList ++ r) (b.1 - mc, b.2 - ms) S1 = some q := by
  unfold ca_ at h
  obtain ⟨xs, r, rfl, hlen, h⟩ := tk_some _ _ _ h
  rw [List.append_nil] at h
  obtain ⟨hcs, h⟩ := bo_some h
  rw [Nat.ble_eq, cs_sum] at hcs
  obtain ⟨hz, h⟩ := rk_some h
  rcases hts with ⟨rfl, rfl, rfl⟩ | ⟨i1, i2, rfl⟩
  · obtain ⟨val, S1, h1, h2, h3⟩ := cl_some h
    exact ⟨xs, r, val, S1, rfl, hlen, hcs, hz, Nat.zero_le _, Nat.zero_le _, h1, h2, h3⟩
  · obtain ⟨hg, h⟩ := gd_some h
    obtain ⟨val, S1, h1, h2, h3⟩ := cl_some h
    exact ⟨xs, r, val, S1, rfl, hlen, hcs, hz, hg.1, hg.2, h1, h2, h3⟩
/-- what a call comes to in n steps -/
def ClI (lx : List Value → aH → aO) (n : Nat) : aC := fun u as S => if u < 900 then bo_ (Nat.ble (cs_ as) (aML u)) (am aCode aML aMb (xtF lx) n u 0 (pd_ (ea_ as) (aML u)) [] (aMb u) S) else xtF lx u as S
def IhI (l : Launch) (D : va_G) (cy : Nat → ClassId) (E : aEt) (lx : List Value → aH → aO) (n id : Nat) (t : aMt) (p : Program) (e : Env) (R : Room) (s : State) (m : MethodId) (args : Array Value) (below : List Frame) (meth : Method) (c : Code) (A : Nat → Prop) (Q : State → Prop) (v : Option Value) (S' : aH) : Prop :=
  ∀ (k : Nat) (ls : aL) (st : List Value) (b : aB) (S : aH) (H : Heap) (locs : List Loc) (cu su : Nat) (Lc : Array Slot),
      am aCode aML aMb (xtF lx) n id k ls st b S = some (v, S') → lh Lc (tL t) ls → Wd D cy A S H → va_S A s.heap H locs → aE S = E → cu + b.1 ≤ R.cells → su + b.2 ≤ R.slots →
      W p l e R s m args below meth c H locs cu su Q (F0 m (tP t k) Lc st)
/-- a step by this instruction -/
def StpI (l : Launch) (D : va_G) (cy : Nat → ClassId) (adV : Nat → Nat) (E : aEt) (lx : List Value → aH → aO) (n : Nat) (ins : Instr) : Prop :=
  ∀ (id : Nat) (t : aMt) (p : Program) (e : Env) (R : Room) (s : State) (m : MethodId) (args : Array Value) (below : List Frame) (meth : Method) (c : Code) (A : Nat → Prop) (Q : State → Prop) (v : Option Value) (S' : aH),
    Cx l D cy adV E t p R s m args meth c A → Rt l D cy E t p e R s m args below meth c A Q v S' → (tY t).cls = cnm (tO t) → IhI l D cy E lx n id t p e R s m args below meth c A Q v S' →
    ∀ (k : Nat) (ls : aL) (st : List Value) (b : aB) (S : aH) (H : Heap) (locs : List Loc) (cu su : Nat) (Lc : Array Slot) (u w1 w z : Nat) (cst : Int32) (d : Int64) (ts : List (Int32 × Nat)),
      cg_ (tC t) k = some (ins, (u, w1, w, z), cst, d, ts) → chk t k (ins, (u, w1, w, z), cst, d, ts) = true → ex1 (ins, (u, w1, w, z), cst, d, ts) k ls st b S (am aCode aML aMb (xtF lx) n id) (ClI lx n) = some (v, S') →
      lh Lc (tL t) ls → Wd D cy A S H → va_S A s.heap H locs → aE S = E → cu + b.1 ≤ R.cells → su + b.2 ≤ R.slots → W p l e R s m args below meth c H locs cu su Q (F0 m (tP t k) Lc st)
