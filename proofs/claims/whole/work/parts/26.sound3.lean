/-! one step -/
theorem chkL_get (t : aMt) : ∀ (l : List aM) (k0 k : Nat) (i : aM), chkL t k0 l = true → cg_ l k = some i → chk t (k0 + k) i = true
  | [], k0, k, i, h, hi => by simp [cg_] at hi
  | x :: r, k0, 0, i, h, hi => by
    simp [cg_] at hi; subst hi
    simp only [chkL, Bool.and_eq_true] at h
    exact h.1
  | x :: r, k0, k + 1, i, h, hi => by
    simp only [chkL, Bool.and_eq_true] at h
    have := chkL_get t r (k0 + 1) k i h.2 (by simpa [cg_] using hi)
    rw [show k0 + (k + 1) = k0 + 1 + k by omega]; exact this
theorem gt_cases {f : Option Nat} {w : Nat} (h : gtT f w = true) : ∃ ty, f = some ty ∧ ((ty = 0 ∨ ty = 4) ∧ w = 0 ∨ ty = 1 ∧ w = 1 ∨ ty = 2 ∧ (w = 2 ∨ w = 3)) := by
  unfold gtT at h; split at h <;> simp at h
  · exact ⟨0, rfl, Or.inl ⟨Or.inl rfl, h⟩⟩
  · exact ⟨4, rfl, Or.inl ⟨Or.inr rfl, h⟩⟩
  · exact ⟨1, rfl, Or.inr (Or.inl ⟨rfl, h⟩)⟩
  · exact ⟨2, rfl, Or.inr (Or.inr ⟨rfl, h⟩)⟩
theorem pt_cases {f : Option Nat} {w : Nat} (h : ptT f w = true) : ∃ ty, f = some ty ∧ (ty = 0 ∧ w = 0 ∨ ty = 4 ∧ w = 4 ∨ ty = 1 ∧ w = 1 ∨ ty = 2 ∧ w = 2) := by
  unfold ptT at h; split at h <;> simp at h
  · exact ⟨0, rfl, Or.inl ⟨rfl, h⟩⟩
  · exact ⟨4, rfl, Or.inr (Or.inl ⟨rfl, h⟩)⟩
  · exact ⟨1, rfl, Or.inr (Or.inr (Or.inl ⟨rfl, h⟩))⟩
  · exact ⟨2, rfl, Or.inr (Or.inr (Or.inr ⟨rfl, h⟩))⟩
theorem ty_of {u v ty : Nat} (hu : u < 12) (hv : v < (clX u).2.2) (h : (fT u)[v]? = some ty) : (ty = 0 → clTy u v = .int) ∧ (ty = 4 → clTy u v = .boolean) ∧ (ty = 1 → clTy u v = .long) ∧ (ty = 2 → (∃ n, clTy u v = .object n) ∨ ∃ n, clTy u v = .array n) := by
  obtain ⟨t1, t2, t3, t4, t5, t6⟩ := clTy_cd u hu v hv
  rw [h] at t1
  have t1 := Option.some.inj t1
  generalize clTy u v = q at t1 t2 t3 t4 t5 t6
  cases q <;> simp_all [cdT]
theorem sw_table {t : aMt} {k : Nat} {x : Int32} {d : Nat} {K : Nat → aO} {q : Option Value × aH} : ∀ (ts : List (Int32 × Nat)) (os : List Int) (lo : Int), swT t k lo ts os = true → sw_ x d K ts = some q → (∃ j o g, os[j]? = some o ∧ x.toInt = lo + j ∧ (tP t k : Int) + o = (tP t g : Int) ∧ K g = some q) ∨ ((x.toInt < lo ∨ lo + ts.length ≤ x.toInt) ∧ K d = some q)
  | [], [], lo, h, hq => Or.inr ⟨by simp; omega, hq⟩
  | [], o :: os, lo, h, hq => by simp [swT] at h
  | (c, g) :: r, [], lo, h, hq => by simp [swT] at h
  | (c, g) :: r, o :: os, lo, h, hq => by
    simp only [swT, jp, Bool.and_eq_true, decide_eq_true_eq] at h
    obtain ⟨⟨h1, h2⟩, h3⟩ := h
    unfold sw_ at hq
    split at hq
    · next hx => exact Or.inl ⟨0, o, g, rfl, by rw [hx, h1]; simp, h2, hq⟩
    · next hx =>
      rcases sw_table r os (lo + 1) h3 hq with ⟨j, o', g', e1, e2, e3, e4⟩ | ⟨e1, e2⟩
      · exact Or.inl ⟨j + 1, o', g', by simpa using e1, by rw [e2]; omega, e3, e4⟩
      · refine Or.inr ⟨?_, e2⟩
        have : x.toInt ≠ lo := fun z => hx (Int32.toInt_inj.mp (z.trans h1.symm))
        simp only [List.length_cons]
        rcases e1 with e1 | e1
        · left; omega
        · right; omega
theorem sw_look {t : aMt} {k : Nat} {x : Int32} {d : Nat} {df : Int} {K : Nat → aO} {q : Option Value × aH} (hd : (tP t k : Int) + df = (tP t d : Int)) : ∀ (ts : List (Int32 × Nat)) (ps : List (Int × Int)), lkT t k ts ps = true → sw_ x d K ts = some q → ∃ g, (tP t k : Int) + Op.lookupswitch.offset ps df x.toInt = (tP t g : Int) ∧ K g = some q
  | [], [], h, hq => ⟨d, hd, hq⟩
  | [], o :: os, h, hq => by simp [lkT] at h
  | (c, g) :: r, [], h, hq => by simp [lkT] at h
  | (c, g) :: r, (a, o) :: os, h, hq => by
    simp only [lkT, jp, Bool.and_eq_true, decide_eq_true_eq] at h
    obtain ⟨⟨h1, h2⟩, h3⟩ := h
    unfold sw_ at hq
    rw [Op.lookupswitch.offset_cons]
    split at hq
    · next hx => exact ⟨g, by rw [if_pos (by first | (rw [hx]; exact h1) | (rw [hx]; exact h1.symm) | simp [hx, h1])]; exact h2, hq⟩
    · next hx =>
      have : x.toInt ≠ a := fun z => hx (Int32.toInt_inj.mp (z.trans h1.symm))
      rw [if_neg (by first | exact this | exact fun z => this z.symm | simp [this])]
      exact sw_look hd r os h3 hq
theorem x_ldcwS {p : Program} {l : Launch} {e : Env} {R : Room} {s : State} {m : MethodId} {args : Array Value} {below : List Frame} {meth : Method} {c : Code} {H : Heap} {locs : List Loc} {cells slots : Nat} {Q : State → Prop} {cc : ByteArray} {pc : Nat} {ls : Array Slot} {rest : List Value} (hexec : p.tables.exec = Jvm.exec) (hb : c.code = cc) {own tx : String} {index q : Nat} (hown : s.vm.findClass own = some m.cls) (hZ : vk_R own index tx q s) (hdg : decode cc pc = .ok (.ldc_w index, 3))
    (k : W p l e R s m args below meth c H locs cells slots Q (F0 m (pc + 3) ls (.ref q :: rest))) : W p l e R s m args below meth c H locs cells slots Q (F0 m pc ls rest) := by
  intro T hT X
  obtain ⟨t, a1, b1⟩ := k T hT X
  refine ⟨t, ?_, b1⟩
  obtain ⟨kk, cf, i, a', hk, hcf, hcp, -, hr, hev'⟩ := Cond.stringRef_spec hown hZ.1
  cases hZ.2.symm.trans hev'
  obtain ⟨k', hk', he⟩ := X.warmed.alike.2.2 _ _ hk
  have hr' : k'.resolved[index]? = some (some (.string q)) := by
    rcases X.warmed.entry hk hk' index with h | ⟨h, -⟩
    · rw [← h]; exact hr
    · rw [hr] at h; cases h
  have hdg' : decode c.code pc = .ok (.ldc_w index, 3) := by rw [hb]; exact hdg
  jvm_step X.here [X.here.top, hexec, hdg', ldc_w.wp_string (e := e) (s := T) (f := F0 m pc ls rest) X.here.top hk' (by rw [he]; exact hcf) hcp hr']
  exact a1
theorem rk_some {z : Nat} {as : List Value} {S : aH} {x : aO} {q : Option Value × aH} (h : rk_ z as S x = some q) : (z = 99 ∨ ∃ a As, as = .ref a :: As ∧ (z = 98 ∨ aK S a = z)) ∧ x = some q := by
  unfold rk_ at h
  split at h
  · exact ⟨Or.inl rfl, h⟩
  · split at h
    · exact ⟨Or.inr ⟨_, _, rfl, Or.inl rfl⟩, h⟩
    · cases h
  · split at h
    · obtain ⟨h1, h2⟩ := gd_some h
      exact ⟨Or.inr ⟨_, _, rfl, Or.inr h1⟩, h2⟩
    · cases h
theorem rm_of {g : aMt} {ts : List (Int32 × Nat)} (h : rmT g ts = true) : (ts = [] ∧ (tM g).1 = 0 ∧ (tM g).2 = 0) ∨ ∃ i1 i2, ts = [(i1, (tM g).1), (i2, (tM g).2)] := by
  unfold rmT at h
  split at h
  · simp only [decide_eq_true_eq] at h
    exact Or.inl ⟨rfl, by rw [h], by rw [h]⟩
  · simp only [decide_eq_true_eq] at h
    exact Or.inr ⟨_, _, by rw [h]⟩
  · cases h
theorem ca_some {u v w z mc ms : Nat} {ts : List (Int32 × Nat)} {st : List Value} {b : aB} {S : aH} {C : aC} {K : List Value → aB → aH → aO} {q : Option Value × aH} (h : ca_ u v w z ts st b S C K = some q) (hts : (ts = [] ∧ mc = 0 ∧ ms = 0) ∨ ∃ i1 i2, ts = [(i1, mc), (i2, ms)]) :
    ∃ xs r val S1, st = xs ++ r ∧ xs.length = v ∧ (r.map fun v => v.category).sum ≤ 8 ∧ (z = 99 ∨ ∃ a As, xs.reverse = .ref a :: As ∧ (z = 98 ∨ aK S a = z)) ∧ mc ≤ b.1 ∧ ms ≤ b.2 ∧ C u xs.reverse S = some (val, S1) ∧ (val = none ∨ (∃ x, val = some (.int x)) ∨ ∃ x, val = some (.long x)) ∧ K (val.toList ++ r) (b.1 - mc, b.2 - ms) S1 = some q := by
  unfold ca_ at h
  obtain ⟨xs, r, rfl, hlen, h⟩ := tk_some _ _ _ h
  rw [List.append_nil] at h
  obtain ⟨hcs, h⟩ := bo_some h
  rw [Nat.ble_eq, cs_sum] at hcs
  obtain ⟨hz, h⟩ := rk_some h
  rcases hts with ⟨rfl, rfl, rfl⟩ | ⟨i1, i2, rfl⟩
  · obtain ⟨val, S1, h1, h2, h3⟩ := cl_some h
    exact ⟨xs, r, val, S1, rfl, hlen, hcs, hz, Nat.zero_le _, Nat.zero_le _, h1, h2, h3⟩
  · obtain ⟨hg, h⟩ := gd_some h
    obtain ⟨val, S1, h1, h2, h3⟩ := cl_some h
    exact ⟨xs, r, val, S1, rfl, hlen, hcs, hz, hg.1, hg.2, h1, h2, h3⟩
set_option maxHeartbeats 40000000 in
set_option maxRecDepth 100000 in
theorem bd_step {l : Launch} {D : va_G} {cy : Nat → ClassId} {adV : Nat → Nat} {E : aEt} {lx : List Value → aH → aO} (hx3 : Xs l D cy adV E lx 903) (hx4 : Xs l D cy adV E lx 904) (hx5 : Xs l D cy adV E lx 905) {n : Nat} (hB : Bd l D cy adV E lx n) : Bd l D cy adV E lx (n + 1) := by
  intro id hid p e R s m args below meth c A Q v S' hcx hrt k ls st b S H locs cu su Lc h hlh hW hS hEe hrc hrs
  have ih := hB id hid p e R s m args below meth c A Q v S' hcx hrt
  have hok := mGx_ok hid
  unfold chkT at hok
  simp only [Bool.and_eq_true, decide_eq_true_eq] at hok
  obtain ⟨hok0, hcl⟩ := hok
  simp only [am] at h
  cases hi : cg_ (aCode id) k with
  | none => rw [hi] at h; cases h
  | some i =>
  rw [hi] at h
  have hck := chkL_get (mGx id) (tC (mGx id)) 0 k i hcl hi
  rw [Nat.zero_add] at hck
  have hi9 : cg_ (tC (mGx id)) k = some i := hi
  generalize hCe : (fun u as S => if u < 900 then bo_ (Nat.ble (cs_ as) (aML u)) (am aCode aML aMb (xtF lx) n u 0 (pd_ (ea_ as) (aML u)) [] (aMb u) S) else xtF lx u as S) = C at h
  have hcx0 := hcx
  obtain ⟨hx, hb, hml, hown, hts, hnm, hE, hA, hRf, hRl, hsc⟩ := hcx0
  have hK := hE.1
  generalize mGx id = t at *
  obtain ⟨ins, ⟨u, w1, w, z⟩, cst, d, ts⟩ := i
  cases ins with
  | iload_n j =>
    simp only [ex1] at h
    simp only [chk, nx, dc, jp, Bool.and_eq_true, decide_eq_true_eq] at hck
    obtain ⟨hj, hd, hp⟩ := hck
    obtain ⟨x, hl, h⟩ := lI_some h
    refine lv_iload_n hx hb hd hj (hlh.at hl) ?_
    rw [← hp]
    exact ih _ _ _ _ _ _ _ _ _ _ h hlh hW hS hEe hrc hrs
  | lload_n j =>
    simp only [ex1] at h
    simp only [chk, nx, dc, jp, Bool.and_eq_true, decide_eq_true_eq] at hck
    obtain ⟨hj, hd, hp⟩ := hck
    obtain ⟨x, hl, h⟩ := lJ_some h
    refine lv_lload_n hx hb hd hj (hlh.at hl) ?_
    rw [← hp]
    exact ih _ _ _ _ _ _ _ _ _ _ h hlh hW hS hEe hrc hrs
  | aload_n j =>
    simp only [ex1] at h
    simp only [chk, nx, dc, jp, Bool.and_eq_true, decide_eq_true_eq] at hck
    obtain ⟨hj, hd, hp⟩ := hck
    obtain ⟨x, hl, h⟩ := lR_some h
    refine lv_aload_n hx hb hd hj (hlh.at hl) ?_
    rw [← hp]
    exact ih _ _ _ _ _ _ _ _ _ _ h hlh hW hS hEe hrc hrs
  | iload j =>
    simp only [ex1] at h
    simp only [chk, nx, dc, jp, Bool.and_eq_true, decide_eq_true_eq] at hck
    obtain ⟨hj, hd, hp⟩ := hck
    subst hj
    obtain ⟨x, hl, h⟩ := lI_some h
    refine lv_iload hx hb hd (hlh.at hl) ?_
    rw [← hp]
    exact ih _ _ _ _ _ _ _ _ _ _ h hlh hW hS hEe hrc hrs
  | lload j =>
    simp only [ex1] at h
    simp only [chk, nx, dc, jp, Bool.and_eq_true, decide_eq_true_eq] at hck
    obtain ⟨hj, hd, hp⟩ := hck
    subst hj
    obtain ⟨x, hl, h⟩ := lJ_some h
    refine lv_lload hx hb hd (hlh.at hl) ?_
    rw [← hp]
    exact ih _ _ _ _ _ _ _ _ _ _ h hlh hW hS hEe hrc hrs
  | aload j =>
    simp only [ex1] at h
    simp only [chk, nx, dc, jp, Bool.and_eq_true, decide_eq_true_eq] at hck
    obtain ⟨hj, hd, hp⟩ := hck
    subst hj
    obtain ⟨x, hl, h⟩ := lR_some h
    refine lv_aload hx hb hd (hlh.at hl) ?_
    rw [← hp]
    exact ih _ _ _ _ _ _ _ _ _ _ h hlh hW hS hEe hrc hrs
  | istore_n j =>
    simp only [ex1] at h
    simp only [chk, nx, dc, jp, Bool.and_eq_true, decide_eq_true_eq] at hck
    obtain ⟨⟨hj, hlt⟩, hd, hp⟩ := hck
    obtain ⟨x, r, rfl, h⟩ := pI_some h
    obtain ⟨lv, q1, q2⟩ := hlh
    refine lv_istore_n hx hb hd hj q1 hlt rfl (fun Lc h9 => ?_)
    rw [← hp]
    exact ih _ _ _ _ _ _ _ _ _ _ h (lh.st (Lc := Lc) q2 h9) hW hS hEe hrc hrs
  | lstore_n j =>
    simp only [ex1] at h
    simp only [chk, nx, dc, jp, Bool.and_eq_true, decide_eq_true_eq] at hck
    obtain ⟨⟨hj, hlt⟩, hd, hp⟩ := hck
    obtain ⟨x, r, rfl, h⟩ := pJ_some h
    obtain ⟨lv, q1, q2⟩ := hlh
    refine lv_lstore_n hx hb hd hj q1 hlt rfl (fun Lc h9 => ?_)
    rw [← hp]
    exact ih _ _ _ _ _ _ _ _ _ _ h (lh.sl (Lc := Lc) q2 h9) hW hS hEe hrc hrs
  | astore_n j =>
    simp only [ex1] at h
    simp only [chk, nx, dc, jp, Bool.and_eq_true, decide_eq_true_eq] at hck
    obtain ⟨⟨hj, hlt⟩, hd, hp⟩ := hck
    obtain ⟨x, r, rfl, h⟩ := pR_some h
    obtain ⟨lv, q1, q2⟩ := hlh
    refine lv_astore_n hx hb hd hj q1 hlt rfl (fun Lc h9 => ?_)
    rw [← hp]
    exact ih _ _ _ _ _ _ _ _ _ _ h (lh.st (Lc := Lc) q2 h9) hW hS hEe hrc hrs
  | istore j =>
    simp only [ex1] at h
    simp only [chk, nx, dc, jp, Bool.and_eq_true, decide_eq_true_eq] at hck
    obtain ⟨⟨hj, hlt⟩, hd, hp⟩ := hck
    subst hj
    obtain ⟨x, r, rfl, h⟩ := pI_some h
    obtain ⟨lv, q1, q2⟩ := hlh
    refine lv_istore hx hb hd q1 hlt rfl (fun Lc h9 => ?_)
    rw [← hp]
    exact ih _ _ _ _ _ _ _ _ _ _ h (lh.st (Lc := Lc) q2 h9) hW hS hEe hrc hrs
  | lstore j =>
    simp only [ex1] at h
    simp only [chk, nx, dc, jp, Bool.and_eq_true, decide_eq_true_eq] at hck
    obtain ⟨⟨hj, hlt⟩, hd, hp⟩ := hck
    subst hj
    obtain ⟨x, r, rfl, h⟩ := pJ_some h
    obtain ⟨lv, q1, q2⟩ := hlh
    refine lv_lstore hx hb hd q1 hlt rfl (fun Lc h9 => ?_)
    rw [← hp]
    exact ih _ _ _ _ _ _ _ _ _ _ h (lh.sl (Lc := Lc) q2 h9) hW hS hEe hrc hrs
  | astore j =>
    simp only [ex1] at h
    simp only [chk, nx, dc, jp, Bool.and_eq_true, decide_eq_true_eq] at hck
    obtain ⟨⟨hj, hlt⟩, hd, hp⟩ := hck
    subst hj
    obtain ⟨x, r, rfl, h⟩ := pR_some h
    obtain ⟨lv, q1, q2⟩ := hlh
    refine lv_astore hx hb hd q1 hlt rfl (fun Lc h9 => ?_)
    rw [← hp]
    exact ih _ _ _ _ _ _ _ _ _ _ h (lh.st (Lc := Lc) q2 h9) hW hS hEe hrc hrs
  | iinc j y =>
    simp only [ex1] at h
    simp only [chk, nx, dc, jp, Bool.and_eq_true, decide_eq_true_eq] at hck
    obtain ⟨⟨⟨hj, hlt⟩, hc9⟩, hd, hp⟩ := hck
    subst hj
    obtain ⟨x, hl, h⟩ := lI_some h
    obtain ⟨lv, q1, q2⟩ := hlh
    obtain ⟨k9, hk9⟩ := List.getElem?_of_mem (q2 _ _ hl)
    refine lv_iinc hx hb hd q1 hk9 (by rw [hc9]) hlt rfl (fun Lc h9 => ?_)
    rw [← hp]
    exact ih _ _ _ _ _ _ _ _ _ _ h (lh.st (Lc := Lc) q2 h9) hW hS hEe hrc hrs
  | iconst y =>
    simp only [ex1] at h
    simp only [chk, nx, dc, jp, Bool.and_eq_true, decide_eq_true_eq] at hck
    obtain ⟨hv9, hd, hp⟩ := hck
    refine lv_iconst hx hb hd hv9 ?_
    rw [← hp]
    exact ih _ _ _ _ _ _ _ _ _ _ h hlh hW hS hEe hrc hrs
  | bipush y =>
    simp only [ex1] at h
    simp only [chk, nx, dc, jp, Bool.and_eq_true, decide_eq_true_eq] at hck
    obtain ⟨hv9, hd, hp⟩ := hck
    refine lv_bipush hx hb hd hv9 ?_
    rw [← hp]
    exact ih _ _ _ _ _ _ _ _ _ _ h hlh hW hS hEe hrc hrs
  | sipush y =>
    simp only [ex1] at h
    simp only [chk, nx, dc, jp, Bool.and_eq_true, decide_eq_true_eq] at hck
    obtain ⟨hv9, hd, hp⟩ := hck
    refine lv_sipush hx hb hd hv9 ?_
    rw [← hp]
    exact ih _ _ _ _ _ _ _ _ _ _ h hlh hW hS hEe hrc hrs
  | lconst y =>
    simp only [ex1] at h
    simp only [chk, nx, dc, jp, Bool.and_eq_true, decide_eq_true_eq] at hck
    obtain ⟨hv9, hd, hp⟩ := hck
    refine lv_lconst hx hb hd hv9 ?_
    rw [← hp]
    exact ih _ _ _ _ _ _ _ _ _ _ h hlh hW hS hEe hrc hrs
  | ldc y =>
    simp only [ex1] at h
    simp only [chk, nx, dc, jp, Bool.and_eq_true, decide_eq_true_eq] at hck
    obtain ⟨hm, hd, hp⟩ := hck
    by_cases hw : w = 0
    · subst hw
      simp only [decide_eq_true_eq] at hm
      refine lv_ldc hx hb hown (hts _ (ciW0 _ (List.mem_map.mpr ⟨_, hm, rfl⟩))) hd ?_
      rw [← hp]
      exact ih _ _ _ _ _ _ _ _ _ _ h hlh hW hS hEe hrc hrs
    · obtain ⟨w, rfl⟩ : ∃ w9, w = w9 + 1 := ⟨w - 1, by omega⟩
      simp only [decide_eq_true_eq] at hm
      refine va_ldcS hx hb hown (hE.2.2.2.2.1 _ hm) hd ?_
      rw [← hp, ← hEe]
      exact ih _ _ _ _ _ _ _ _ _ _ h hlh hW hS hEe hrc hrs
  | ldc_w y =>
    simp only [ex1] at h
    simp only [chk, nx, dc, jp, Bool.and_eq_true, decide_eq_true_eq] at hck
    obtain ⟨hm, hd, hp⟩ := hck
    by_cases hw : w = 0
    · subst hw
      simp only [decide_eq_true_eq] at hm
      refine lv_ldcw hx hb hown (hts _ (ciW0 _ (List.mem_map.mpr ⟨_, hm, rfl⟩))) hd ?_
      rw [← hp]
      exact ih _ _ _ _ _ _ _ _ _ _ h hlh hW hS hEe hrc hrs
    · obtain ⟨w, rfl⟩ : ∃ w9, w = w9 + 1 := ⟨w - 1, by omega⟩
      simp only [decide_eq_true_eq] at hm
      refine x_ldcwS hx hb hown (hE.2.2.2.2.1 _ hm) hd ?_
      rw [← hp, ← hEe]
      exact ih _ _ _ _ _ _ _ _ _ _ h hlh hW hS hEe hrc hrs
  | ldc2_w y =>
    simp only [ex1] at h
    simp only [chk, nx, dc, jp, Bool.and_eq_true, decide_eq_true_eq] at hck
    obtain ⟨hm, hd, hp⟩ := hck
    refine lv_ldc2 hx hb hown (hts _ (clW0 _ (List.mem_map.mpr ⟨_, hm, rfl⟩))) hd ?_
    rw [← hp]
    exact ih _ _ _ _ _ _ _ _ _ _ h hlh hW hS hEe hrc hrs
  | iadd =>
    simp only [ex1] at h
    simp only [chk, nx, dc, jp, Bool.and_eq_true, decide_eq_true_eq] at hck
    obtain ⟨hd, hp⟩ := hck
    obtain ⟨y, r, rfl, h⟩ := pI_some h
    obtain ⟨x, r, rfl, h⟩ := pI_some h
    refine lv_iadd hx hb hd ?_
    rw [← hp]
    exact ih _ _ _ _ _ _ _ _ _ _ h hlh hW hS hEe hrc hrs
  | isub =>
    simp only [ex1] at h
    simp only [chk, nx, dc, jp, Bool.and_eq_true, decide_eq_true_eq] at hck
    obtain ⟨hd, hp⟩ := hck
    obtain ⟨y, r, rfl, h⟩ := pI_some h
    obtain ⟨x, r, rfl, h⟩ := pI_some h
    refine lv_isub hx hb hd ?_
    rw [← hp]
    exact ih _ _ _ _ _ _ _ _ _ _ h hlh hW hS hEe hrc hrs
  | imul =>
    simp only [ex1] at h
    simp only [chk, nx, dc, jp, Bool.and_eq_true, decide_eq_true_eq] at hck
    obtain ⟨hd, hp⟩ := hck
    obtain ⟨y, r, rfl, h⟩ := pI_some h
    obtain ⟨x, r, rfl, h⟩ := pI_some h
    refine lv_imul hx hb hd ?_
    rw [← hp]
    exact ih _ _ _ _ _ _ _ _ _ _ h hlh hW hS hEe hrc hrs
  | iand =>
    simp only [ex1] at h
    simp only [chk, nx, dc, jp, Bool.and_eq_true, decide_eq_true_eq] at hck
    obtain ⟨hd, hp⟩ := hck
    obtain ⟨y, r, rfl, h⟩ := pI_some h
    obtain ⟨x, r, rfl, h⟩ := pI_some h
    refine lv_iand hx hb hd ?_
    rw [← hp]
    exact ih _ _ _ _ _ _ _ _ _ _ h hlh hW hS hEe hrc hrs
  | ior =>
    simp only [ex1] at h
    simp only [chk, nx, dc, jp, Bool.and_eq_true, decide_eq_true_eq] at hck
    obtain ⟨hd, hp⟩ := hck
    obtain ⟨y, r, rfl, h⟩ := pI_some h
    obtain ⟨x, r, rfl, h⟩ := pI_some h
    refine lv_ior hx hb hd ?_
    rw [← hp]
    exact ih _ _ _ _ _ _ _ _ _ _ h hlh hW hS hEe hrc hrs
  | ixor =>
    simp only [ex1] at h
    simp only [chk, nx, dc, jp, Bool.and_eq_true, decide_eq_true_eq] at hck
    obtain ⟨hd, hp⟩ := hck
    obtain ⟨y, r, rfl, h⟩ := pI_some h
    obtain ⟨x, r, rfl, h⟩ := pI_some h
    refine lv_ixor hx hb hd ?_
    rw [← hp]
    exact ih _ _ _ _ _ _ _ _ _ _ h hlh hW hS hEe hrc hrs
  | ishl =>
    simp only [ex1] at h
    simp only [chk, nx, dc, jp, Bool.and_eq_true, decide_eq_true_eq] at hck
    obtain ⟨hd, hp⟩ := hck
    obtain ⟨y, r, rfl, h⟩ := pI_some h
    obtain ⟨x, r, rfl, h⟩ := pI_some h
    refine lv_ishl hx hb hd ?_
    rw [← hp]
    exact ih _ _ _ _ _ _ _ _ _ _ h hlh hW hS hEe hrc hrs
  | ishr =>
    simp only [ex1] at h
    simp only [chk, nx, dc, jp, Bool.and_eq_true, decide_eq_true_eq] at hck
    obtain ⟨hd, hp⟩ := hck
    obtain ⟨y, r, rfl, h⟩ := pI_some h
    obtain ⟨x, r, rfl, h⟩ := pI_some h
    refine lv_ishr hx hb hd ?_
    rw [← hp]
    exact ih _ _ _ _ _ _ _ _ _ _ h hlh hW hS hEe hrc hrs
  | idiv =>
    simp only [ex1] at h
    simp only [chk, nx, dc, jp, Bool.and_eq_true, decide_eq_true_eq] at hck
    obtain ⟨hd, hp⟩ := hck
    obtain ⟨y, r, rfl, h⟩ := pI_some h
    obtain ⟨x, r, rfl, h⟩ := pI_some h
    obtain ⟨hne, h⟩ := gd_some h
    refine lv_idiv hx hb hd hne ?_
    rw [← hp]
    exact ih _ _ _ _ _ _ _ _ _ _ h hlh hW hS hEe hrc hrs
  | irem =>
    simp only [ex1] at h
    simp only [chk, nx, dc, jp, Bool.and_eq_true, decide_eq_true_eq] at hck
    obtain ⟨hd, hp⟩ := hck
    obtain ⟨y, r, rfl, h⟩ := pI_some h
    obtain ⟨x, r, rfl, h⟩ := pI_some h
    obtain ⟨hne, h⟩ := gd_some h
    refine lv_irem hx hb hd hne ?_
    rw [← hp]
    exact ih _ _ _ _ _ _ _ _ _ _ h hlh hW hS hEe hrc hrs
  | iushr =>
    simp only [ex1] at h
    simp only [chk, nx, dc, jp, Bool.and_eq_true, decide_eq_true_eq] at hck
    obtain ⟨hd, hp⟩ := hck
    obtain ⟨y, r, rfl, h⟩ := pI_some h
    obtain ⟨x, r, rfl, h⟩ := pI_some h
    refine lv_iushr hx hb hd rfl ?_
    rw [← hp]
    exact ih _ _ _ _ _ _ _ _ _ _ h hlh hW hS hEe hrc hrs
  | ladd =>
    simp only [ex1] at h
    simp only [chk, nx, dc, jp, Bool.and_eq_true, decide_eq_true_eq] at hck
    obtain ⟨hd, hp⟩ := hck
    obtain ⟨y, r, rfl, h⟩ := pJ_some h
    obtain ⟨x, r, rfl, h⟩ := pJ_some h
    refine lv_ladd hx hb hd ?_
    rw [← hp]
    exact ih _ _ _ _ _ _ _ _ _ _ h hlh hW hS hEe hrc hrs
  | lsub =>
    simp only [ex1] at h
    simp only [chk, nx, dc, jp, Bool.and_eq_true, decide_eq_true_eq] at hck
    obtain ⟨hd, hp⟩ := hck
    obtain ⟨y, r, rfl, h⟩ := pJ_some h
    obtain ⟨x, r, rfl, h⟩ := pJ_some h
    refine lv_lsub hx hb hd ?_
    rw [← hp]
    exact ih _ _ _ _ _ _ _ _ _ _ h hlh hW hS hEe hrc hrs
  | lmul =>
    simp only [ex1] at h
    simp only [chk, nx, dc, jp, Bool.and_eq_true, decide_eq_true_eq] at hck
    obtain ⟨hd, hp⟩ := hck
    obtain ⟨y, r, rfl, h⟩ := pJ_some h
    obtain ⟨x, r, rfl, h⟩ := pJ_some h
    refine lv_lmul hx hb hd ?_
    rw [← hp]
    exact ih _ _ _ _ _ _ _ _ _ _ h hlh hW hS hEe hrc hrs
  | land =>
    simp only [ex1] at h
    simp only [chk, nx, dc, jp, Bool.and_eq_true, decide_eq_true_eq] at hck
    obtain ⟨hd, hp⟩ := hck
    obtain ⟨y, r, rfl, h⟩ := pJ_some h
    obtain ⟨x, r, rfl, h⟩ := pJ_some h
    refine lv_land hx hb hd ?_
    rw [← hp]
    exact ih _ _ _ _ _ _ _ _ _ _ h hlh hW hS hEe hrc hrs
  | lor =>
    simp only [ex1] at h
    simp only [chk, nx, dc, jp, Bool.and_eq_true, decide_eq_true_eq] at hck
    obtain ⟨hd, hp⟩ := hck
    obtain ⟨y, r, rfl, h⟩ := pJ_some h
    obtain ⟨x, r, rfl, h⟩ := pJ_some h
    refine lv_lor hx hb hd ?_
    rw [← hp]
    exact ih _ _ _ _ _ _ _ _ _ _ h hlh hW hS hEe hrc hrs
  | lxor =>
    simp only [ex1] at h
    simp only [chk, nx, dc, jp, Bool.and_eq_true, decide_eq_true_eq] at hck
    obtain ⟨hd, hp⟩ := hck
    obtain ⟨y, r, rfl, h⟩ := pJ_some h
    obtain ⟨x, r, rfl, h⟩ := pJ_some h
    refine lv_lxor hx hb hd ?_
    rw [← hp]
    exact ih _ _ _ _ _ _ _ _ _ _ h hlh hW hS hEe hrc hrs
  | ldiv =>
    simp only [ex1] at h
    simp only [chk, nx, dc, jp, Bool.and_eq_true, decide_eq_true_eq] at hck
    obtain ⟨hd, hp⟩ := hck
    obtain ⟨y, r, rfl, h⟩ := pJ_some h
    obtain ⟨x, r, rfl, h⟩ := pJ_some h
    obtain ⟨hne, h⟩ := gd_some h
    refine lv_ldiv hx hb hd hne ?_
    rw [← hp]
    exact ih _ _ _ _ _ _ _ _ _ _ h hlh hW hS hEe hrc hrs
  | lrem =>
    simp only [ex1] at h
    simp only [chk, nx, dc, jp, Bool.and_eq_true, decide_eq_true_eq] at hck
    obtain ⟨hd, hp⟩ := hck
    obtain ⟨y, r, rfl, h⟩ := pJ_some h
    obtain ⟨x, r, rfl, h⟩ := pJ_some h
    obtain ⟨hne, h⟩ := gd_some h
    refine lv_lrem hx hb hd hne ?_
    rw [← hp]
    exact ih _ _ _ _ _ _ _ _ _ _ h hlh hW hS hEe hrc hrs
  | lshl =>
    simp only [ex1] at h
    simp only [chk, nx, dc, jp, Bool.and_eq_true, decide_eq_true_eq] at hck
    obtain ⟨hd, hp⟩ := hck
    obtain ⟨y, r, rfl, h⟩ := pI_some h
    obtain ⟨x, r, rfl, h⟩ := pJ_some h
    refine lv_lshl hx hb hd rfl ?_
    rw [← hp]
    exact ih _ _ _ _ _ _ _ _ _ _ h hlh hW hS hEe hrc hrs
  | lshr =>
    simp only [ex1] at h
    simp only [chk, nx, dc, jp, Bool.and_eq_true, decide_eq_true_eq] at hck
    obtain ⟨hd, hp⟩ := hck
    obtain ⟨y, r, rfl, h⟩ := pI_some h
    obtain ⟨x, r, rfl, h⟩ := pJ_some h
    refine lv_lshr hx hb hd rfl ?_
    rw [← hp]
    exact ih _ _ _ _ _ _ _ _ _ _ h hlh hW hS hEe hrc hrs
  | lushr =>
    simp only [ex1] at h
    simp only [chk, nx, dc, jp, Bool.and_eq_true, decide_eq_true_eq] at hck
    obtain ⟨hd, hp⟩ := hck
    obtain ⟨y, r, rfl, h⟩ := pI_some h
    obtain ⟨x, r, rfl, h⟩ := pJ_some h
    refine lv_lushr hx hb hd rfl ?_
    rw [← hp]
    exact ih _ _ _ _ _ _ _ _ _ _ h hlh hW hS hEe hrc hrs
  | lcmp =>
    simp only [ex1] at h
    simp only [chk, nx, dc, jp, Bool.and_eq_true, decide_eq_true_eq] at hck
    obtain ⟨hd, hp⟩ := hck
    obtain ⟨y, r, rfl, h⟩ := pJ_some h
    obtain ⟨x, r, rfl, h⟩ := pJ_some h
    refine W.lcmp hx hb hd ?_
    rw [← hp]
    exact ih _ _ _ _ _ _ _ _ _ _ h hlh hW hS hEe hrc hrs
  | ineg =>
    simp only [ex1] at h
    simp only [chk, nx, dc, jp, Bool.and_eq_true, decide_eq_true_eq] at hck
    obtain ⟨hd, hp⟩ := hck
    obtain ⟨y, r, rfl, h⟩ := pI_some h
    refine lv_ineg hx hb hd ?_
    rw [← hp]
    exact ih _ _ _ _ _ _ _ _ _ _ h hlh hW hS hEe hrc hrs
  | i2l =>
    simp only [ex1] at h
    simp only [chk, nx, dc, jp, Bool.and_eq_true, decide_eq_true_eq] at hck
    obtain ⟨hd, hp⟩ := hck
    obtain ⟨y, r, rfl, h⟩ := pI_some h
    refine lv_i2l hx hb hd rfl ?_
    rw [← hp]
    exact ih _ _ _ _ _ _ _ _ _ _ h hlh hW hS hEe hrc hrs
  | l2i =>
    simp only [ex1] at h
    simp only [chk, nx, dc, jp, Bool.and_eq_true, decide_eq_true_eq] at hck
    obtain ⟨hd, hp⟩ := hck
    obtain ⟨y, r, rfl, h⟩ := pJ_some h
    refine lv_l2i hx hb hd rfl ?_
    rw [← hp]
    exact ih _ _ _ _ _ _ _ _ _ _ h hlh hW hS hEe hrc hrs
  | i2b =>
    simp only [ex1] at h
    simp only [chk, nx, dc, jp, Bool.and_eq_true, decide_eq_true_eq] at hck
    obtain ⟨hd, hp⟩ := hck
    obtain ⟨y, r, rfl, h⟩ := pI_some h
    refine lv_i2b hx hb hd rfl ?_
    rw [← hp]
    exact ih _ _ _ _ _ _ _ _ _ _ h hlh hW hS hEe hrc hrs
  | dup =>
    simp only [ex1] at h
    simp only [chk, nx, dc, jp, Bool.and_eq_true, decide_eq_true_eq] at hck
    obtain ⟨hd, hp⟩ := hck
    split at h
    · refine lv_dup hx hb hd rfl ?_
      rw [← hp]
      exact ih _ _ _ _ _ _ _ _ _ _ h hlh hW hS hEe hrc hrs
    · refine lv_dup hx hb hd rfl ?_
      rw [← hp]
      exact ih _ _ _ _ _ _ _ _ _ _ h hlh hW hS hEe hrc hrs
    · cases h
  | dup2 =>
    simp only [ex1] at h
    simp only [chk, nx, dc, jp, Bool.and_eq_true, decide_eq_true_eq] at hck
    obtain ⟨hd, hp⟩ := hck
    split at h
    · refine lv_dup2_11 hx hb hd rfl rfl ?_
      rw [← hp]
      exact ih _ _ _ _ _ _ _ _ _ _ h hlh hW hS hEe hrc hrs
    · cases h
  | pop =>
    simp only [ex1] at h
    simp only [chk, nx, dc, jp, Bool.and_eq_true, decide_eq_true_eq] at hck
    obtain ⟨hd, hp⟩ := hck
    split at h
    · refine lv_pop hx hb hd rfl ?_
      rw [← hp]
      exact ih _ _ _ _ _ _ _ _ _ _ h hlh hW hS hEe hrc hrs
    · cases h
  | getfield y =>
    simp only [ex1] at h
    simp only [chk, nx, dc, jp, Bool.and_eq_true, decide_eq_true_eq] at hck
    obtain ⟨⟨hm, hg⟩, hd, hp⟩ := hck
    obtain ⟨a, r, rfl, h⟩ := pR_some h
    obtain ⟨ha, h⟩ := gd_some h
    obtain ⟨ty, hty, hw⟩ := gt_cases hg
    have hl9 : flk args s (cnm (tO t)) y u w1 := by
      rcases hm with hm | hm
      · exact Or.inl (hts _ (flW hm rfl))
      · exact Or.inr ⟨_, va_Nw.use rfl (hE.2.1 _ hm rfl)⟩
    refine x_get hx hb hts clIn hown hK hW ha hty hl9 hd ?_
    rw [← hp]
    rcases hw with ⟨hy, rfl⟩ | ⟨rfl, rfl⟩ | ⟨rfl, rfl | rfl⟩
    · have ef : fv_ S a ty w1 = .int (aI S a w1) := by rcases hy with rfl | rfl <;> rfl
      rw [ef]
      exact ih _ _ _ _ _ _ _ _ _ _ h hlh hW hS hEe hrc hrs
    · exact ih _ _ _ _ _ _ _ _ _ _ h hlh hW hS hEe hrc hrs
    · obtain ⟨y9, hy9, h⟩ := nR_some h
      have ef : fv_ S a 2 w1 = .ref y9 := by show va_rf _ = _; rw [hy9]; rfl
      rw [ef]
      exact ih _ _ _ _ _ _ _ _ _ _ h hlh hW hS hEe hrc hrs
    · simp only [nQ] at h
      split at h
      · next y9 hy9 =>
        have ef : fv_ S a 2 w1 = .ref y9 := by show va_rf _ = _; rw [hy9]; rfl
        rw [ef]
        exact ih _ _ _ _ _ _ _ _ _ _ h hlh hW hS hEe hrc hrs
      · next hy9 =>
        have ef : fv_ S a 2 w1 = .null := by show va_rf _ = _; rw [hy9]; rfl
        rw [ef]
        exact ih _ _ _ _ _ _ _ _ _ _ h hlh hW hS hEe hrc hrs
  | putfield y =>
    simp only [ex1] at h
    simp only [chk, nx, dc, jp, Bool.and_eq_true, decide_eq_true_eq] at hck
    obtain ⟨⟨⟨hm, hg⟩, hfi⟩, hd, hp⟩ := hck
    obtain ⟨ty, hty, hw⟩ := pt_cases hg
    have hu := fT_lt hty
    have hv9 : w1 < (clX u).2.2 := by rw [← fT_len u hu]; exact (List.getElem?_eq_some_iff.mp hty).1
    obtain ⟨ty0, ty4, ty1, ty2⟩ := ty_of hu hv9 hty
    have hl9 : (Cond.fieldLink (cnm (tO t)) y ((clX u).2.1 w1).1 ((clX u).2.1 w1).2.1 ((clX u).2.1 w1).2.2.1).before args s = true ∨ (((clX u).2.1 w1).2.2.2 = false ∧ ∃ host, (Cond.fieldLinkNest (cnm (tO t)) y ((clX u).2.1 w1).1 ((clX u).2.1 w1).2.1 ((clX u).2.1 w1).2.2.1 host).before args s = true) := by
      rcases hm with hm | ⟨hm, hf9⟩
      · exact Or.inl (hts _ (flW hm rfl))
      · exact Or.inr ⟨hf9, _, va_Nw.use rfl (hE.2.1 _ hm rfl)⟩
    have hfin : ((clX u).2.1 w1).2.2.2 = false ∨ (meth.name = "<init>" ∧ ((clX u).2.1 w1).1 = cnm (tO t)) := by
      rcases hfi with hf9 | ⟨hf8, hf9⟩
      · exact Or.inl hf9
      · exact Or.inr ⟨hnm hf8, by rw [hf9]; exact hok0.1.1.2⟩
    rcases hw with ⟨rfl, rfl⟩ | ⟨rfl, rfl⟩ | ⟨rfl, rfl⟩ | ⟨rfl, rfl⟩
    · obtain ⟨x, r, rfl, h⟩ := pI_some h
      obtain ⟨a, r, rfl, h⟩ := pR_some h
      obtain ⟨ha, h⟩ := gd_some h
      refine x_put hx hb hts clIn hown hK hW hS ha hu hv9 hl9 hfin (by rw [ty0 rfl]; rfl) (by rw [ty0 rfl]; rfl) (pF_wI ha hu hty (by omega) (by omega)) rfl rfl hd (fun H1 locs1 hW1 hS1 => ?_)
      rw [← hp]
      exact ih _ _ _ _ _ _ _ _ _ _ h hlh hW1 hS1 hEe hrc hrs
    · obtain ⟨x, r, rfl, h⟩ := pI_some h
      obtain ⟨a, r, rfl, h⟩ := pR_some h
      obtain ⟨ha, h⟩ := gd_some h
      obtain ⟨h01, h⟩ := gd_some h
      refine x_put hx hb hts clIn hown hK hW hS ha hu hv9 hl9 hfin (by rw [ty4 rfl]; rcases h01 with rfl | rfl <;> rfl) (by rw [ty4 rfl]; rcases h01 with rfl | rfl <;> rfl) (pF_wI ha hu hty (by omega) (by omega)) rfl rfl hd (fun H1 locs1 hW1 hS1 => ?_)
      rw [← hp]
      exact ih _ _ _ _ _ _ _ _ _ _ h hlh hW1 hS1 hEe hrc hrs
    · obtain ⟨x, r, rfl, h⟩ := pJ_some h
      obtain ⟨a, r, rfl, h⟩ := pR_some h
      obtain ⟨ha, h⟩ := gd_some h
      refine x_put hx hb hts clIn hown hK hW hS ha hu hv9 hl9 hfin (by rw [ty1 rfl]; rfl) (by rw [ty1 rfl]; rfl) (pF_wJ ha hu hty) rfl rfl hd (fun H1 locs1 hW1 hS1 => ?_)
      rw [← hp]
      exact ih _ _ _ _ _ _ _ _ _ _ h hlh hW1 hS1 hEe hrc hrs
    · obtain ⟨x, r, rfl, h⟩ := pR_some h
      obtain ⟨a, r, rfl, h⟩ := pR_some h
      obtain ⟨ha, h⟩ := gd_some h
      refine x_put hx hb hts clIn hown hK hW hS ha hu hv9 hl9 hfin (by rcases ty2 rfl with ⟨q9, e9⟩ | ⟨q9, e9⟩ <;> rw [e9] <;> rfl) (by rcases ty2 rfl with ⟨q9, e9⟩ | ⟨q9, e9⟩ <;> rw [e9] <;> rfl) (pF_wR ha hu hty) rfl rfl hd (fun H1 locs1 hW1 hS1 => ?_)
      rw [← hp]
      exact ih _ _ _ _ _ _ _ _ _ _ h hlh hW1 hS1 hEe hrc hrs
  | iaload =>
    simp only [ex1] at h
    simp only [chk, nx, dc, jp, Bool.and_eq_true, decide_eq_true_eq] at hck
    obtain ⟨hu, hd, hp⟩ := hck
    rcases hu with rfl | ⟨rfl, h14⟩
    · obtain ⟨x, r, rfl, h⟩ := pI_some h
      obtain ⟨a, r, rfl, h⟩ := pR_some h
      obtain ⟨⟨ha, hi9⟩, h⟩ := gd_some h
      refine x_iald hx hb hK hW ha hi9 hd ?_
      rw [← hp]
      exact ih _ _ _ _ _ _ _ _ _ _ h hlh hW hS hEe hrc hrs
    · obtain ⟨x, r, rfl, h⟩ := pI_some h
      obtain ⟨a, r, rfl, h⟩ := pR_some h
      obtain ⟨⟨ha, hi9⟩, h⟩ := gd_some h
      obtain ⟨s1, s2, s3⟩ := hsc h14
      rw [hEe] at ha hi9 h
      subst ha
      refine va_sld hx hb s1 s2 s3 hS hi9 hd ?_
      rw [← hp]
      exact ih _ _ _ _ _ _ _ _ _ _ h hlh hW hS hEe hrc hrs
  | baload =>
    simp only [ex1] at h
    simp only [chk, nx, dc, jp, Bool.and_eq_true, decide_eq_true_eq] at hck
    obtain ⟨hu, hd, hp⟩ := hck
    obtain ⟨x, r, rfl, h⟩ := pI_some h
    obtain ⟨a, r, rfl, h⟩ := pR_some h
    obtain ⟨⟨ha, hi9⟩, h⟩ := gd_some h
    refine x_bald hx hb hK hW ha hu hi9 hd ?_
    rw [← hp]
    exact ih _ _ _ _ _ _ _ _ _ _ h hlh hW hS hEe hrc hrs
  | laload =>
    simp only [ex1] at h
    simp only [chk, nx, dc, jp, Bool.and_eq_true, decide_eq_true_eq] at hck
    obtain ⟨hd, hp⟩ := hck
    obtain ⟨x, r, rfl, h⟩ := pI_some h
    obtain ⟨a, r, rfl, h⟩ := pR_some h
    obtain ⟨⟨ha, hi9⟩, h⟩ := gd_some h
    refine x_lald hx hb hK hW ha hi9 hd ?_
    rw [← hp]
    exact ih _ _ _ _ _ _ _ _ _ _ h hlh hW hS hEe hrc hrs
  | aaload =>
    simp only [ex1] at h
    simp only [chk, nx, dc, jp, Bool.and_eq_true, decide_eq_true_eq] at hck
    obtain ⟨hd, hp⟩ := hck
    obtain ⟨x, r, rfl, h⟩ := pI_some h
    obtain ⟨a, r, rfl, h⟩ := pR_some h
    obtain ⟨⟨ha, hi9⟩, h⟩ := gd_some h
    obtain ⟨y9, hy9, h⟩ := nR_some h
    refine x_aald hx hb hK hW ha hi9 hy9 hd ?_
    rw [← hp]
    exact ih _ _ _ _ _ _ _ _ _ _ h hlh hW hS hEe hrc hrs
  | iastore =>
    simp only [ex1] at h
    simp only [chk, nx, dc, jp, Bool.and_eq_true, decide_eq_true_eq] at hck
    obtain ⟨hd, hp⟩ := hck
    obtain ⟨x, r, rfl, h⟩ := pI_some h
    obtain ⟨j, r, rfl, h⟩ := pI_some h
    obtain ⟨a, r, rfl, h⟩ := pR_some h
    obtain ⟨⟨ha, hi9⟩, h⟩ := gd_some h
    refine x_iast hx hb hK hW hS ha hi9 hd (fun H1 locs1 hW1 hS1 => ?_)
    rw [← hp]
    exact ih _ _ _ _ _ _ _ _ _ _ h hlh hW1 hS1 hEe hrc hrs
  | lastore =>
    simp only [ex1] at h
    simp only [chk, nx, dc, jp, Bool.and_eq_true, decide_eq_true_eq] at hck
    obtain ⟨hd, hp⟩ := hck
    obtain ⟨x, r, rfl, h⟩ := pJ_some h
    obtain ⟨j, r, rfl, h⟩ := pI_some h
    obtain ⟨a, r, rfl, h⟩ := pR_some h
    obtain ⟨⟨ha, hi9⟩, h⟩ := gd_some h
    refine x_last hx hb hK hW hS ha hi9 hd (fun H1 locs1 hW1 hS1 => ?_)
    rw [← hp]
    exact ih _ _ _ _ _ _ _ _ _ _ h hlh hW1 hS1 hEe hrc hrs
  | aastore =>
    simp only [ex1] at h
    simp only [chk, nx, dc, jp, Bool.and_eq_true, decide_eq_true_eq] at hck
    obtain ⟨hd, hp⟩ := hck
    obtain ⟨x, r, rfl, h⟩ := pR_some h
    obtain ⟨j, r, rfl, h⟩ := pI_some h
    obtain ⟨a, r, rfl, h⟩ := pR_some h
    obtain ⟨⟨ha, hi9, hx9⟩, h⟩ := gd_some h
    refine x_aast hx hb hK hW hS ha hi9 hx9 hd (fun H1 locs1 hW1 hS1 => ?_)
    rw [← hp]
    exact ih _ _ _ _ _ _ _ _ _ _ h hlh hW1 hS1 hEe hrc hrs
  | bastore =>
    simp only [ex1] at h
    simp only [chk, nx, dc, jp, Bool.and_eq_true, decide_eq_true_eq] at hck
    obtain ⟨hu, hd, hp⟩ := hck
    obtain ⟨x, r, rfl, h⟩ := pI_some h
    obtain ⟨j, r, rfl, h⟩ := pI_some h
    obtain ⟨a, r, rfl, h⟩ := pR_some h
    obtain ⟨⟨ha, hi9⟩, h⟩ := gd_some h
    rcases hu with ⟨rfl, rfl⟩ | ⟨rfl, rfl⟩
    · refine x_bast hx hb hK hW hS ha hi9 hd (fun H1 locs1 hW1 hS1 => ?_)
      rw [← hp]
      exact ih _ _ _ _ _ _ _ _ _ _ h hlh hW1 hS1 hEe hrc hrs
    · obtain ⟨h01, h⟩ := gd_some h
      refine x_zast hx hb hK hW hS ha hi9 h01 hd (fun H1 locs1 hW1 hS1 => ?_)
      rw [← hp]
      exact ih _ _ _ _ _ _ _ _ _ _ h hlh hW1 hS1 hEe hrc hrs
  | arraylength =>
    simp only [ex1] at h
    simp only [chk, nx, dc, jp, Bool.and_eq_true, decide_eq_true_eq] at hck
    obtain ⟨hu, hd, hp⟩ := hck
    rcases hu with rfl | ⟨rfl, h14⟩
    · obtain ⟨a, r, rfl, h⟩ := pR_some h
      obtain ⟨⟨ha, hi9⟩, h⟩ := gd_some h
      refine x_alen hx hb hK hW ha hi9 hd ?_
      rw [← hp]
      exact ih _ _ _ _ _ _ _ _ _ _ h hlh hW hS hEe hrc hrs
    · obtain ⟨a, r, rfl, h⟩ := pR_some h
      obtain ⟨ha, h⟩ := gd_some h
      obtain ⟨s1, s2, s3⟩ := hsc h14
      rw [hEe] at ha h
      subst ha
      refine va_slen hx hb s1 s2 s3 hS hd ?_
      rw [← hp]
      exact ih _ _ _ _ _ _ _ _ _ _ h hlh hW hS hEe hrc hrs
  | newarray y =>
    simp only [ex1] at h
    simp only [chk, nx, dc, jp, Bool.and_eq_true, decide_eq_true_eq] at hck
    obtain ⟨hu, hd, hp⟩ := hck
    obtain ⟨x, r, rfl, h⟩ := pI_some h
    obtain ⟨⟨hn, h6, hb1, hb2⟩, h⟩ := gd_some h
    have hat : y = .int ∧ u = 13 ∨ y = .long ∧ u = 14 ∨ y = .boolean ∧ u = 15 ∨ y = .byte ∧ u = 12 := by cases y <;> simp_all
    refine x_newa hx hb (hts _ (arrW0 _ ?_)) hK hW hS hA hat hn h6 (by omega) (by omega) hd (fun H1 hW1 hS1 => ?_)
    · rcases hat with ⟨rfl, -⟩ | ⟨rfl, -⟩ | ⟨rfl, -⟩ | ⟨rfl, -⟩ <;> simp [newarray.typeOf]
    · rw [← hp]
      exact ih _ _ _ _ _ _ _ _ _ _ h hlh hW1 hS1 hEe (by have := hrc; simp only; omega) (by have := hrs; simp only; omega)
  | anewarray y =>
    simp only [ex1] at h
    simp only [chk, nx, dc, jp, Bool.and_eq_true, decide_eq_true_eq] at hck
    obtain ⟨hu, hd, hp⟩ := hck
    obtain ⟨x, r, rfl, h⟩ := pI_some h
    obtain ⟨⟨hn, h6, hb1, hb2⟩, h⟩ := gd_some h
    refine x_anew hx hb hown (hts _ (nlW0 _ (List.mem_map.mpr ⟨_, hu, rfl⟩))) hE.2.2.2.1 hK hW hS hA hn h6 (by omega) (by omega) hd (fun H1 hW1 hS1 => ?_)
    rw [← hp]
    exact ih _ _ _ _ _ _ _ _ _ _ h hlh hW1 hS1 hEe (by have := hrc; simp only; omega) (by have := hrs; simp only; omega)
  | new y =>
    simp only [ex1] at h
    simp only [chk, nx, dc, jp, Bool.and_eq_true, decide_eq_true_eq] at hck
    obtain ⟨⟨⟨hm, hu⟩, hv9⟩, hd, hp⟩ := hck
    obtain ⟨⟨hb1, hb2⟩, h⟩ := gd_some h
    subst hv9
    refine x_new hx hb hts clIn hown hK hW hS hA hu (hts _ (nlW0 _ (List.mem_map.mpr ⟨_, hm, rfl⟩))) (hts _ (insW0 _ (List.mem_map.mpr ⟨u, List.mem_range.mpr hu, rfl⟩))) (hts _ (iniW0 _ (List.mem_map.mpr ⟨u, List.mem_range.mpr hu, rfl⟩))) (by omega) (by omega) hd (fun H1 hW1 hS1 => ?_)
    rw [← hp]
    exact ih _ _ _ _ _ _ _ _ _ _ h hlh hW1 hS1 hEe (by have := hrc; simp only; omega) (by have := hrs; simp only; omega)
  | if_icmp cd o =>
    simp only [ex1] at h
    simp only [chk, nx, dc, jp, Bool.and_eq_true, decide_eq_true_eq] at hck
    obtain ⟨hj, hd, hp⟩ := hck
    obtain ⟨y, r, rfl, h⟩ := pI_some h
    obtain ⟨x, r, rfl, h⟩ := pI_some h
    cases cd with
    | eq =>
      simp only [cmp_] at h
      refine lv_icmp_eq hx hb hd hj (fun hc9 => ?_) (fun hc9 => ?_)
      · rw [if_pos hc9] at h; exact ih _ _ _ _ _ _ _ _ _ _ h hlh hW hS hEe hrc hrs
      · rw [if_neg hc9] at h; rw [← hp]; exact ih _ _ _ _ _ _ _ _ _ _ h hlh hW hS hEe hrc hrs
    | ne =>
      simp only [cmp_] at h
      refine lv_icmp_ne hx hb hd hj (fun hc9 => ?_) (fun hc9 => ?_)
      · rw [if_neg hc9] at h; exact ih _ _ _ _ _ _ _ _ _ _ h hlh hW hS hEe hrc hrs
      · rw [if_pos hc9] at h; rw [← hp]; exact ih _ _ _ _ _ _ _ _ _ _ h hlh hW hS hEe hrc hrs
    | lt =>
      simp only [cmp_] at h
      refine lv_icmp_lt hx hb hd hj (fun hc9 => ?_) (fun hc9 => ?_)
      · rw [if_pos hc9] at h; exact ih _ _ _ _ _ _ _ _ _ _ h hlh hW hS hEe hrc hrs
      · rw [if_neg hc9] at h; rw [← hp]; exact ih _ _ _ _ _ _ _ _ _ _ h hlh hW hS hEe hrc hrs
    | ge =>
      simp only [cmp_] at h
      refine lv_icmp_ge hx hb hd hj (fun hc9 => ?_) (fun hc9 => ?_)
      · rw [if_pos hc9] at h; exact ih _ _ _ _ _ _ _ _ _ _ h hlh hW hS hEe hrc hrs
      · rw [if_neg hc9] at h; rw [← hp]; exact ih _ _ _ _ _ _ _ _ _ _ h hlh hW hS hEe hrc hrs
    | gt =>
      simp only [cmp_] at h
      refine lv_icmp_gt hx hb hd hj (fun hc9 => ?_) (fun hc9 => ?_)
      · rw [if_pos hc9] at h; exact ih _ _ _ _ _ _ _ _ _ _ h hlh hW hS hEe hrc hrs
      · rw [if_neg hc9] at h; rw [← hp]; exact ih _ _ _ _ _ _ _ _ _ _ h hlh hW hS hEe hrc hrs
    | le =>
      simp only [cmp_] at h
      refine lv_icmp_le hx hb hd hj (fun hc9 => ?_) (fun hc9 => ?_)
      · rw [if_pos hc9] at h; exact ih _ _ _ _ _ _ _ _ _ _ h hlh hW hS hEe hrc hrs
      · rw [if_neg hc9] at h; rw [← hp]; exact ih _ _ _ _ _ _ _ _ _ _ h hlh hW hS hEe hrc hrs
  | ifCond cd o =>
    simp only [ex1] at h
    simp only [chk, nx, dc, jp, Bool.and_eq_true, decide_eq_true_eq] at hck
    obtain ⟨hj, hd, hp⟩ := hck
    obtain ⟨x, r, rfl, h⟩ := pI_some h
    cases cd with
    | eq =>
      simp only [cmp_] at h
      refine lv_if_eq hx hb hd hj (fun hc9 => ?_) (fun hc9 => ?_)
      · rw [if_pos hc9] at h; exact ih _ _ _ _ _ _ _ _ _ _ h hlh hW hS hEe hrc hrs
      · rw [if_neg hc9] at h; rw [← hp]; exact ih _ _ _ _ _ _ _ _ _ _ h hlh hW hS hEe hrc hrs
    | ne =>
      simp only [cmp_] at h
      refine lv_if_ne hx hb hd hj (fun hc9 => ?_) (fun hc9 => ?_)
      · rw [if_neg hc9] at h; exact ih _ _ _ _ _ _ _ _ _ _ h hlh hW hS hEe hrc hrs
      · rw [if_pos hc9] at h; rw [← hp]; exact ih _ _ _ _ _ _ _ _ _ _ h hlh hW hS hEe hrc hrs
    | lt =>
      simp only [cmp_] at h
      refine lv_if_lt hx hb hd hj (fun hc9 => ?_) (fun hc9 => ?_)
      · rw [if_pos hc9] at h; exact ih _ _ _ _ _ _ _ _ _ _ h hlh hW hS hEe hrc hrs
      · rw [if_neg hc9] at h; rw [← hp]; exact ih _ _ _ _ _ _ _ _ _ _ h hlh hW hS hEe hrc hrs
    | ge =>
      simp only [cmp_] at h
      refine lv_if_ge hx hb hd hj (fun hc9 => ?_) (fun hc9 => ?_)
      · rw [if_pos hc9] at h; exact ih _ _ _ _ _ _ _ _ _ _ h hlh hW hS hEe hrc hrs
      · rw [if_neg hc9] at h; rw [← hp]; exact ih _ _ _ _ _ _ _ _ _ _ h hlh hW hS hEe hrc hrs
    | gt =>
      simp only [cmp_] at h
      refine lv_if_gt hx hb hd hj (fun hc9 => ?_) (fun hc9 => ?_)
      · rw [if_pos hc9] at h; exact ih _ _ _ _ _ _ _ _ _ _ h hlh hW hS hEe hrc hrs
      · rw [if_neg hc9] at h; rw [← hp]; exact ih _ _ _ _ _ _ _ _ _ _ h hlh hW hS hEe hrc hrs
    | le =>
      simp only [cmp_] at h
      refine lv_if_le hx hb hd hj (fun hc9 => ?_) (fun hc9 => ?_)
      · rw [if_pos hc9] at h; exact ih _ _ _ _ _ _ _ _ _ _ h hlh hW hS hEe hrc hrs
      · rw [if_neg hc9] at h; rw [← hp]; exact ih _ _ _ _ _ _ _ _ _ _ h hlh hW hS hEe hrc hrs
  | ifnull o =>
    simp only [ex1] at h
    simp only [chk, nx, dc, jp, Bool.and_eq_true, decide_eq_true_eq] at hck
    obtain ⟨hj, hd, hp⟩ := hck
    split at h
    · refine lv_ifnull hx hb hd ?_
      rw [← hp]
      exact ih _ _ _ _ _ _ _ _ _ _ h hlh hW hS hEe hrc hrs
    · refine lv_ifnullN hx hb hd hj ?_
      exact ih _ _ _ _ _ _ _ _ _ _ h hlh hW hS hEe hrc hrs
    · cases h
  | ifnonnull o =>
    simp only [ex1] at h
    simp only [chk, nx, dc, jp, Bool.and_eq_true, decide_eq_true_eq] at hck
    obtain ⟨hj, hd, hp⟩ := hck
    split at h
    · refine lv_ifnonnull hx hb hd hj ?_
      exact ih _ _ _ _ _ _ _ _ _ _ h hlh hW hS hEe hrc hrs
    · refine lv_ifnonnullN hx hb hd ?_
      rw [← hp]
      exact ih _ _ _ _ _ _ _ _ _ _ h hlh hW hS hEe hrc hrs
    · cases h
  | goto o =>
    simp only [ex1] at h
    simp only [chk, nx, dc, jp, Bool.and_eq_true, decide_eq_true_eq] at hck
    obtain ⟨hj, hd⟩ := hck
    refine lv_goto hx hb hd hj ?_
    exact ih _ _ _ _ _ _ _ _ _ _ h hlh hW hS hEe hrc hrs
  | tableswitch df lo hi os =>
    simp only [ex1] at h
    simp only [chk, nx, dc, jp, Bool.and_eq_true, decide_eq_true_eq] at hck
    obtain ⟨⟨⟨hj, hsw⟩, hhi⟩, hd⟩ := hck
    obtain ⟨x, r, rfl, h⟩ := pI_some h
    rcases sw_table ts os.toList lo hsw h with ⟨j, o9, g9, e1, e2, e3, h⟩ | ⟨e1, h⟩
    · have hj9 : j < ts.length := by
        sorry
      refine lv_tableIn hx hb hd (by omega) (by omega) (off := o9) (by rw [e2, show (lo + (j : Int) - lo).toNat = j by omega]; simpa using e1) e3 ?_
      exact ih _ _ _ _ _ _ _ _ _ _ h hlh hW hS hEe hrc hrs
    · refine lv_tableOut hx hb hd (by omega) hj ?_
      exact ih _ _ _ _ _ _ _ _ _ _ h hlh hW hS hEe hrc hrs
  | lookupswitch df ps =>
    simp only [ex1] at h
    simp only [chk, nx, dc, jp, Bool.and_eq_true, decide_eq_true_eq] at hck
    obtain ⟨⟨⟨hj, hsw⟩, hpp⟩, hd⟩ := hck
    obtain ⟨x, r, rfl, h⟩ := pI_some h
    obtain ⟨g9, e3, h⟩ := sw_look hj ts ps.toList hsw h
    refine lv_lookup hx hb hd hpp rfl e3 ?_
    exact ih _ _ _ _ _ _ _ _ _ _ h hlh hW hS hEe hrc hrs
  | invokevirtual y =>
    simp only [ex1] at h
    simp only [chk, nx, dc, jp, Bool.and_eq_true, decide_eq_true_eq] at hck
    obtain ⟨⟨hm, hbr⟩, hd, hp⟩ := hck
    by_cases hu : u < 900
    · rw [if_pos hu] at hbr
      simp only [clT_, Bool.and_eq_true, decide_eq_true_eq] at hbr
      obtain ⟨⟨⟨⟨⟨⟨hF, hL⟩, hrm⟩, hul⟩, hv9⟩, hz⟩, hzc⟩ := hbr
      obtain ⟨xs, r, val, S1, rfl, hlen, hcs, hrk, hb1, hb2, hC, hval, h⟩ := ca_some h (rm_of hrm)
      rw [← hCe] at hC
      simp only [if_pos hu] at hC
      obtain ⟨hcs2, ham⟩ := bo_some hC
      rw [Nat.ble_eq] at hcs2
      obtain ⟨v1, v2, v3, v4⟩ := virtL _ hm rfl hu
      have hM := metX_of hB hul (cO14 u v3) hcs2 hval ham
      obtain ⟨a, As, has, hza⟩ := hrk.resolve_left (by omega)
      have hza := hza.resolve_left (by omega)
      have hn : As.length = tA (mG u) := by have := congrArg List.length has; simp at this; omega
      rw [show xs ++ r = xs.reverse.reverse ++ r by rw [List.reverse_reverse]]
      exact x_callV hcx (mG_ok hul) hM hval hEe (mlV hm rfl hu) (wInst v2) (wSel v1) (wIni v4) (wCode v3) has hn hz hza hzc hF hL hlh.size hcs hW hS (by omega) (by omega) hd (fun H1 locs1 hW1 hE1 hS1 => by rw [← hp]; exact ih _ _ _ _ _ _ _ _ _ _ h hlh hW1 hS1 hE1 (by have := hrc; simp only; omega) (by have := hrs; simp only; omega))
    · rw [if_neg hu] at hbr
      simp only [xT, Bool.and_eq_true, decide_eq_true_eq] at hbr
      obtain ⟨⟨hz, hu9⟩, ⟨hF, hL⟩, hts9⟩ := hbr
      rcases hu9 with rfl | rfl
      · simp only [decide_eq_true_eq] at hts9
        obtain ⟨xs, r, val, S1, rfl, hlen, hcs, hrk, hb1, hb2, hC, hval, h⟩ := ca_some (mc := 0) (ms := 0) h (Or.inl ⟨hts9, rfl, rfl⟩)
        rw [← hCe] at hC
        simp only [if_neg hu] at hC
        rw [show xs ++ r = xs.reverse.reverse ++ r by rw [List.reverse_reverse]]
        exact hx3 t p e R s m args below meth c A Q xs.reverse r S S1 val H locs cu su (tP t k) y Lc hcx hC hEe hm hF hL (fun q => by cases q) (by omega) (by omega) hlh.size hcs hW hS hd (fun H1 locs1 hW1 hE1 hS1 => by rw [← hp]; exact ih _ _ _ _ _ _ _ _ _ _ h hlh hW1 hS1 hE1 (by have := hrc; simp only; omega) (by have := hrs; simp only; omega))
      · simp only [decide_eq_true_eq] at hts9
        obtain ⟨xs, r, val, S1, rfl, hlen, hcs, hrk, hb1, hb2, hC, hval, h⟩ := ca_some (mc := 0) (ms := 0) h (Or.inl ⟨hts9, rfl, rfl⟩)
        rw [← hCe] at hC
        simp only [if_neg hu] at hC
        rw [show xs ++ r = xs.reverse.reverse ++ r by rw [List.reverse_reverse]]
        exact hx4 t p e R s m args below meth c A Q xs.reverse r S S1 val H locs cu su (tP t k) y Lc hcx hC hEe hm hF hL (fun q => by cases q) (by omega) (by omega) hlh.size hcs hW hS hd (fun H1 locs1 hW1 hE1 hS1 => by rw [← hp]; exact ih _ _ _ _ _ _ _ _ _ _ h hlh hW1 hS1 hE1 (by have := hrc; simp only; omega) (by have := hrs; simp only; omega))
  | invokestatic y =>
    simp only [ex1] at h
    simp only [chk, nx, dc, jp, Bool.and_eq_true, decide_eq_true_eq] at hck
    obtain ⟨⟨⟨hm, hz⟩, hbr⟩, hd, hp⟩ := hck
    by_cases hu : u < 900
    · rw [if_pos hu] at hbr
      simp only [clT_, Bool.and_eq_true, decide_eq_true_eq] at hbr
      obtain ⟨⟨⟨⟨hF, hL⟩, hrm⟩, hul⟩, hv9⟩ := hbr
      obtain ⟨xs, r, val, S1, rfl, hlen, hcs, hrk, hb1, hb2, hC, hval, h⟩ := ca_some h (rm_of hrm)
      rw [← hCe] at hC
      simp only [if_pos hu] at hC
      obtain ⟨hcs2, ham⟩ := bo_some hC
      rw [Nat.ble_eq] at hcs2
      obtain ⟨v1, v3, v4⟩ := statL _ hm rfl hu
      have hM := metX_of hB hul (cO14 u v3) hcs2 hval ham
      rw [show xs ++ r = xs.reverse.reverse ++ r by rw [List.reverse_reverse]]
      exact x_callS hcx (mG_ok hul) hM hval hEe (mlS hm rfl hu) (wStat v1) (wIni v4) (wCode v3) (by rw [List.length_reverse, hlen, hv9]) hF hL hlh.size hcs hW hS (by omega) (by omega) hd (fun H1 locs1 hW1 hE1 hS1 => by rw [← hp]; exact ih _ _ _ _ _ _ _ _ _ _ h hlh hW1 hS1 hE1 (by have := hrc; simp only; omega) (by have := hrs; simp only; omega))
    · rw [if_neg hu] at hbr
      simp only [xT, Bool.and_eq_true, decide_eq_true_eq] at hbr
      obtain ⟨hu9, ⟨hF, hL⟩, hts9⟩ := hbr
      rcases hu9 with rfl | rfl | rfl | rfl
      · simp only [decide_eq_true_eq] at hts9
        obtain ⟨xs, r, val, S1, rfl, hlen, hcs, hrk, hb1, hb2, hC, hval, h⟩ := ca_some (mc := 0) (ms := 0) h (Or.inl ⟨hts9, rfl, rfl⟩)
        rw [← hCe] at hC
        simp only [if_neg hu, xtF] at hC
        rw [show xs ++ r = xs.reverse.reverse ++ r by rw [List.reverse_reverse]]
        generalize xs.reverse = as9 at hC
        split at hC
        · cases hC
          refine va_mabs hx hb (by rw [hml, hlh.size]) hown (hts _ (mtL_abs _ (List.mem_map.mpr ⟨_, List.mem_filter.mpr ⟨hm, rfl⟩, rfl⟩))) (hts _ (mtW_abs _ (by simp))) (hts _ (mtW_abs _ (by simp))) (hts _ (mtW_abs _ (by simp))) (Nat.le_trans hF hRf) (by have : 21 ≤ R.locals := Nat.le_trans hL hRl; omega) (by omega) (by omega) hd ?_
          rw [← hp]
          exact ih _ _ _ _ _ _ _ _ _ _ h hlh hW hS hEe (by have := hrc; simp only; omega) (by have := hrs; simp only; omega)
        · cases hC
      · simp only [decide_eq_true_eq] at hts9
        obtain ⟨xs, r, val, S1, rfl, hlen, hcs, hrk, hb1, hb2, hC, hval, h⟩ := ca_some (mc := 0) (ms := 0) h (Or.inl ⟨hts9, rfl, rfl⟩)
        rw [← hCe] at hC
        simp only [if_neg hu, xtF] at hC
        rw [show xs ++ r = xs.reverse.reverse ++ r by rw [List.reverse_reverse]]
        generalize xs.reverse = as9 at hC
        split at hC
        · cases hC
          refine va_mmax hx hb (by rw [hml, hlh.size]) hown (hts _ (mtL_max _ (List.mem_map.mpr ⟨_, List.mem_filter.mpr ⟨hm, rfl⟩, rfl⟩))) (hts _ (mtW_max _ (by simp))) (hts _ (mtW_max _ (by simp))) (hts _ (mtW_max _ (by simp))) (Nat.le_trans hF hRf) (by have : 21 ≤ R.locals := Nat.le_trans hL hRl; omega) (by omega) (by omega) hd ?_
          rw [← hp]
          exact ih _ _ _ _ _ _ _ _ _ _ h hlh hW hS hEe (by have := hrc; simp only; omega) (by have := hrs; simp only; omega)
        · cases hC
      · simp only [decide_eq_true_eq] at hts9
        obtain ⟨xs, r, val, S1, rfl, hlen, hcs, hrk, hb1, hb2, hC, hval, h⟩ := ca_some (mc := 0) (ms := 0) h (Or.inl ⟨hts9, rfl, rfl⟩)
        rw [← hCe] at hC
        simp only [if_neg hu, xtF] at hC
        rw [show xs ++ r = xs.reverse.reverse ++ r by rw [List.reverse_reverse]]
        generalize xs.reverse = as9 at hC
        split at hC
        · cases hC
          refine va_mmin hx hb (by rw [hml, hlh.size]) hown (hts _ (mtL_min _ (List.mem_map.mpr ⟨_, List.mem_filter.mpr ⟨hm, rfl⟩, rfl⟩))) (hts _ (mtW_min _ (by simp))) (hts _ (mtW_min _ (by simp))) (hts _ (mtW_min _ (by simp))) (Nat.le_trans hF hRf) (by have : 21 ≤ R.locals := Nat.le_trans hL hRl; omega) (by omega) (by omega) hd ?_
          rw [← hp]
          exact ih _ _ _ _ _ _ _ _ _ _ h hlh hW hS hEe (by have := hrc; simp only; omega) (by have := hrs; simp only; omega)
        · cases hC
      · simp only [decide_eq_true_eq] at hts9
        obtain ⟨xs, r, val, S1, rfl, hlen, hcs, hrk, hb1, hb2, hC, hval, h⟩ := ca_some (mc := 1) (ms := 6) h (Or.inr ⟨0, 0, hts9⟩)
        rw [← hCe] at hC
        simp only [if_neg hu] at hC
        rw [show xs ++ r = xs.reverse.reverse ++ r by rw [List.reverse_reverse]]
        exact hx5 t p e R s m args below meth c A Q xs.reverse r S S1 val H locs cu su (tP t k) y Lc hcx hC hEe hm hF hL (fun q => ⟨by omega, by omega⟩) (by omega) (by omega) hlh.size hcs hW hS hd (fun H1 locs1 hW1 hE1 hS1 => by rw [← hp]; exact ih _ _ _ _ _ _ _ _ _ _ h hlh hW1 hS1 hE1 (by have := hrc; simp only; omega) (by have := hrs; simp only; omega))
  | invokespecial y =>
    simp only [ex1] at h
    simp only [chk, nx, dc, jp, Bool.and_eq_true, decide_eq_true_eq] at hck
    obtain ⟨hbr, hd, hp⟩ := hck
    by_cases hw : w = 9
    · subst hw
      simp only [if_true, Bool.and_eq_true, decide_eq_true_eq] at hbr
      obtain ⟨⟨hm, hF⟩, hL⟩ := hbr
      obtain ⟨a, r, rfl, h⟩ := pR_some h
      obtain ⟨hcs, h⟩ := bo_some h
      rw [Nat.ble_eq, cs_sum] at hcs
      refine W.objInit hx hb hown (hts _ (obL _ (List.mem_map.mpr ⟨_, List.mem_filter.mpr ⟨hm, rfl⟩, rfl⟩))) (hts _ (obW _ (by simp))) (hts _ (obW _ (by simp))) rfl (by rw [hml]; exact hlh.size) rfl hd (Nat.le_trans hF hRf) (by show 2 * 0 + _ + 12 ≤ _; have : 20 ≤ R.locals := Nat.le_trans hL hRl; omega) ?_
      refine W.eq (g2 := F0 m (tP t (k + 1)) Lc r) (by rw [hp]) ?_
      exact ih _ _ _ _ _ _ _ _ _ _ h hlh hW hS hEe hrc hrs
    · rw [if_neg hw] at hbr
      simp only [clT_, Bool.and_eq_true, decide_eq_true_eq] at hbr
      obtain ⟨⟨⟨⟨⟨⟨⟨⟨hu, hz⟩, hm⟩, hF, hL⟩, hrm⟩, hul⟩, hv9⟩, hrt9⟩, hin9⟩ := hbr
      have h : ca_ u w1 w 98 ts st b S C (fun st b S => am aCode aML aMb (xtF lx) n id (k + 1) ls st b S) = some (v, S') := by
        split at h
        · exact absurd rfl hw
        · exact h
      obtain ⟨xs, r, val, S1, rfl, hlen, hcs, hrk, hb1, hb2, hC, hval, h⟩ := ca_some h (rm_of hrm)
      rw [← hCe] at hC
      simp only [if_pos hu] at hC
      obtain ⟨hcs2, ham⟩ := bo_some hC
      rw [Nat.ble_eq] at hcs2
      have hsp : u ∈ wInst_L ∧ u ∈ wCode_L ∧ u ∈ wIni_L := by
        rcases hm with hm | hm | hm
        · exact specL _ hm (Or.inl rfl)
        · exact specL _ hm (Or.inr (Or.inl rfl))
        · exact specL _ hm (Or.inr (Or.inr rfl))
      obtain ⟨v2, v3, v4⟩ := hsp
      have hM := metX_of hB hul (cO14 u v3) hcs2 hval ham
      have hlk : Cond.methodLink (cnm (tO t)) y (tY (mG u)) ∈ wsG ∨ ∃ host, va_Nw (Cond.methodLinkNest (cnm (tO t)) y (tY (mG u)) host) s := by
        rcases hm with hm | hm | hm
        · exact Or.inl (mlI hm rfl hu)
        · exact Or.inr ⟨_, (hE.2.2.1 _ hm).1 rfl⟩
        · exact Or.inr ⟨_, (hE.2.2.1 _ hm).2 rfl⟩
      obtain ⟨a, As, hxr, -⟩ := hrk.resolve_left (by omega)
      have hn : As.length = tA (mG u) := by have := congrArg List.length hxr; simp at this; omega
      rw [show xs ++ r = xs.reverse.reverse ++ r by rw [List.reverse_reverse]]
      exact x_callI hcx (mG_ok hul) hM hval hEe hlk (wInst v2) (wIni v4) (wCode v3) hrt9 hin9 hxr hn hF hL hlh.size hcs hW hS (by omega) (by omega) hd (fun H1 locs1 hW1 hE1 hS1 => by rw [← hp]; exact ih _ _ _ _ _ _ _ _ _ _ h hlh hW1 hS1 hE1 (by have := hrc; simp only; omega) (by have := hrs; simp only; omega))
  | ireturn =>
    simp only [ex1] at h
    simp only [chk, nx, dc, jp, Bool.and_eq_true, decide_eq_true_eq] at hck
    obtain ⟨hr9, hd⟩ := hck
    split at h
    · next x =>
      by_cases hw : w = 0
      · subst hw
        simp only [decide_eq_true_eq] at hr9
        cases h
        exact hrt _ Lc H locs cu su (by omega) (by omega) hW hEe hS (fun q => by cases q) (fun y9 q => ⟨Or.inl hr9, hd⟩) (fun y9 q => by cases q) (fun q => by cases q) (Or.inr (Or.inl ⟨_, rfl⟩))
      · obtain ⟨w, rfl⟩ : ∃ w9, w = w9 + 1 := ⟨w - 1, by omega⟩
        simp only [decide_eq_true_eq] at hr9
        obtain ⟨h01, h⟩ := gd_some h
        cases h
        exact hrt _ Lc H locs cu su (by omega) (by omega) hW hEe hS (fun q => by cases q) (fun y9 q => ⟨Or.inr ⟨hr9, by cases q; exact h01⟩, hd⟩) (fun y9 q => by cases q) (fun q => by cases q) (Or.inr (Or.inl ⟨_, rfl⟩))
    · cases h
  | lreturn =>
    simp only [ex1] at h
    simp only [chk, nx, dc, jp, Bool.and_eq_true, decide_eq_true_eq] at hck
    obtain ⟨hr9, hd⟩ := hck
    split at h
    · cases h
      exact hrt _ Lc H locs cu su (by omega) (by omega) hW hEe hS (fun q => by cases q) (fun y9 q => by cases q) (fun y9 q => ⟨hr9, hd⟩) (fun q => by cases q) (Or.inr (Or.inr (Or.inl ⟨_, rfl⟩)))
    · cases h
  | return_ =>
    simp only [ex1] at h
    simp only [chk, nx, dc, jp, Bool.and_eq_true, decide_eq_true_eq] at hck
    obtain ⟨hr9, hd⟩ := hck
    split at h
    · cases h
      exact hrt _ Lc H locs cu su (by omega) (by omega) hW hEe hS (fun q => ⟨hr9, hd⟩) (fun y9 q => by cases q) (fun y9 q => by cases q) (fun q => by cases q) (Or.inl rfl)
    · cases h
  | nop =>
    simp only [ex1] at h
    simp only [chk, nx, dc, jp, Bool.and_eq_true, decide_eq_true_eq] at hck
    by_cases hu7 : u = 7
    · subst hu7
      simp only at h
      split at h
      · cases h
        exact hrt _ Lc H locs cu su (by omega) (by omega) hW hEe hS (fun q => by cases q) (fun y9 q => by cases q) (fun y9 q => by cases q) (fun q => ⟨k, _, hi9, rfl, rfl, rfl⟩) (Or.inr (Or.inr (Or.inr rfl)))
      · cases h
    · have h : am aCode aML aMb (xtF lx) n id (k + 1) (mk_ ts ls) st b S = some (v, S') := by
        split at h
        · exact absurd rfl hu7
        · exact h
      rw [← hck]
      exact ih _ _ _ _ _ _ _ _ _ _ h (hlh.mk ts) hW hS hEe hrc hrs
  | _ => simp [ex1] at h
