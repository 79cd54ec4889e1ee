/-! calls -/
theorem goodX {ws : List Cond} (h : ∀ w ∈ ws, w ∈ wsG) : GoodIn wsG ws := fun w hw => ⟨h w hw, good_of_word (wsG_good w (h w hw))⟩
theorem tP0 : ∀ t ∈ metaL, tP t 0 = 0 := by decide +kernel
theorem metX_of {l : Launch} {D : va_G} {cy : Nat → ClassId} {adV : Nat → Nat} {E : aEt} {lx : List Value → aH → aO} {n u : Nat} (hB : Bd l D cy adV E lx n) (hul : u < metaL.length) (h14 : tO (mG u) ≠ 14) {as : List Value} {S S' : aH} {v : Option Value} (hcs : cs_ as ≤ aML u) (hv : v = none ∨ (∃ x, v = some (.int x)) ∨ ∃ x, v = some (.long x)) (h : am aCode aML aMb (xtF lx) n u 0 (pd_ (ea_ as) (aML u)) [] (aMb u) S = some (v, S')) : MetX l D cy adV E (mG u) as S v S' := by
  have e := mGx_of hul
  have hl : u < 317 := by rw [metaL_len] at hul; omega
  have := met_of hB hl (by rw [e]; exact h14) hcs hv h (by rw [e]; exact tP0 _ (by unfold mG; rw [List.getD_eq_getElem?_getD, List.getElem?_eq_getElem hul]; exact List.getElem_mem hul))
  rwa [e] at this
theorem cO14 : ∀ u ∈ wCode_L, tO (mG u) ≠ 14 := by decide +kernel
theorem Wd.out {D : va_G} {cy : Nat → ClassId} {A : Nat → Prop} {S : aH} {H H0 : Heap} {locs : List Loc} (h : Wd D cy A S H) (hS : va_S A H0 H locs) (hA : ∀ q, H0.size ≤ q → A q) : ∀ q, A_of S q → A q := by
  intro q hq
  obtain ⟨L, h1, h2, h3, h4⟩ := h
  rcases hq with hq | hq
  · obtain ⟨k, hk⟩ := Wd.at (D := D) (A := A) (H := H) (cy := cy) h1 (a := q) hq
    exact h3.2 k _ hk
  · exact hA q (Nat.le_trans hS.1 (by rw [h4]; exact hq))
theorem Wd.any {D : va_G} {cy : Nat → ClassId} {A : Nat → Prop} {S : aH} {H : Heap} (h : Wd D cy A S H) : Wd D cy (fun _ => True) S H := h.weaken (fun _ _ => trivial)
section XC
variable {p : Program} {l : Launch} {e : Env} {R : Room} {s : State} {m : MethodId} {args : Array Value} {below : List Frame} {meth : Method} {c : Code} {H : Heap} {locs : List Loc} {cu su : Nat} {Q : State → Prop}
variable {D : va_G} {cy : Nat → ClassId} {adV : Nat → Nat} {E : aEt} {A : Nat → Prop} {S S' : aH} {t t' : aMt} {as rest : List Value} {v : Option Value} {pc x : Nat} {Lc : Array Slot}
/-- what comes back -/
theorem x_back (hv : v = none ∨ (∃ x, v = some (.int x)) ∨ ∃ x, v = some (.long x)) {ar : Array Value} {st0 : List Value} (hr : va_Run p l e R s m args below meth c H locs cu su (tM t').1 (tM t').2 (F0 m pc Lc st0) rest (PostX D cy E (A_of S) v S' ar) (A_of S)) (hS : va_S A s.heap H locs) (hA : ∀ q, A_of S q → A q)
    (kk : ∀ (H1 : Heap) (locs1 : List Loc), Wd D cy A S' H1 → aE S' = E → va_S A s.heap H1 locs1 → W p l e R s m args below meth c H1 locs1 (cu + (tM t').1) (su + (tM t').2) Q (F0 m (pc + 3) Lc (v.toList ++ rest))) : W p l e R s m args below meth c H locs cu su Q (F0 m pc Lc st0) := by
  rcases hv with rfl | ⟨y, rfl⟩ | ⟨y, rfl⟩
  · refine va_callv (a := ar) hr hS (fun q _ h => hA q h) hA (fun u tt H1 locs1 ht hvm hw hB hz1 hk1 hS1 => ?_)
    subst hw
    rw [ht] at hB
    exact kk H1 locs1 (hB.1.weaken hA) hB.2 hS1
  · refine va_calli (a := ar) hr hS (fun q _ h => hA q h) hA (fun r u tt H1 locs1 ht hvm hw hB hz1 hk1 hS1 => ?_)
    obtain ⟨rfl, rfl⟩ := hw
    rw [ht] at hB
    exact kk H1 locs1 (hB.1.weaken hA) hB.2 hS1
  · refine va_calll (a := ar) hr hS (fun q _ h => hA q h) hA (fun r u tt H1 locs1 ht hvm hw hB hz1 hk1 hS1 => ?_)
    obtain ⟨rfl, rfl⟩ := hw
    rw [ht] at hB
    exact kk H1 locs1 (hB.1.weaken hA) hB.2 hS1
theorem x_pre (hE : Ev D cy E.1 adV A s) (hS : va_S A s.heap H locs) (hW : Wd D cy A S H) (hA : ∀ q, A_of S q → A q) (hEe : aE S = E) : ∀ U : State, U.heap = H → s.WarmedH U.vm → va_Pc as (PreX D cy adV E S) as.toArray U := fun U hU hw => ⟨rfl, by rw [hU]; exact hW.any, hE.call hS hA hU hw, hEe⟩
theorem x_callV (hcx : Cx l D cy adV E t p R s m args meth c A) (hck : chkT t' = true) (hM : MetX l D cy adV E t' as S v S') (hv : v = none ∨ (∃ x, v = some (.int x)) ∨ ∃ x, v = some (.long x)) (hEe : aE S = E)
    (w1 : Cond.methodLink (cnm (tO t)) x (tY t') ∈ wsG) (w2 : Cond.instanceMethod (tY t') ∈ wsG) (w3 : Cond.selects (tY t').cls (tY t') (tY t') ∈ wsG) (w4 : Cond.initialized (tY t').cls ∈ wsG) (w5 : Cond.code (tY t') (tB t') (tL t') (tR t') ∈ wsG)
    {a : Nat} {As : List Value} (has : as = .ref a :: As) (hn : As.length = tA t') {z : Nat} (hz : z < 12) (hza : aK S a = z) (hzc : (clX z).1 = (tY t').cls) (hF : tF t' + 1 ≤ tF t) (hL : 8 + (tL t' + 11) + tW t' ≤ tW t)
    (hsz : Lc.size = tL t) (hcs : (rest.map fun v => v.category).sum ≤ 8) (hW : Wd D cy A S H) (hS : va_S A s.heap H locs) (hrc : cu + (tM t').1 ≤ R.cells) (hrs : su + (tM t').2 ≤ R.slots) (hd : decode (tB t) pc = .ok (.invokevirtual x, 3))
    (kk : ∀ (H1 : Heap) (locs1 : List Loc), Wd D cy A S' H1 → aE S' = E → va_S A s.heap H1 locs1 → W p l e R s m args below meth c H1 locs1 (cu + (tM t').1) (su + (tM t').2) Q (F0 m (pc + 3) Lc (v.toList ++ rest))) : W p l e R s m args below meth c H locs cu su Q (F0 m pc Lc (as.reverse ++ rest)) := by
  obtain ⟨hx, hb, hml, hown, hts, hnm, hE, hA, hRf, hRl, hsc⟩ := hcx
  unfold chkT at hck
  simp only [Bool.and_eq_true, decide_eq_true_eq] at hck
  obtain ⟨⟨⟨⟨hpl, hcn⟩, har⟩, hmh⟩, hcl⟩ := hck
  have hAo := hW.out hS hA
  subst has
  have hrecv : ∃ cellB : Cell, H[a]? = some cellB ∧ cellB.vm.isStatics = false ∧ s.vm.findClass (tY t').cls = some cellB.cls := by
    obtain ⟨L, h1, hP, hD, hz0⟩ := id hW
    obtain ⟨k, hk⟩ := Wd.at (D := D) (A := A) (H := H) (cy := cy) h1 (a := a) (by omega)
    rw [pF_obj hza hz] at hk
    rw [← hzc]
    exact va_recv hE.1 hP (clX_at hz) hk
  refine x_back (t' := t') (ar := (Value.ref a :: As).toArray) (st0 := (Value.ref a :: As).reverse ++ rest) hv ?_ hS hAo kk
  refine va_runV (As := As) (rest := rest) (b := a) (C := (tY t').cls) ⟨hx, hb, hml, hown, hts⟩ hM (cwV (tA t') hts (goodX (fun w hw => ?_)) rfl rfl rfl ⟨rfl, hmh.1, hmh.2, har⟩ ⟨Nat.le_trans hF hRf, Nat.le_trans hL hRl⟩) ⟨PreX.blind, hrecv, x_pre hE hS hW hAo hEe⟩ rfl hn hsz (by simp) (lv_room hcs) hd ⟨hrc, hrs⟩
  simp only [wsV, wsX, List.mem_append, List.mem_cons, List.not_mem_nil, or_false] at hw
  rcases hw with (rfl | rfl | rfl | rfl) | rfl | hw
  · exact w1
  · exact w2
  · exact w3
  · exact w4
  · exact w5
  · exact hw
theorem x_callS (hcx : Cx l D cy adV E t p R s m args meth c A) (hck : chkT t' = true) (hM : MetX l D cy adV E t' as S v S') (hv : v = none ∨ (∃ x, v = some (.int x)) ∨ ∃ x, v = some (.long x)) (hEe : aE S = E)
    (w1 : Cond.methodLink (cnm (tO t)) x (tY t') ∈ wsG) (w2 : Cond.static (tY t') ∈ wsG) (w4 : Cond.initialized (tY t').cls ∈ wsG) (w5 : Cond.code (tY t') (tB t') (tL t') (tR t') ∈ wsG)
    (hn : as.length = tA t') (hF : tF t' + 1 ≤ tF t) (hL : 8 + (tL t' + 11) + tW t' ≤ tW t)
    (hsz : Lc.size = tL t) (hcs : (rest.map fun v => v.category).sum ≤ 8) (hW : Wd D cy A S H) (hS : va_S A s.heap H locs) (hrc : cu + (tM t').1 ≤ R.cells) (hrs : su + (tM t').2 ≤ R.slots) (hd : decode (tB t) pc = .ok (.invokestatic x, 3))
    (kk : ∀ (H1 : Heap) (locs1 : List Loc), Wd D cy A S' H1 → aE S' = E → va_S A s.heap H1 locs1 → W p l e R s m args below meth c H1 locs1 (cu + (tM t').1) (su + (tM t').2) Q (F0 m (pc + 3) Lc (v.toList ++ rest))) : W p l e R s m args below meth c H locs cu su Q (F0 m pc Lc (as.reverse ++ rest)) := by
  obtain ⟨hx, hb, hml, hown, hts, hnm, hE, hA, hRf, hRl, hsc⟩ := hcx
  unfold chkT at hck
  simp only [Bool.and_eq_true, decide_eq_true_eq] at hck
  obtain ⟨⟨⟨⟨hpl, hcn⟩, har⟩, hmh⟩, hcl⟩ := hck
  have hAo := hW.out hS hA
  refine x_back (t' := t') (ar := as.toArray) (st0 := as.reverse ++ rest) hv ?_ hS hAo kk
  refine va_runS (As := as) (rest := rest) ⟨hx, hb, hml, hown, hts⟩ hM ⟨callB_of (tA t') hts (goodX (fun w hw => ?_)) rfl rfl rfl (hts _ w4) (hts _ w1) ⟨hmh.1, hmh.2, har⟩ ⟨Nat.le_trans hF hRf, Nat.le_trans hL hRl⟩, hts _ w2⟩ ⟨PreX.blind, x_pre hE hS hW hAo hEe⟩ rfl hn hsz rfl (lv_room hcs) hd ⟨hrc, hrs⟩
  simp only [wsX, List.mem_cons] at hw
  rcases hw with rfl | hw
  · exact w5
  · exact hw
theorem x_callI (hcx : Cx l D cy adV E t p R s m args meth c A) (hck : chkT t' = true) (hM : MetX l D cy adV E t' as S v S') (hv : v = none ∨ (∃ x, v = some (.int x)) ∨ ∃ x, v = some (.long x)) (hEe : aE S = E)
    (w1 : Cond.methodLink (cnm (tO t)) x (tY t') ∈ wsG ∨ ∃ host, va_Nw (Cond.methodLinkNest (cnm (tO t)) x (tY t') host) s) (w2 : Cond.instanceMethod (tY t') ∈ wsG) (w4 : Cond.initialized (tY t').cls ∈ wsG) (w5 : Cond.code (tY t') (tB t') (tL t') (tR t') ∈ wsG) (hret : tR t' = none) (hini : (tY t').name = "<init>")
    {a : Nat} {As : List Value} (has : as = .ref a :: As) (hn : As.length = tA t') (hF : tF t' + 1 ≤ tF t) (hL : 8 + (tL t' + 11) + tW t' ≤ tW t)
    (hsz : Lc.size = tL t) (hcs : (rest.map fun v => v.category).sum ≤ 8) (hW : Wd D cy A S H) (hS : va_S A s.heap H locs) (hrc : cu + (tM t').1 ≤ R.cells) (hrs : su + (tM t').2 ≤ R.slots) (hd : decode (tB t) pc = .ok (.invokespecial x, 3))
    (kk : ∀ (H1 : Heap) (locs1 : List Loc), Wd D cy A S' H1 → aE S' = E → va_S A s.heap H1 locs1 → W p l e R s m args below meth c H1 locs1 (cu + (tM t').1) (su + (tM t').2) Q (F0 m (pc + 3) Lc (v.toList ++ rest))) : W p l e R s m args below meth c H locs cu su Q (F0 m pc Lc (as.reverse ++ rest)) := by
  obtain ⟨hx, hb, hml, hown, hts, hnm, hE, hA, hRf, hRl, hsc⟩ := hcx
  unfold chkT at hck
  simp only [Bool.and_eq_true, decide_eq_true_eq] at hck
  obtain ⟨⟨⟨⟨hpl, hcn⟩, har⟩, hmh⟩, hcl⟩ := hck
  have hAo := hW.out hS hA
  subst has
  have hG : GoodIn wsG (wsX t') := goodX (fun w hw => by
    simp only [wsX, List.mem_cons] at hw
    rcases hw with rfl | hw
    · exact w5
    · exact hw)
  have hwx : wsX t' = Cond.code (tY t') (tB t') (tL t') none :: wsG := by unfold wsX; rw [hret]
  refine x_back (t' := t') (ar := (Value.ref a :: As).toArray) (st0 := (Value.ref a :: As).reverse ++ rest) hv ?_ hS hAo kk
  rcases w1 with w1 | ⟨host, w1⟩
  · exact va_runI (As := As) (rest := rest) (b := a) ⟨hx, hb, hml, hown, hts⟩ hM (cwI (tA t') hts hG hwx rfl rfl (hts _ w4) (hts _ w1) (hts _ w2) hini ⟨hmh.1, hmh.2, har⟩ ⟨Nat.le_trans hF hRf, Nat.le_trans hL hRl⟩) ⟨PreX.blind, x_pre hE hS hW hAo hEe⟩ rfl hn hsz (by simp) (lv_room hcs) hd ⟨hrc, hrs⟩
  · exact va_runIN (As := As) (rest := rest) (b := a) ⟨hx, hb, hml, hown, hts⟩ hM ⟨va_cnB (tA t') hts hG hwx rfl rfl w1 (hts _ w4) ⟨hmh.1, hmh.2, har⟩ ⟨Nat.le_trans hF hRf, Nat.le_trans hL hRl⟩, hini, hts _ w2⟩ ⟨PreX.blind, x_pre hE hS hW hAo hEe⟩ rfl hn hsz (by simp) (lv_room hcs) hd ⟨hrc, hrs⟩
end XC
