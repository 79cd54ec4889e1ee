section XA
variable {p : Program} {l : Launch} {e : Env} {R : Room} {s : State} {m : MethodId} {args : Array Value} {below : List Frame} {meth : Method} {c : Code} {H : Heap} {locs : List Loc} {cells slots : Nat} {Q : State → Prop}
variable {cc : ByteArray} {pc : Nat} {ls : Array Slot} {rest : List Value} {D : va_G} {cy : Nat → ClassId} {A : Nat → Prop} {H0 : Heap} {S : aH} {a : Nat} {i : Int32}
theorem x_iald (hx : p.tables.exec = Jvm.exec) (hb : c.code = cc) (hK : va_K D vwCl (tysA cy) s) (hW : Wd D cy A S H) (ha : aK S a = 13) (hi : ix_ i (aN S a)) (hdg : decode cc pc = .ok (.iaload, 1))
    (kk : W p l e R s m args below meth c H locs cells slots Q (F0 m (pc + 1) ls (.int (aI S a i.toNatClampNeg) :: rest))) : W p l e R s m args below meth c H locs cells slots Q (F0 m pc ls (.int i :: .ref a :: rest)) := by
  obtain ⟨L, h1, hP, hD, -⟩ := hW
  obtain ⟨k, hk⟩ := Wd.at (D := D) (A := A) (H := H) (cy := cy) h1 (a := a) (by omega)
  rw [pF_I ha (by omega)] at hk
  exact va_iald hx hb hK hP k 1 hk rfl hi hdg kk
theorem x_bald (hx : p.tables.exec = Jvm.exec) (hb : c.code = cc) (hK : va_K D vwCl (tysA cy) s) (hW : Wd D cy A S H) {u : Nat} (ha : aK S a = u) (hu : u = 12 ∨ u = 15) (hi : ix_ i (aN S a)) (hdg : decode cc pc = .ok (.baload, 1))
    (kk : W p l e R s m args below meth c H locs cells slots Q (F0 m (pc + 1) ls (.int (aI S a i.toNatClampNeg) :: rest))) : W p l e R s m args below meth c H locs cells slots Q (F0 m pc ls (.int i :: .ref a :: rest)) := by
  obtain ⟨L, h1, hP, hD, -⟩ := hW
  obtain ⟨k, hk⟩ := Wd.at (D := D) (A := A) (H := H) (cy := cy) h1 (a := a) (by omega)
  rw [pF_I ha (by omega)] at hk
  rcases hu with rfl | rfl
  · exact va_bald hx hb hK hP k 0 hk rfl hi hdg kk
  · exact va_zald hx hb hK hP k 3 hk rfl hi hdg kk
theorem x_lald (hx : p.tables.exec = Jvm.exec) (hb : c.code = cc) (hK : va_K D vwCl (tysA cy) s) (hW : Wd D cy A S H) (ha : aK S a = 14) (hi : ix_ i (aN S a)) (hdg : decode cc pc = .ok (.laload, 1))
    (kk : W p l e R s m args below meth c H locs cells slots Q (F0 m (pc + 1) ls (.long (aJ S a i.toNatClampNeg) :: rest))) : W p l e R s m args below meth c H locs cells slots Q (F0 m pc ls (.int i :: .ref a :: rest)) := by
  obtain ⟨L, h1, hP, hD, -⟩ := hW
  obtain ⟨k, hk⟩ := Wd.at (D := D) (A := A) (H := H) (cy := cy) h1 (a := a) (by omega)
  rw [pF_J ha] at hk
  exact va_lald hx hb hK hP k 2 hk rfl hi hdg kk
theorem x_aald (hx : p.tables.exec = Jvm.exec) (hb : c.code = cc) (hK : va_K D vwCl (tysA cy) s) (hW : Wd D cy A S H) (ha : aK S a = 16) (hi : ix_ i (aN S a)) {y : Nat} (hy : aR S a i.toNatClampNeg = some y) (hdg : decode cc pc = .ok (.aaload, 1))
    (kk : W p l e R s m args below meth c H locs cells slots Q (F0 m (pc + 1) ls (.ref y :: rest))) : W p l e R s m args below meth c H locs cells slots Q (F0 m pc ls (.int i :: .ref a :: rest)) := by
  obtain ⟨L, h1, hP, hD, -⟩ := hW
  obtain ⟨k, hk⟩ := Wd.at (D := D) (A := A) (H := H) (cy := cy) h1 (a := a) (by omega)
  rw [pF_R ha] at hk
  refine va_aldq (C := RX9) hx hb hK hP k 4 hk rfl hi hdg ?_
  rw [hy]; exact kk
theorem x_alen (hx : p.tables.exec = Jvm.exec) (hb : c.code = cc) (hK : va_K D vwCl (tysA cy) s) (hW : Wd D cy A S H) (h12 : 12 ≤ aK S a) (h16 : aK S a ≤ 16) (hdg : decode cc pc = .ok (.arraylength, 1))
    (kk : W p l e R s m args below meth c H locs cells slots Q (F0 m (pc + 1) ls (.int (Int32.ofNat (aN S a)) :: rest))) : W p l e R s m args below meth c H locs cells slots Q (F0 m pc ls (.ref a :: rest)) := by
  obtain ⟨L, h1, hP, hD, -⟩ := hW
  obtain ⟨k, hk⟩ := Wd.at (D := D) (A := A) (H := H) (cy := cy) h1 (a := a) (by omega)
  rcases (show aK S a = 12 ∨ aK S a = 13 ∨ aK S a = 14 ∨ aK S a = 15 ∨ aK S a = 16 by omega) with h | h | h | h | h
  · rw [pF_I h (by omega)] at hk; exact va_alen hx hb hK hP k 0 hk rfl rfl hdg kk
  · rw [pF_I h (by omega)] at hk; exact va_alen hx hb hK hP k 1 hk rfl rfl hdg kk
  · rw [pF_J h] at hk; exact va_alen hx hb hK hP k 2 hk rfl rfl hdg kk
  · rw [pF_I h (by omega)] at hk; exact va_alen hx hb hK hP k 3 hk rfl rfl hdg kk
  · rw [pF_R h] at hk; exact va_alen hx hb hK hP k 4 hk rfl rfl hdg kk
theorem x_iast (hx : p.tables.exec = Jvm.exec) (hb : c.code = cc) (hK : va_K D vwCl (tysA cy) s) (hW : Wd D cy A S H) (hS : va_S A H0 H locs) (ha : aK S a = 13) (hi : ix_ i (aN S a)) {x : Int32} (hdg : decode cc pc = .ok (.iastore, 1))
    (kk : ∀ (H1 : Heap) (locs1 : List Loc), Wd D cy A (wI S a i.toNatClampNeg x) H1 → va_S A H0 H1 locs1 → W p l e R s m args below meth c H1 locs1 cells slots Q (F0 m (pc + 1) ls rest)) : W p l e R s m args below meth c H locs cells slots Q (F0 m pc ls (.int x :: .int i :: .ref a :: rest)) := by
  obtain ⟨L, h1, hP, hD, hz⟩ := hW
  obtain ⟨k, hk⟩ := Wd.at (D := D) (A := A) (H := H) (cy := cy) h1 (a := a) (by omega)
  have hk2 := hk
  rw [pF_I ha (by omega)] at hk2
  refine W.iast hx hb (hP k _ hk2) ((hK.2 1 _ rfl).1 _ (fun j => .int (aI S a j))) (fun q => by cases q) (by show ¬ (i < 0 ∨ (arrV _ _ _).slots.size ≤ _); rw [arrV_size]; exact hi) rfl rfl hdg fun H1 e1 z oq => ?_
  refine kk H1 _ (Wd.put h1 hD hz (by omega) hk (pF_aI ha (by omega)) rfl rfl (hP.set hD hk ?_ oq) (hD.set hk) z) (hS.put z oq (hD.2 k _ hk2))
  show H1[a]? = some (vp_cell _ _)
  rw [e1, vp_cell_i, vp_cell_i, arrV_store]
  congr 2
  funext q
  by_cases hq : q = i.toNatClampNeg
  · subst hq; simp [updV, upd]
  · simp [updV, upd, hq]
theorem x_bast (hx : p.tables.exec = Jvm.exec) (hb : c.code = cc) (hK : va_K D vwCl (tysA cy) s) (hW : Wd D cy A S H) (hS : va_S A H0 H locs) (ha : aK S a = 12) (hi : ix_ i (aN S a)) {x : Int32} (hdg : decode cc pc = .ok (.bastore, 1))
    (kk : ∀ (H1 : Heap) (locs1 : List Loc), Wd D cy A (wI S a i.toNatClampNeg x.toInt8.toInt32) H1 → va_S A H0 H1 locs1 → W p l e R s m args below meth c H1 locs1 cells slots Q (F0 m (pc + 1) ls rest)) : W p l e R s m args below meth c H locs cells slots Q (F0 m pc ls (.int x :: .int i :: .ref a :: rest)) := by
  obtain ⟨L, h1, hP, hD, hz⟩ := hW
  obtain ⟨k, hk⟩ := Wd.at (D := D) (A := A) (H := H) (cy := cy) h1 (a := a) (by omega)
  have hk2 := hk
  rw [pF_I ha (by omega)] at hk2
  refine W.bast hx hb (hP k _ hk2) ((hK.2 0 _ rfl).1 _ (fun j => .int (aI S a j))) (fun q => by cases q) (by show ¬ (i < 0 ∨ (arrV _ _ _).slots.size ≤ _); rw [arrV_size]; exact hi) rfl rfl hdg fun H1 e1 z oq => ?_
  refine kk H1 _ (Wd.put h1 hD hz (by omega) hk (pF_aI ha (by omega)) rfl rfl (hP.set hD hk ?_ oq) (hD.set hk) z) (hS.put z oq (hD.2 k _ hk2))
  show H1[a]? = some (vp_cell _ _)
  rw [e1, vp_cell_i, vp_cell_i, arrV_store]
  congr 2
  funext q
  by_cases hq : q = i.toNatClampNeg
  · subst hq; simp [updV, upd, narrow]
  · simp [updV, upd, hq]
theorem x_zast (hx : p.tables.exec = Jvm.exec) (hb : c.code = cc) (hK : va_K D vwCl (tysA cy) s) (hW : Wd D cy A S H) (hS : va_S A H0 H locs) (ha : aK S a = 15) (hi : ix_ i (aN S a)) {x : Int32} (h01 : x = 0 ∨ x = 1) (hdg : decode cc pc = .ok (.bastore, 1))
    (kk : ∀ (H1 : Heap) (locs1 : List Loc), Wd D cy A (wI S a i.toNatClampNeg x) H1 → va_S A H0 H1 locs1 → W p l e R s m args below meth c H1 locs1 cells slots Q (F0 m (pc + 1) ls rest)) : W p l e R s m args below meth c H locs cells slots Q (F0 m pc ls (.int x :: .int i :: .ref a :: rest)) := by
  obtain ⟨L, h1, hP, hD, hz⟩ := hW
  obtain ⟨k, hk⟩ := Wd.at (D := D) (A := A) (H := H) (cy := cy) h1 (a := a) (by omega)
  have hk2 := hk
  rw [pF_I ha (by omega)] at hk2
  refine W.zast hx hb (hP k _ hk2) ((hK.2 3 _ rfl).1 _ (fun j => .int (aI S a j))) (fun q => by cases q) (by show ¬ (i < 0 ∨ (arrV _ _ _).slots.size ≤ _); rw [arrV_size]; exact hi) rfl rfl hdg fun H1 e1 z oq => ?_
  refine kk H1 _ (Wd.put h1 hD hz (by omega) hk (pF_aI ha (by omega)) rfl rfl (hP.set hD hk ?_ oq) (hD.set hk) z) (hS.put z oq (hD.2 k _ hk2))
  show H1[a]? = some (vp_cell _ _)
  rw [e1, vp_cell_i, vp_cell_i, arrV_store]
  congr 2
  funext q
  by_cases hq : q = i.toNatClampNeg
  · subst hq; rcases h01 with rfl | rfl <;> simp [updV, upd] <;> rfl
  · simp [updV, upd, hq]
theorem x_last (hx : p.tables.exec = Jvm.exec) (hb : c.code = cc) (hK : va_K D vwCl (tysA cy) s) (hW : Wd D cy A S H) (hS : va_S A H0 H locs) (ha : aK S a = 14) (hi : ix_ i (aN S a)) {x : Int64} (hdg : decode cc pc = .ok (.lastore, 1))
    (kk : ∀ (H1 : Heap) (locs1 : List Loc), Wd D cy A (wJ S a i.toNatClampNeg x) H1 → va_S A H0 H1 locs1 → W p l e R s m args below meth c H1 locs1 cells slots Q (F0 m (pc + 1) ls rest)) : W p l e R s m args below meth c H locs cells slots Q (F0 m pc ls (.long x :: .int i :: .ref a :: rest)) := by
  obtain ⟨L, h1, hP, hD, hz⟩ := hW
  obtain ⟨k, hk⟩ := Wd.at (D := D) (A := A) (H := H) (cy := cy) h1 (a := a) (by omega)
  have hk2 := hk
  rw [pF_J ha] at hk2
  refine W.last hx hb (hP k _ hk2) ((hK.2 2 _ rfl).1 _ (fun j => .long (aJ S a j))) (fun q => by cases q) (by show ¬ (i < 0 ∨ (arrV _ _ _).slots.size ≤ _); rw [arrV_size]; exact hi) rfl rfl hdg fun H1 e1 z oq => ?_
  refine kk H1 _ (Wd.put h1 hD hz (by omega) hk (pF_aJ ha) rfl rfl (hP.set hD hk ?_ oq) (hD.set hk) z) (hS.put z oq (hD.2 k _ hk2))
  show H1[a]? = some (vp_cell _ _)
  rw [e1, vp_cell_l, vp_cell_l, arrV_store]
  congr 2
  funext q
  by_cases hq : q = i.toNatClampNeg
  · subst hq; simp [updV, vp_updL]
  · simp [updV, vp_updL, hq]
theorem x_aast (hx : p.tables.exec = Jvm.exec) (hb : c.code = cc) (hK : va_K D vwCl (tysA cy) s) (hW : Wd D cy A S H) (hS : va_S A H0 H locs) (ha : aK S a = 16) (hi : ix_ i (aN S a)) {x : Nat} (hxk : aK S x = 8) (hdg : decode cc pc = .ok (.aastore, 1))
    (kk : ∀ (H1 : Heap) (locs1 : List Loc), Wd D cy A (wR S a i.toNatClampNeg (some x)) H1 → va_S A H0 H1 locs1 → W p l e R s m args below meth c H1 locs1 cells slots Q (F0 m (pc + 1) ls rest)) : W p l e R s m args below meth c H locs cells slots Q (F0 m pc ls (.ref x :: .int i :: .ref a :: rest)) := by
  obtain ⟨L, h1, hP, hD, hz⟩ := hW
  obtain ⟨k, hk⟩ := Wd.at (D := D) (A := A) (H := H) (cy := cy) h1 (a := a) (by omega)
  obtain ⟨kv, hkv⟩ := Wd.at (D := D) (A := A) (H := H) (cy := cy) h1 (a := x) (by omega)
  have hk2 := hk
  rw [pF_R ha] at hk2
  rw [pF_obj hxk (by omega)] at hkv
  have h0 : ¬ i < 0 := fun q => hi (Or.inl q)
  have hlt : i.toNatClampNeg < aN S a := Nat.not_le.mp fun q => hi (Or.inr q)
  have hc : vwCl[8]? = some (clX 8) := clX_at (by omega)
  obtain ⟨r', hr', cellV, g1, g2, g3, -⟩ := hP kv _ hkv
  have hcls := (hK.1 8 _ hc).2
  obtain ⟨kA, comp, k1, k2, k3, -⟩ := (hK.2 4 _ rfl).2
  have hcomp : comp = D.1 8 := Option.some.inj (k3.symm.trans hcls.1)
  subst hcomp
  obtain ⟨kC, hkC, -⟩ := hcls.2
  refine W.aast hx hb (hP k _ hk2) (fun q h => by cases h) (fun h => by cases h) k1 k2 rfl hkC ⟨h0, by show _ < (arrV _ _ _).slots.size; rw [arrV_size]; exact hlt⟩ g1 (fun q h => by rw [g3] at h; cases h) (by rw [g2]; exact hkC) (by rw [g2]; exact va_assign hcls) rfl rfl hdg fun H1 e1 z oq => ?_
  refine kk H1 _ (Wd.put h1 hD hz (by omega) hk (pF_aR ha) rfl rfl (hP.set hD hk ?_ oq) (hD.set hk) z) (hS.put z oq (hD.2 k _ hk2))
  show H1[a]? = some (vp_cell _ _)
  rw [e1, vp_cell_q, vp_cell_q, arrV_store]
  congr 2
  funext q
  by_cases hq : q = i.toNatClampNeg
  · subst hq; simp [updV, va_up, va_rf]
  · simp [updV, va_up, hq]
-- what a new cell changes
theorem wN_K (S : aH) (u n b : Nat) : aK (wN S u n) b = if b = aZ S then u else aK S b := rfl
theorem wN_N (S : aH) (u n b : Nat) : aN (wN S u n) b = if b = aZ S then n else aN S b := rfl
theorem wN_I (S : aH) (u n b j : Nat) : aI (wN S u n) b j = if b = aZ S then 0 else aI S b j := by
  show r2 S.2.2.1 (aZ S) (fun _ => 0) b j = _
  unfold r2; split <;> rfl
theorem wN_J (S : aH) (u n b j : Nat) : aJ (wN S u n) b j = if b = aZ S then 0 else aJ S b j := by
  show r2 S.2.2.2.1 (aZ S) (fun _ => 0) b j = _
  unfold r2; split <;> rfl
theorem wN_R (S : aH) (u n b j : Nat) : aR (wN S u n) b j = if b = aZ S then none else aR S b j := by
  show r2 S.2.2.2.2.1 (aZ S) (fun _ => none) b j = _
  unfold r2; split <;> rfl
theorem wN_Z (S : aH) (u n : Nat) : aZ (wN S u n) = aZ S + 1 := rfl
theorem wN_G (S : aH) (u n : Nat) : aG (wN S u n) = aG S := rfl
/-- behind a new cell -/
theorem Wd.new {L : List Nat} {u n : Nat} {en : va_E} {H1 : Heap} (h1 : ∀ a, a ∈ L ↔ aK S a < 17) (hP : va_P D vwCl (va_pl L (pF cy S)) H) (hD : va_D A (va_pl L (pF cy S))) (hz : H.size = aZ S) (hu : u < 17) (he : pF cy (wN S u n) (aZ S) = en)
    (o1 : ∀ q : Nat, q < H.size → H1[q]? = H[q]?) (z1 : H1.size = H.size + 1) (hat : va_at D vwCl (aZ S, en) H1) (hA : A (aZ S)) : Wd D cy A (wN S u n) H1 := by
  have hfr : aZ S ∉ L := va_pl_fresh (X := []) (f := pF cy S) hP (by omega)
  have e1 : va_pl L (pF cy S) ++ [(aZ S, en)] = va_pl (L ++ [aZ S]) (pF cy (wN S u n)) := by
    rw [va_pl_push hfr]
    refine va_pl_congr fun b => ?_
    by_cases hb : b = aZ S
    · subst hb; rw [va_up_self, he]
    · rw [va_up_ne _ _ hb]
      refine (pF_same ?_ ?_ ?_ ?_ ?_).symm
      · rw [wN_K, if_neg hb]
      · rw [wN_N, if_neg hb]
      · funext j; rw [wN_I, if_neg hb]
      · funext j; rw [wN_J, if_neg hb]
      · funext j; rw [wN_R, if_neg hb]
  have hk : ∀ (k : Nat) (x : Nat × va_E), (va_pl L (pF cy S))[k]? = some x → H1[x.1]? = H[x.1]? := fun k x hx => o1 x.1 ((hP k x hx).lt)
  have hPn : va_P D vwCl (va_pl L (pF cy S) ++ [(aZ S, en)]) H1 := (hP.kept hk).app (fun k x hx => by
    have hz : k < 1 := (List.getElem?_eq_some_iff.mp hx).1
    rw [show k = 0 by omega] at hx
    cases hx
    exact hat)
  have hDn : va_D A (va_pl L (pF cy S) ++ [(aZ S, en)]) := hD.push hP hz.symm hA
  rw [e1] at hPn hDn
  refine ⟨L ++ [aZ S], fun b => ?_, hPn, hDn, by rw [z1, wN_Z, hz]⟩
  rw [wN_K]
  by_cases hb : b = aZ S
  · subst hb; simp [hu]
  · rw [if_neg hb, List.mem_append, h1 b]; simp [hb]
theorem va_S.new {H1 : Heap} (hS : va_S A H0 H locs) (o1 : ∀ q : Nat, q < H.size → H1[q]? = H[q]?) (z1 : H1.size = H.size + 1) : va_S A H0 H1 locs :=
  ⟨Nat.le_trans hS.1 (by omega), fun x h1 h2 => (o1 x (Nat.lt_of_lt_of_le h1 hS.1)).trans (hS.2.1 x h1 h2), hS.2.2⟩
theorem x_new {own : String} (hx : p.tables.exec = Jvm.exec) (hb : c.code = cc) (hts : ∀ w ∈ wsG, w.before args s = true) (hin : ∀ u, u < 12 → ∀ w ∈ u_ws (clX u).1 (clX u).2.1 (clX u).2.2, w ∈ wsG) (hown : s.vm.findClass own = some m.cls) (hK : va_K D vwCl (tysA cy) s) (hW : Wd D cy A S H) (hS : va_S A H0 H locs) (hA : ∀ q, H0.size ≤ q → A q) {u index : Nat} (hu : u < 12)
    (hcl : (Cond.classLink own index (clX u).1).before args s = true) (hinst : (Cond.instantiable (clX u).1 (clX u).2.2).before args s = true) (hini : (Cond.initialized (clX u).1).before args s = true) (hcells : cells + 1 ≤ R.cells) (hslots : slots + (clX u).2.2 ≤ R.slots) (hdg : decode cc pc = .ok (.new index, 3))
    (kk : ∀ H1 : Heap, Wd D cy A (wN S u 0) H1 → va_S A H0 H1 locs → W p l e R s m args below meth c H1 locs (cells + 1) (slots + (clX u).2.2) Q (F0 m (pc + 3) ls (.ref (aZ S) :: rest))) : W p l e R s m args below meth c H locs cells slots Q (F0 m pc ls rest) := by
  obtain ⟨L, h1, hP, hD, hz⟩ := hW
  have hc := clX_at hu
  have hKn := hK.1 u _ hc
  refine W.newcK hx hb hown hcl hinst hini rfl hdg hcells hslots hKn.2.1 rfl fun H1 kC hkC e1 z1 o1 => ?_
  have eK : aK (wN S u 0) (aZ S) = u := by rw [wN_K, if_pos rfl]
  have hb0 := u_born (clTy u) hts (hin u hu) hKn hkC e1 (clTy_ok u hu)
  rw [hz] at hb0
  have := kk H1 (Wd.new h1 hP hD hz (by omega) (pF_obj eK hu) o1 z1 ⟨_, hc, hb0.to (fun j hj => ?_)⟩ (hA _ (by rw [← hz]; exact hS.1))) (va_S.new hS o1 z1)
  · rw [← hz] at this; exact this
  · obtain ⟨t1, t2, t3, t4, t5, t6⟩ := clTy_cd u hu j hj
    have hf := fl_get (wN S u 0) (aZ S) (fT u) 0 j _ t1
    rw [Nat.zero_add] at hf
    simp only [vp_V, List.getD_eq_getElem?_getD, hf, Option.getD_some]
    generalize clTy u j = t at t1 t2 t3 t4 t5 t6
    cases t <;> simp_all [cdT, fv_, defaultValue, wN_I, wN_J, wN_R, va_rf]
theorem x_newa (hx : p.tables.exec = Jvm.exec) (hb : c.code = cc) {atype : ArrayType} (harr : (Cond.arrayClass (newarray.typeOf atype)).before args s = true) (hK : va_K D vwCl (tysA cy) s) (hW : Wd D cy A S H) (hS : va_S A H0 H locs) (hA : ∀ q, H0.size ≤ q → A q) {u : Nat} {n : Int32} (hat : atype = .int ∧ u = 13 ∨ atype = .long ∧ u = 14 ∨ atype = .boolean ∧ u = 15 ∨ atype = .byte ∧ u = 12) (hn : ¬ n < 0) (h6 : n.toNatClampNeg ≤ 60000)
    (hcells : cells + 1 ≤ R.cells) (hslots : slots + n.toNatClampNeg ≤ R.slots) (hdg : decode cc pc = .ok (.newarray atype, 2))
    (kk : ∀ H1 : Heap, Wd D cy A (wN S u n.toNatClampNeg) H1 → va_S A H0 H1 locs → W p l e R s m args below meth c H1 locs (cells + 1) (slots + n.toNatClampNeg) Q (F0 m (pc + 2) ls (.ref (aZ S) :: rest))) : W p l e R s m args below meth c H locs cells slots Q (F0 m pc ls (.int n :: rest)) := by
  obtain ⟨L, h1, hP, hD, hz⟩ := hW
  have hbytes : n.toNatClampNeg * componentBytes (newarray.typeOf atype) ≤ 536870912 := by
    have : componentBytes (newarray.typeOf atype) ≤ 8 := by cases atype <;> decide
    exact Nat.le_trans (Nat.mul_le_mul h6 this) (by decide)
  refine va_newaK hx hb harr rfl hdg rfl hn rfl hbytes hcells hslots hz fun H1 cA e1 z1 o1 hAr hNm => ?_
  have eK : aK (wN S u n.toNatClampNeg) (aZ S) = u := by rw [wN_K, if_pos rfl]
  have eN : aN (wN S u n.toNatClampNeg) (aZ S) = n.toNatClampNeg := by rw [wN_N, if_pos rfl]
  have eI : aI (wN S u n.toNatClampNeg) (aZ S) = fun _ => 0 := by funext j; rw [wN_I, if_pos rfl]
  have eJ : aJ (wN S u n.toNatClampNeg) (aZ S) = fun _ => 0 := by funext j; rw [wN_J, if_pos rfl]
  refine kk H1 ?_ (va_S.new hS (by rw [hz]; exact o1) (by rw [z1, hz]))
  have hAz : A (aZ S) := hA _ (by rw [← hz]; exact hS.1)
  rcases hat with ⟨rfl, rfl⟩ | ⟨rfl, rfl⟩ | ⟨rfl, rfl⟩ | ⟨rfl, rfl⟩
  · have hcA : cA = cy 13 := Option.some.inj (hNm.symm.trans (hK.2 1 _ rfl).2)
    refine Wd.new h1 hP hD hz (by omega) ((pF_I eK (by omega)).trans (by rw [eN, eI])) (by rw [hz]; exact o1) (by rw [z1, hz]) ?_ hAz
    show H1[aZ S]? = some (vp_cell _ _)
    rw [e1, hcA, vp_cell_i]; rfl
  · have hcA : cA = cy 14 := Option.some.inj (hNm.symm.trans (hK.2 2 _ rfl).2)
    refine Wd.new h1 hP hD hz (by omega) ((pF_J eK).trans (by rw [eN, eJ])) (by rw [hz]; exact o1) (by rw [z1, hz]) ?_ hAz
    show H1[aZ S]? = some (vp_cell _ _)
    rw [e1, hcA, vp_cell_l]; rfl
  · have hcA : cA = cy 15 := Option.some.inj (hNm.symm.trans (hK.2 3 _ rfl).2)
    refine Wd.new h1 hP hD hz (by omega) ((pF_I eK (by omega)).trans (by rw [eN, eI])) (by rw [hz]; exact o1) (by rw [z1, hz]) ?_ hAz
    show H1[aZ S]? = some (vp_cell _ _)
    rw [e1, hcA, vp_cell_i]; rfl
  · have hcA : cA = cy 12 := Option.some.inj (hNm.symm.trans (hK.2 0 _ rfl).2)
    refine Wd.new h1 hP hD hz (by omega) ((pF_I eK (by omega)).trans (by rw [eN, eI])) (by rw [hz]; exact o1) (by rw [z1, hz]) ?_ hAz
    show H1[aZ S]? = some (vp_cell _ _)
    rw [e1, hcA, vp_cell_i]; rfl
theorem x_anew {own : String} (hx : p.tables.exec = Jvm.exec) (hb : c.code = cc) (hown : s.vm.findClass own = some m.cls) {index : Nat} (hclink : (Cond.classLink own index RX9).before args s = true) (hover : va_AO RX9 s) (hK : va_K D vwCl (tysA cy) s) (hW : Wd D cy A S H) (hS : va_S A H0 H locs) (hA : ∀ q, H0.size ≤ q → A q) {n : Int32} (hn : ¬ n < 0) (h6 : n.toNatClampNeg ≤ 60000)
    (hcells : cells + 1 ≤ R.cells) (hslots : slots + n.toNatClampNeg ≤ R.slots) (hdg : decode cc pc = .ok (.anewarray index, 3))
    (kk : ∀ H1 : Heap, Wd D cy A (wN S 16 n.toNatClampNeg) H1 → va_S A H0 H1 locs → W p l e R s m args below meth c H1 locs (cells + 1) (slots + n.toNatClampNeg) Q (F0 m (pc + 3) ls (.ref (aZ S) :: rest))) : W p l e R s m args below meth c H locs cells slots Q (F0 m pc ls (.int n :: rest)) := by
  obtain ⟨L, h1, hP, hD, hz⟩ := hW
  refine W.anew hx hb hown hclink (va_AO.use hover) rfl hdg rfl hn (by omega) hcells hslots fun cA kA comp f1 f2 f3 f4 => ?_
  generalize hH1 : H.push ({ cls := cA, slots := Array.replicate n.toNatClampNeg .null, vm := .none } : Cell) = H1
  have z1 : H1.size = H.size + 1 := by rw [← hH1, Array.size_push]
  have e1 : H1[H.size]? = some (arrV cA n.toNatClampNeg (fun _ => .null)) := by rw [← hH1, Array.getElem?_push_size, ← arrV_new]
  have o1 : ∀ q : Nat, q < H.size → H1[q]? = H[q]? := fun q hq => by rw [← hH1, Array.getElem?_push, if_neg (Nat.ne_of_lt hq)]
  have eK : aK (wN S 16 n.toNatClampNeg) (aZ S) = 16 := by rw [wN_K, if_pos rfl]
  have eN : aN (wN S 16 n.toNatClampNeg) (aZ S) = n.toNatClampNeg := by rw [wN_N, if_pos rfl]
  have eR : aR (wN S 16 n.toNatClampNeg) (aZ S) = fun _ => none := by funext j; rw [wN_R, if_pos rfl]
  have hAz : A (aZ S) := hA _ (by rw [← hz]; exact hS.1)
  have hcA : cA = cy 16 := by
    obtain ⟨kA', comp', g1, g2, g3, g4⟩ := (hK.2 4 _ rfl).2
    exact Option.some.inj (f1.symm.trans g4)
  have := kk H1 (Wd.new h1 hP hD hz (by omega) ((pF_R eK).trans (by rw [eN, eR])) o1 z1 (by
    show H1[aZ S]? = some (vp_cell _ _)
    rw [← hz, e1, hcA, vp_cell_q]; rfl) hAz) (va_S.new hS o1 z1)
  rw [← hz] at this
  exact this
end XA
