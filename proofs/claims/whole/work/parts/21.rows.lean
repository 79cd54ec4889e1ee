/-! rows of the machine over the worlds -/
theorem clX_at {u : Nat} (hu : u < 12) : vwCl[u]? = some (clX u) := by
  unfold clX
  rw [List.getD_eq_getElem?_getD, List.getElem?_eq_getElem (by exact hu)]
  rfl
theorem fT_len : ∀ u, u < 12 → (fT u).length = (clX u).2.2 := by decide +kernel
theorem fT_lt {u v t : Nat} (h : (fT u)[v]? = some t) : u < 12 := by
  refine Nat.lt_of_not_le fun q => ?_
  unfold fT at h
  rw [List.getD_eq_getElem?_getD, List.getElem?_eq_none (l := fTL) (i := u) q] at h
  simp at h
def clTy (u : Nat) : Nat → FieldType := match u with
  | 0 => tyX1 | 1 => tyX2 | 2 => tyX3 | 3 => tyX4 | 4 => tyX5 | 5 => tyX6 | 6 => tyX7 | 7 => tyX8 | 8 => tyX9 | 9 => tyX10 | 10 => tyX11 | _ => tyX12
theorem clTy_ok : ∀ u, u < 12 → ∀ k, k < (clX u).2.2 → parseFieldDescriptor ((clX u).2.1 k).2.2.1 = some (clTy u k) := by decide +kernel
theorem clNm : ∀ u, u < 12 → ∀ a, a < (clX u).2.2 → ∀ b, b < (clX u).2.2 → a ≠ b → ((clX u).2.1 a).2.1 ≠ ((clX u).2.1 b).2.1 := by decide +kernel
/-- a field's type code, by its type -/
def cdT (t : FieldType) : Nat := match t with
  | .long => 1
  | .boolean => 4
  | .int => 0
  | .byte => 0
  | _ => 2
theorem clTy_cd : ∀ u, u < 12 → ∀ k, k < (clX u).2.2 → (fT u)[k]? = some (cdT (clTy u k)) ∧ clTy u k ≠ .byte ∧ clTy u k ≠ .float ∧ clTy u k ≠ .double ∧ clTy u k ≠ .char ∧ clTy u k ≠ .short := by decide +kernel
section XR
variable {p : Program} {l : Launch} {e : Env} {R : Room} {s : State} {m : MethodId} {args : Array Value} {below : List Frame} {meth : Method} {c : Code} {H : Heap} {locs : List Loc} {cells slots : Nat} {Q : State → Prop}
variable {cc : ByteArray} {pc : Nat} {ls : Array Slot} {rest : List Value} {D : va_G} {cy : Nat → ClassId} {A : Nat → Prop} {H0 : Heap} {S : aH} {own : String}
/-- a field's link: plain, or a nest mate's -/
def flk (args : Array Value) (s : State) (own : String) (index u v : Nat) : Prop := (Cond.fieldLink own index ((clX u).2.1 v).1 ((clX u).2.1 v).2.1 ((clX u).2.1 v).2.2.1).before args s = true ∨ ∃ host, (Cond.fieldLinkNest own index ((clX u).2.1 v).1 ((clX u).2.1 v).2.1 ((clX u).2.1 v).2.2.1 host).before args s = true
theorem x_get (hx : p.tables.exec = Jvm.exec) (hb : c.code = cc) (hts : ∀ w ∈ wsG, w.before args s = true) (hin : ∀ u, u < 12 → ∀ w ∈ u_ws (clX u).1 (clX u).2.1 (clX u).2.2, w ∈ wsG) (hown : s.vm.findClass own = some m.cls) (hK : va_K D vwCl (tysA cy) s) (hW : Wd D cy A S H) {a u v t index : Nat} (ha : aK S a = u) (ht : (fT u)[v]? = some t) (hl : flk args s own index u v) (hdg : decode cc pc = .ok (.getfield index, 3))
    (kk : W p l e R s m args below meth c H locs cells slots Q (F0 m (pc + 3) ls (fv_ S a t v :: rest))) : W p l e R s m args below meth c H locs cells slots Q (F0 m pc ls (.ref a :: rest)) := by
  have hu := fT_lt ht
  have hv : v < (clX u).2.2 := by rw [← fT_len u hu]; exact (List.getElem?_eq_some_iff.mp ht).1
  obtain ⟨L, h1, hP, hD, -⟩ := hW
  obtain ⟨k, hk⟩ := Wd.at (D := D) (A := A) (H := H) (cy := cy) h1 (a := a) (by omega)
  rw [pF_obj ha hu] at hk
  have hf : (fl_ S a (fT u) 0)[v]? = some (fv_ S a t v) := by
    have := fl_get S a (fT u) 0 v t ht
    rwa [Nat.zero_add] at this
  rcases hl with hl | ⟨host, hl⟩
  · exact va_get (C := (clX u).1) (T := (clX u).2.1) (N := (clX u).2.2) hx hb hts (hin u hu) hown hK hP k hk (clX_at hu) v hv hl (fun _ h => h) hf hdg kk
  · exact va_getN (C := (clX u).1) (T := (clX u).2.1) (N := (clX u).2.2) hx hb hts (hin u hu) hown hK hP k hk (clX_at hu) v hv hl (fun _ h => h) hf hdg kk
theorem x_put (hx : p.tables.exec = Jvm.exec) (hb : c.code = cc) (hts : ∀ w ∈ wsG, w.before args s = true) (hin : ∀ u, u < 12 → ∀ w ∈ u_ws (clX u).1 (clX u).2.1 (clX u).2.2, w ∈ wsG) (hown : s.vm.findClass own = some m.cls) (hK : va_K D vwCl (tysA cy) s) (hW : Wd D cy A S H) (hS : va_S A H0 H locs) {a u v index : Nat} {val : Value} {S' : aH} (ha : aK S a = u) (hu : u < 12) (hv : v < (clX u).2.2)
    (hl : (Cond.fieldLink own index ((clX u).2.1 v).1 ((clX u).2.1 v).2.1 ((clX u).2.1 v).2.2.1).before args s = true ∨ (((clX u).2.1 v).2.2.2 = false ∧ ∃ host, (Cond.fieldLinkNest own index ((clX u).2.1 v).1 ((clX u).2.1 v).2.1 ((clX u).2.1 v).2.2.1 host).before args s = true)) (hfin : ((clX u).2.1 v).2.2.2 = false ∨ (meth.name = "<init>" ∧ ((clX u).2.1 v).1 = own))
    (hn : narrow (clTy u v) val = val) (hfit : fits (clTy u v) val = true) (he : ∀ b, va_up (pF cy S) a (.inr (u, (fl_ S a (fT u) 0).set v val)) b = pF cy S' b) (hKe : aK S' = aK S) (hZe : aZ S' = aZ S) (hdg : decode cc pc = .ok (.putfield index, 3))
    (kk : ∀ (H1 : Heap) (locs1 : List Loc), Wd D cy A S' H1 → va_S A H0 H1 locs1 → W p l e R s m args below meth c H1 locs1 cells slots Q (F0 m (pc + 3) ls rest)) : W p l e R s m args below meth c H locs cells slots Q (F0 m pc ls (val :: .ref a :: rest)) := by
  obtain ⟨L, h1, hP, hD, hz⟩ := hW
  obtain ⟨k0, hk⟩ := Wd.at (D := D) (A := A) (H := H) (cy := cy) h1 (a := a) (by omega)
  have hk2 := hk
  rw [pF_obj ha hu] at hk2
  have hc := clX_at hu
  have hap := va_apart (own := own) hts (hin u hu) (clTy u) (clTy_ok u hu) (clNm u hu) hK hc
  obtain ⟨r, g1, cell, q1, q2, q3, q4⟩ := hP k0 _ hk2
  have hr : r = clX u := Option.some.inj (g1.symm.trans hc)
  subst hr
  obtain ⟨hSl, hfc, kC, hkC, hkind⟩ := hK.1 u _ hc
  obtain ⟨cf, kf, fi, f, hi, hsl⟩ := hSl v hv
  have hst := (u_facts hfc hkC (u_lays hts (hin u hu) hv) hi).1
  have hlay := hts _ (hin u hu _ (u_in_lay hv))
  have hlen : v < (fl_ S a (fT u) 0).length := by rw [fl_len, fT_len u hu]; exact hv
  have fin : ∀ H' : Heap, H'[a]? = some (cell.setSlot f.slot val) → H'.size = H.size → (∀ q, q ≠ a → H'[q]? = H[q]?) → W p l e R s m args below meth c H' (locs ++ [⟨a, f.slot⟩]) cells slots Q (F0 m (pc + 3) ls rest) := by
    intro H' e1 e2 e3
    rw [hsl] at e1
    refine kk H' _ (Wd.put h1 hD hz (by omega) hk he hKe hZe (hP.set hD hk ⟨_, hc, t_OB.to (V := updV (vp_V (fl_ S a (fT u) 0)) v val) ⟨_, e1, q2, q3, t_set q4 hap hv val⟩ (fun j _ => vp_updV_set hlen val j)⟩ e3) (hD.set hk) e2) ?_
    exact hS.put e2 e3 (hD.2 k0 _ hk)
  have hlt : f.slot < cell.slots.size := by rw [hsl]; exact k2_hasslot (q4 v hv)
  by_cases hf : ((clX u).2.1 v).2.2.2 = false
  · unfold u_lay at hlay
    rw [if_neg (by rw [hf]; decide)] at hlay
    have h6 := u_store hfc hkC hkind hlay hi (clTy_ok u hu v hv) hn hfit
    rcases hl with hl | ⟨-, host, hl⟩
    · exact W.putK hx hb (f := f) ⟨hown, hl, ⟨_, _, _, hi⟩, hst⟩ (by rw [q2]; exact h6) q1 q3 hlt rfl rfl hdg fin
    · exact va_WputK hx hb (f := f) hown hl hi hst (by rw [q2]; exact h6) q1 q3 hlt rfl rfl hdg fin
  · have hft : ((clX u).2.1 v).2.2.2 = true := by simpa using hf
    obtain ⟨hnm, hdecl⟩ := hfin.resolve_left hf
    have hl := hl.resolve_right (fun q => hf q.1)
    unfold u_lay at hlay
    rw [if_pos hft] at hlay
    have hcf : m.cls = cf := by
      obtain ⟨_, _, c', _, _, _, -, -, hf', -, -, -, hown2, -⟩ := Cond.laysFinal_spec hlay
      have e1 : c' = cf := by have := hi.symm.trans hf'; simp at this; exact this.1.symm
      rw [hdecl] at hown2
      rw [← e1]; exact Option.some.inj (hown.symm.trans hown2)
    have h6 := u_fits hfc hkC hkind (Or.inr hlay) hi (clTy_ok u hu v hv) hn hfit
    exact W.putFinK hx hb hown hl hi hst hcf hnm (by rw [q2]; exact h6) q1 q3 hlt rfl rfl hdg fin
end XR
