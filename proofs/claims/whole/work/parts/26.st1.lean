theorem ex_iload_n (j : Fin 4) {u v w z : Nat} {c : Int32} {d : Int64} {ts : List (Int32 × Nat)} {k : Nat} {ls : aL} {st : List Value} {b : aB} {S : aH} {K : aKt} {C : aC} : ex1 (.iload_n j, (u, v, w, z), c, d, ts) k ls st b S K C = (lI (lg_ ls u) fun x => K (k + 1) ls (.int x :: st) b S) := rfl
theorem ck_iload_n (j : Fin 4) {t : aMt} {u v w z : Nat} {c : Int32} {d : Int64} {ts : List (Int32 × Nat)} {k : Nat} : chk t k (.iload_n j, (u, v, w, z), c, d, ts) = (decide ((j : Nat) = u) && nx t k 1 (.iload_n j)) := rfl
set_option maxHeartbeats 4000000 in
theorem st_iload_n {l : Launch} {D : va_G} {cy : Nat → ClassId} {adV : Nat → Nat} {E : aEt} {lx : List Value → aH → aO} {n : Nat} (j : Fin 4) : StpI l D cy adV E lx n (Instr.iload_n j) := by
  intro id t p e R s m args below meth c A Q v S' hcx hrt hcn0 ih k ls st b S H locs cu su Lc u w1 w z cst d ts hg9 hck h hlh hW hS hEe hrc hrs
  rw [ex_iload_n] at h
  rw [ck_iload_n] at hck
  have hcx0 := hcx
  obtain ⟨hx, hb, hml, hown, hts, hnm, hE, hA, hRf, hRl, hsc⟩ := hcx0
  have hK := hE.1
  simp only [nx, dc, jp, Bool.and_eq_true, decide_eq_true_eq] at hck
  obtain ⟨hj, hd, hp⟩ := hck
  have h9 := lI_some h
  clear h
  obtain ⟨x, hl, h⟩ := h9
  refine lv_iload_n hx hb hd hj (hlh.at hl) ?_
  rw [← hp]
  exact ih _ _ _ _ _ _ _ _ _ _ h hlh hW hS hEe hrc hrs
theorem ex_lload_n (j : Fin 4) {u v w z : Nat} {c : Int32} {d : Int64} {ts : List (Int32 × Nat)} {k : Nat} {ls : aL} {st : List Value} {b : aB} {S : aH} {K : aKt} {C : aC} : ex1 (.lload_n j, (u, v, w, z), c, d, ts) k ls st b S K C = (lJ (lg_ ls u) fun x => K (k + 1) ls (.long x :: st) b S) := rfl
theorem ck_lload_n (j : Fin 4) {t : aMt} {u v w z : Nat} {c : Int32} {d : Int64} {ts : List (Int32 × Nat)} {k : Nat} : chk t k (.lload_n j, (u, v, w, z), c, d, ts) = (decide ((j : Nat) = u) && nx t k 1 (.lload_n j)) := rfl
set_option maxHeartbeats 4000000 in
theorem st_lload_n {l : Launch} {D : va_G} {cy : Nat → ClassId} {adV : Nat → Nat} {E : aEt} {lx : List Value → aH → aO} {n : Nat} (j : Fin 4) : StpI l D cy adV E lx n (Instr.lload_n j) := by
  intro id t p e R s m args below meth c A Q v S' hcx hrt hcn0 ih k ls st b S H locs cu su Lc u w1 w z cst d ts hg9 hck h hlh hW hS hEe hrc hrs
  rw [ex_lload_n] at h
  rw [ck_lload_n] at hck
  have hcx0 := hcx
  obtain ⟨hx, hb, hml, hown, hts, hnm, hE, hA, hRf, hRl, hsc⟩ := hcx0
  have hK := hE.1
  simp only [nx, dc, jp, Bool.and_eq_true, decide_eq_true_eq] at hck
  obtain ⟨hj, hd, hp⟩ := hck
  have h9 := lJ_some h
  clear h
  obtain ⟨x, hl, h⟩ := h9
  refine lv_lload_n hx hb hd hj (hlh.at hl) ?_
  rw [← hp]
  exact ih _ _ _ _ _ _ _ _ _ _ h hlh hW hS hEe hrc hrs
theorem ex_aload_n (j : Fin 4) {u v w z : Nat} {c : Int32} {d : Int64} {ts : List (Int32 × Nat)} {k : Nat} {ls : aL} {st : List Value} {b : aB} {S : aH} {K : aKt} {C : aC} : ex1 (.aload_n j, (u, v, w, z), c, d, ts) k ls st b S K C = (lR (lg_ ls u) fun x => K (k + 1) ls (.ref x :: st) b S) := rfl
theorem ck_aload_n (j : Fin 4) {t : aMt} {u v w z : Nat} {c : Int32} {d : Int64} {ts : List (Int32 × Nat)} {k : Nat} : chk t k (.aload_n j, (u, v, w, z), c, d, ts) = (decide ((j : Nat) = u) && nx t k 1 (.aload_n j)) := rfl
set_option maxHeartbeats 4000000 in
theorem st_aload_n {l : Launch} {D : va_G} {cy : Nat → ClassId} {adV : Nat → Nat} {E : aEt} {lx : List Value → aH → aO} {n : Nat} (j : Fin 4) : StpI l D cy adV E lx n (Instr.aload_n j) := by
  intro id t p e R s m args below meth c A Q v S' hcx hrt hcn0 ih k ls st b S H locs cu su Lc u w1 w z cst d ts hg9 hck h hlh hW hS hEe hrc hrs
  rw [ex_aload_n] at h
  rw [ck_aload_n] at hck
  have hcx0 := hcx
  obtain ⟨hx, hb, hml, hown, hts, hnm, hE, hA, hRf, hRl, hsc⟩ := hcx0
  have hK := hE.1
  simp only [nx, dc, jp, Bool.and_eq_true, decide_eq_true_eq] at hck
  obtain ⟨hj, hd, hp⟩ := hck
  have h9 := lR_some h
  clear h
  obtain ⟨x, hl, h⟩ := h9
  refine lv_aload_n hx hb hd hj (hlh.at hl) ?_
  rw [← hp]
  exact ih _ _ _ _ _ _ _ _ _ _ h hlh hW hS hEe hrc hrs
theorem ex_iload (j : Nat) {u v w z : Nat} {c : Int32} {d : Int64} {ts : List (Int32 × Nat)} {k : Nat} {ls : aL} {st : List Value} {b : aB} {S : aH} {K : aKt} {C : aC} : ex1 (.iload j, (u, v, w, z), c, d, ts) k ls st b S K C = (lI (lg_ ls u) fun x => K (k + 1) ls (.int x :: st) b S) := rfl
theorem ck_iload (j : Nat) {t : aMt} {u v w z : Nat} {c : Int32} {d : Int64} {ts : List (Int32 × Nat)} {k : Nat} : chk t k (.iload j, (u, v, w, z), c, d, ts) = (decide (j = u) && nx t k 2 (.iload j)) := rfl
set_option maxHeartbeats 4000000 in
theorem st_iload {l : Launch} {D : va_G} {cy : Nat → ClassId} {adV : Nat → Nat} {E : aEt} {lx : List Value → aH → aO} {n : Nat} (j : Nat) : StpI l D cy adV E lx n (Instr.iload j) := by
  intro id t p e R s m args below meth c A Q v S' hcx hrt hcn0 ih k ls st b S H locs cu su Lc u w1 w z cst d ts hg9 hck h hlh hW hS hEe hrc hrs
  rw [ex_iload] at h
  rw [ck_iload] at hck
  have hcx0 := hcx
  obtain ⟨hx, hb, hml, hown, hts, hnm, hE, hA, hRf, hRl, hsc⟩ := hcx0
  have hK := hE.1
  simp only [nx, dc, jp, Bool.and_eq_true, decide_eq_true_eq] at hck
  obtain ⟨hj, hd, hp⟩ := hck
  subst hj
  have h9 := lI_some h
  clear h
  obtain ⟨x, hl, h⟩ := h9
  refine lv_iload hx hb hd (hlh.at hl) ?_
  rw [← hp]
  exact ih _ _ _ _ _ _ _ _ _ _ h hlh hW hS hEe hrc hrs
theorem ex_lload (j : Nat) {u v w z : Nat} {c : Int32} {d : Int64} {ts : List (Int32 × Nat)} {k : Nat} {ls : aL} {st : List Value} {b : aB} {S : aH} {K : aKt} {C : aC} : ex1 (.lload j, (u, v, w, z), c, d, ts) k ls st b S K C = (lJ (lg_ ls u) fun x => K (k + 1) ls (.long x :: st) b S) := rfl
theorem ck_lload (j : Nat) {t : aMt} {u v w z : Nat} {c : Int32} {d : Int64} {ts : List (Int32 × Nat)} {k : Nat} : chk t k (.lload j, (u, v, w, z), c, d, ts) = (decide (j = u) && nx t k 2 (.lload j)) := rfl
set_option maxHeartbeats 4000000 in
theorem st_lload {l : Launch} {D : va_G} {cy : Nat → ClassId} {adV : Nat → Nat} {E : aEt} {lx : List Value → aH → aO} {n : Nat} (j : Nat) : StpI l D cy adV E lx n (Instr.lload j) := by
  intro id t p e R s m args below meth c A Q v S' hcx hrt hcn0 ih k ls st b S H locs cu su Lc u w1 w z cst d ts hg9 hck h hlh hW hS hEe hrc hrs
  rw [ex_lload] at h
  rw [ck_lload] at hck
  have hcx0 := hcx
  obtain ⟨hx, hb, hml, hown, hts, hnm, hE, hA, hRf, hRl, hsc⟩ := hcx0
  have hK := hE.1
  simp only [nx, dc, jp, Bool.and_eq_true, decide_eq_true_eq] at hck
  obtain ⟨hj, hd, hp⟩ := hck
  subst hj
  have h9 := lJ_some h
  clear h
  obtain ⟨x, hl, h⟩ := h9
  refine lv_lload hx hb hd (hlh.at hl) ?_
  rw [← hp]
  exact ih _ _ _ _ _ _ _ _ _ _ h hlh hW hS hEe hrc hrs
theorem ex_aload (j : Nat) {u v w z : Nat} {c : Int32} {d : Int64} {ts : List (Int32 × Nat)} {k : Nat} {ls : aL} {st : List Value} {b : aB} {S : aH} {K : aKt} {C : aC} : ex1 (.aload j, (u, v, w, z), c, d, ts) k ls st b S K C = (lR (lg_ ls u) fun x => K (k + 1) ls (.ref x :: st) b S) := rfl
theorem ck_aload (j : Nat) {t : aMt} {u v w z : Nat} {c : Int32} {d : Int64} {ts : List (Int32 × Nat)} {k : Nat} : chk t k (.aload j, (u, v, w, z), c, d, ts) = (decide (j = u) && nx t k 2 (.aload j)) := rfl
set_option maxHeartbeats 4000000 in
theorem st_aload {l : Launch} {D : va_G} {cy : Nat → ClassId} {adV : Nat → Nat} {E : aEt} {lx : List Value → aH → aO} {n : Nat} (j : Nat) : StpI l D cy adV E lx n (Instr.aload j) := by
  intro id t p e R s m args below meth c A Q v S' hcx hrt hcn0 ih k ls st b S H locs cu su Lc u w1 w z cst d ts hg9 hck h hlh hW hS hEe hrc hrs
  rw [ex_aload] at h
  rw [ck_aload] at hck
  have hcx0 := hcx
  obtain ⟨hx, hb, hml, hown, hts, hnm, hE, hA, hRf, hRl, hsc⟩ := hcx0
  have hK := hE.1
  simp only [nx, dc, jp, Bool.and_eq_true, decide_eq_true_eq] at hck
  obtain ⟨hj, hd, hp⟩ := hck
  subst hj
  have h9 := lR_some h
  clear h
  obtain ⟨x, hl, h⟩ := h9
  refine lv_aload hx hb hd (hlh.at hl) ?_
  rw [← hp]
  exact ih _ _ _ _ _ _ _ _ _ _ h hlh hW hS hEe hrc hrs
theorem ex_istore_n (j : Fin 4) {u v w z : Nat} {c : Int32} {d : Int64} {ts : List (Int32 × Nat)} {k : Nat} {ls : aL} {st : List Value} {b : aB} {S : aH} {K : aKt} {C : aC} : ex1 (.istore_n j, (u, v, w, z), c, d, ts) k ls st b S K C = (pI st fun x r => K (k + 1) (st_ ls u (.int x)) r b S) := rfl
theorem ck_istore_n (j : Fin 4) {t : aMt} {u v w z : Nat} {c : Int32} {d : Int64} {ts : List (Int32 × Nat)} {k : Nat} : chk t k (.istore_n j, (u, v, w, z), c, d, ts) = (decide ((j : Nat) = u) && decide (u < tL t) && nx t k 1 (.istore_n j)) := rfl
set_option maxHeartbeats 4000000 in
theorem st_istore_n {l : Launch} {D : va_G} {cy : Nat → ClassId} {adV : Nat → Nat} {E : aEt} {lx : List Value → aH → aO} {n : Nat} (j : Fin 4) : StpI l D cy adV E lx n (Instr.istore_n j) := by
  intro id t p e R s m args below meth c A Q v S' hcx hrt hcn0 ih k ls st b S H locs cu su Lc u w1 w z cst d ts hg9 hck h hlh hW hS hEe hrc hrs
  rw [ex_istore_n] at h
  rw [ck_istore_n] at hck
  have hcx0 := hcx
  obtain ⟨hx, hb, hml, hown, hts, hnm, hE, hA, hRf, hRl, hsc⟩ := hcx0
  have hK := hE.1
  simp only [nx, dc, jp, Bool.and_eq_true, decide_eq_true_eq] at hck
  obtain ⟨⟨hj, hlt⟩, hd, hp⟩ := hck
  have h9 := pI_some h
  clear h
  obtain ⟨x, r, rfl, h⟩ := h9
  obtain ⟨lv, q1, q2⟩ := hlh
  refine lv_istore_n hx hb hd hj q1 hlt rfl (fun Lc h9 => ?_)
  rw [← hp]
  exact ih _ _ _ _ _ _ _ _ _ _ h (lh.st (Lc := Lc) q2 h9) hW hS hEe hrc hrs
theorem ex_lstore_n (j : Fin 4) {u v w z : Nat} {c : Int32} {d : Int64} {ts : List (Int32 × Nat)} {k : Nat} {ls : aL} {st : List Value} {b : aB} {S : aH} {K : aKt} {C : aC} : ex1 (.lstore_n j, (u, v, w, z), c, d, ts) k ls st b S K C = (pJ st fun x r => K (k + 1) (sl_ ls u (.long x)) r b S) := rfl
theorem ck_lstore_n (j : Fin 4) {t : aMt} {u v w z : Nat} {c : Int32} {d : Int64} {ts : List (Int32 × Nat)} {k : Nat} : chk t k (.lstore_n j, (u, v, w, z), c, d, ts) = (decide ((j : Nat) = u) && decide (u + 1 < tL t) && nx t k 1 (.lstore_n j)) := rfl
set_option maxHeartbeats 4000000 in
theorem st_lstore_n {l : Launch} {D : va_G} {cy : Nat → ClassId} {adV : Nat → Nat} {E : aEt} {lx : List Value → aH → aO} {n : Nat} (j : Fin 4) : StpI l D cy adV E lx n (Instr.lstore_n j) := by
  intro id t p e R s m args below meth c A Q v S' hcx hrt hcn0 ih k ls st b S H locs cu su Lc u w1 w z cst d ts hg9 hck h hlh hW hS hEe hrc hrs
  rw [ex_lstore_n] at h
  rw [ck_lstore_n] at hck
  have hcx0 := hcx
  obtain ⟨hx, hb, hml, hown, hts, hnm, hE, hA, hRf, hRl, hsc⟩ := hcx0
  have hK := hE.1
  simp only [nx, dc, jp, Bool.and_eq_true, decide_eq_true_eq] at hck
  obtain ⟨⟨hj, hlt⟩, hd, hp⟩ := hck
  have h9 := pJ_some h
  clear h
  obtain ⟨x, r, rfl, h⟩ := h9
  obtain ⟨lv, q1, q2⟩ := hlh
  refine lv_lstore_n hx hb hd hj q1 hlt rfl (fun Lc h9 => ?_)
  rw [← hp]
  exact ih _ _ _ _ _ _ _ _ _ _ h (lh.sl (Lc := Lc) q2 h9) hW hS hEe hrc hrs
theorem ex_astore_n (j : Fin 4) {u v w z : Nat} {c : Int32} {d : Int64} {ts : List (Int32 × Nat)} {k : Nat} {ls : aL} {st : List Value} {b : aB} {S : aH} {K : aKt} {C : aC} : ex1 (.astore_n j, (u, v, w, z), c, d, ts) k ls st b S K C = (pR st fun x r => K (k + 1) (st_ ls u (.ref x)) r b S) := rfl
theorem ck_astore_n (j : Fin 4) {t : aMt} {u v w z : Nat} {c : Int32} {d : Int64} {ts : List (Int32 × Nat)} {k : Nat} : chk t k (.astore_n j, (u, v, w, z), c, d, ts) = (decide ((j : Nat) = u) && decide (u < tL t) && nx t k 1 (.astore_n j)) := rfl
set_option maxHeartbeats 4000000 in
theorem st_astore_n {l : Launch} {D : va_G} {cy : Nat → ClassId} {adV : Nat → Nat} {E : aEt} {lx : List Value → aH → aO} {n : Nat} (j : Fin 4) : StpI l D cy adV E lx n (Instr.astore_n j) := by
  intro id t p e R s m args below meth c A Q v S' hcx hrt hcn0 ih k ls st b S H locs cu su Lc u w1 w z cst d ts hg9 hck h hlh hW hS hEe hrc hrs
  rw [ex_astore_n] at h
  rw [ck_astore_n] at hck
  have hcx0 := hcx
  obtain ⟨hx, hb, hml, hown, hts, hnm, hE, hA, hRf, hRl, hsc⟩ := hcx0
  have hK := hE.1
  simp only [nx, dc, jp, Bool.and_eq_true, decide_eq_true_eq] at hck
  obtain ⟨⟨hj, hlt⟩, hd, hp⟩ := hck
  have h9 := pR_some h
  clear h
  obtain ⟨x, r, rfl, h⟩ := h9
  obtain ⟨lv, q1, q2⟩ := hlh
  refine lv_astore_n hx hb hd hj q1 hlt rfl (fun Lc h9 => ?_)
  rw [← hp]
  exact ih _ _ _ _ _ _ _ _ _ _ h (lh.st (Lc := Lc) q2 h9) hW hS hEe hrc hrs
theorem ex_istore (j : Nat) {u v w z : Nat} {c : Int32} {d : Int64} {ts : List (Int32 × Nat)} {k : Nat} {ls : aL} {st : List Value} {b : aB} {S : aH} {K : aKt} {C : aC} : ex1 (.istore j, (u, v, w, z), c, d, ts) k ls st b S K C = (pI st fun x r => K (k + 1) (st_ ls u (.int x)) r b S) := rfl
theorem ck_istore (j : Nat) {t : aMt} {u v w z : Nat} {c : Int32} {d : Int64} {ts : List (Int32 × Nat)} {k : Nat} : chk t k (.istore j, (u, v, w, z), c, d, ts) = (decide (j = u) && decide (u < tL t) && nx t k 2 (.istore j)) := rfl
set_option maxHeartbeats 4000000 in
theorem st_istore {l : Launch} {D : va_G} {cy : Nat → ClassId} {adV : Nat → Nat} {E : aEt} {lx : List Value → aH → aO} {n : Nat} (j : Nat) : StpI l D cy adV E lx n (Instr.istore j) := by
  intro id t p e R s m args below meth c A Q v S' hcx hrt hcn0 ih k ls st b S H locs cu su Lc u w1 w z cst d ts hg9 hck h hlh hW hS hEe hrc hrs
  rw [ex_istore] at h
  rw [ck_istore] at hck
  have hcx0 := hcx
  obtain ⟨hx, hb, hml, hown, hts, hnm, hE, hA, hRf, hRl, hsc⟩ := hcx0
  have hK := hE.1
  simp only [nx, dc, jp, Bool.and_eq_true, decide_eq_true_eq] at hck
  obtain ⟨⟨hj, hlt⟩, hd, hp⟩ := hck
  subst hj
  have h9 := pI_some h
  clear h
  obtain ⟨x, r, rfl, h⟩ := h9
  obtain ⟨lv, q1, q2⟩ := hlh
  refine lv_istore hx hb hd q1 hlt rfl (fun Lc h9 => ?_)
  rw [← hp]
  exact ih _ _ _ _ _ _ _ _ _ _ h (lh.st (Lc := Lc) q2 h9) hW hS hEe hrc hrs
theorem ex_lstore (j : Nat) {u v w z : Nat} {c : Int32} {d : Int64} {ts : List (Int32 × Nat)} {k : Nat} {ls : aL} {st : List Value} {b : aB} {S : aH} {K : aKt} {C : aC} : ex1 (.lstore j, (u, v, w, z), c, d, ts) k ls st b S K C = (pJ st fun x r => K (k + 1) (sl_ ls u (.long x)) r b S) := rfl
theorem ck_lstore (j : Nat) {t : aMt} {u v w z : Nat} {c : Int32} {d : Int64} {ts : List (Int32 × Nat)} {k : Nat} : chk t k (.lstore j, (u, v, w, z), c, d, ts) = (decide (j = u) && decide (u + 1 < tL t) && nx t k 2 (.lstore j)) := rfl
set_option maxHeartbeats 4000000 in
theorem st_lstore {l : Launch} {D : va_G} {cy : Nat → ClassId} {adV : Nat → Nat} {E : aEt} {lx : List Value → aH → aO} {n : Nat} (j : Nat) : StpI l D cy adV E lx n (Instr.lstore j) := by
  intro id t p e R s m args below meth c A Q v S' hcx hrt hcn0 ih k ls st b S H locs cu su Lc u w1 w z cst d ts hg9 hck h hlh hW hS hEe hrc hrs
  rw [ex_lstore] at h
  rw [ck_lstore] at hck
  have hcx0 := hcx
  obtain ⟨hx, hb, hml, hown, hts, hnm, hE, hA, hRf, hRl, hsc⟩ := hcx0
  have hK := hE.1
  simp only [nx, dc, jp, Bool.and_eq_true, decide_eq_true_eq] at hck
  obtain ⟨⟨hj, hlt⟩, hd, hp⟩ := hck
  subst hj
  have h9 := pJ_some h
  clear h
  obtain ⟨x, r, rfl, h⟩ := h9
  obtain ⟨lv, q1, q2⟩ := hlh
  refine lv_lstore hx hb hd q1 hlt rfl (fun Lc h9 => ?_)
  rw [← hp]
  exact ih _ _ _ _ _ _ _ _ _ _ h (lh.sl (Lc := Lc) q2 h9) hW hS hEe hrc hrs
theorem ex_astore (j : Nat) {u v w z : Nat} {c : Int32} {d : Int64} {ts : List (Int32 × Nat)} {k : Nat} {ls : aL} {st : List Value} {b : aB} {S : aH} {K : aKt} {C : aC} : ex1 (.astore j, (u, v, w, z), c, d, ts) k ls st b S K C = (pR st fun x r => K (k + 1) (st_ ls u (.ref x)) r b S) := rfl
theorem ck_astore (j : Nat) {t : aMt} {u v w z : Nat} {c : Int32} {d : Int64} {ts : List (Int32 × Nat)} {k : Nat} : chk t k (.astore j, (u, v, w, z), c, d, ts) = (decide (j = u) && decide (u < tL t) && nx t k 2 (.astore j)) := rfl
set_option maxHeartbeats 4000000 in
theorem st_astore {l : Launch} {D : va_G} {cy : Nat → ClassId} {adV : Nat → Nat} {E : aEt} {lx : List Value → aH → aO} {n : Nat} (j : Nat) : StpI l D cy adV E lx n (Instr.astore j) := by
  intro id t p e R s m args below meth c A Q v S' hcx hrt hcn0 ih k ls st b S H locs cu su Lc u w1 w z cst d ts hg9 hck h hlh hW hS hEe hrc hrs
  rw [ex_astore] at h
  rw [ck_astore] at hck
  have hcx0 := hcx
  obtain ⟨hx, hb, hml, hown, hts, hnm, hE, hA, hRf, hRl, hsc⟩ := hcx0
  have hK := hE.1
  simp only [nx, dc, jp, Bool.and_eq_true, decide_eq_true_eq] at hck
  obtain ⟨⟨hj, hlt⟩, hd, hp⟩ := hck
  subst hj
  have h9 := pR_some h
  clear h
  obtain ⟨x, r, rfl, h⟩ := h9
  obtain ⟨lv, q1, q2⟩ := hlh
  refine lv_astore hx hb hd q1 hlt rfl (fun Lc h9 => ?_)
  rw [← hp]
  exact ih _ _ _ _ _ _ _ _ _ _ h (lh.st (Lc := Lc) q2 h9) hW hS hEe hrc hrs
theorem ex_iinc (j : Nat) (n : Int) {u v w z : Nat} {c : Int32} {d : Int64} {ts : List (Int32 × Nat)} {k : Nat} {ls : aL} {st : List Value} {b : aB} {S : aH} {K : aKt} {C : aC} : ex1 (.iinc j n, (u, v, w, z), c, d, ts) k ls st b S K C = (lI (lg_ ls u) fun x => K (k + 1) (st_ ls u (.int (x + c))) st b S) := rfl
theorem ck_iinc (j : Nat) (n : Int) {t : aMt} {u v w z : Nat} {c : Int32} {d : Int64} {ts : List (Int32 × Nat)} {k : Nat} : chk t k (.iinc j n, (u, v, w, z), c, d, ts) = (decide (j = u) && decide (u < tL t) && decide (Int32.ofInt n = c) && nx t k 3 (.iinc j n)) := rfl
set_option maxHeartbeats 4000000 in
theorem st_iinc {l : Launch} {D : va_G} {cy : Nat → ClassId} {adV : Nat → Nat} {E : aEt} {lx : List Value → aH → aO} {n : Nat} (j : Nat) (y : Int) : StpI l D cy adV E lx n (Instr.iinc j y) := by
  intro id t p e R s m args below meth c A Q v S' hcx hrt hcn0 ih k ls st b S H locs cu su Lc u w1 w z cst d ts hg9 hck h hlh hW hS hEe hrc hrs
  rw [ex_iinc] at h
  rw [ck_iinc] at hck
  have hcx0 := hcx
  obtain ⟨hx, hb, hml, hown, hts, hnm, hE, hA, hRf, hRl, hsc⟩ := hcx0
  have hK := hE.1
  simp only [nx, dc, jp, Bool.and_eq_true, decide_eq_true_eq] at hck
  obtain ⟨⟨⟨hj, hlt⟩, hc9⟩, hd, hp⟩ := hck
  subst hj
  have h9 := lI_some h
  clear h
  obtain ⟨x, hl, h⟩ := h9
  obtain ⟨lv, q1, q2⟩ := hlh
  obtain ⟨k9, hk9⟩ := List.getElem?_of_mem (q2 _ _ hl)
  refine lv_iinc hx hb hd q1 hk9 (by rw [hc9]) hlt rfl (fun Lc h9 => ?_)
  rw [← hp]
  exact ih _ _ _ _ _ _ _ _ _ _ h (lh.st (Lc := Lc) q2 h9) hW hS hEe hrc hrs
theorem ex_iconst (n : Int) {u v w z : Nat} {c : Int32} {d : Int64} {ts : List (Int32 × Nat)} {k : Nat} {ls : aL} {st : List Value} {b : aB} {S : aH} {K : aKt} {C : aC} : ex1 (.iconst n, (u, v, w, z), c, d, ts) k ls st b S K C = (K (k + 1) ls (.int c :: st) b S) := rfl
theorem ck_iconst (n : Int) {t : aMt} {u v w z : Nat} {c : Int32} {d : Int64} {ts : List (Int32 × Nat)} {k : Nat} : chk t k (.iconst n, (u, v, w, z), c, d, ts) = (decide (Int32.ofInt n = c) && nx t k 1 (.iconst n)) := rfl
set_option maxHeartbeats 4000000 in
theorem st_iconst {l : Launch} {D : va_G} {cy : Nat → ClassId} {adV : Nat → Nat} {E : aEt} {lx : List Value → aH → aO} {n : Nat} (y : Int) : StpI l D cy adV E lx n (Instr.iconst y) := by
  intro id t p e R s m args below meth c A Q v S' hcx hrt hcn0 ih k ls st b S H locs cu su Lc u w1 w z cst d ts hg9 hck h hlh hW hS hEe hrc hrs
  rw [ex_iconst] at h
  rw [ck_iconst] at hck
  have hcx0 := hcx
  obtain ⟨hx, hb, hml, hown, hts, hnm, hE, hA, hRf, hRl, hsc⟩ := hcx0
  have hK := hE.1
  simp only [nx, dc, jp, Bool.and_eq_true, decide_eq_true_eq] at hck
  obtain ⟨hv9, hd, hp⟩ := hck
  refine lv_iconst hx hb hd hv9 ?_
  rw [← hp]
  exact ih _ _ _ _ _ _ _ _ _ _ h hlh hW hS hEe hrc hrs
theorem ex_bipush (n : Int) {u v w z : Nat} {c : Int32} {d : Int64} {ts : List (Int32 × Nat)} {k : Nat} {ls : aL} {st : List Value} {b : aB} {S : aH} {K : aKt} {C : aC} : ex1 (.bipush n, (u, v, w, z), c, d, ts) k ls st b S K C = (K (k + 1) ls (.int c :: st) b S) := rfl
theorem ck_bipush (n : Int) {t : aMt} {u v w z : Nat} {c : Int32} {d : Int64} {ts : List (Int32 × Nat)} {k : Nat} : chk t k (.bipush n, (u, v, w, z), c, d, ts) = (decide ((Int8.ofInt n).toInt32 = c) && nx t k 2 (.bipush n)) := rfl
set_option maxHeartbeats 4000000 in
theorem st_bipush {l : Launch} {D : va_G} {cy : Nat → ClassId} {adV : Nat → Nat} {E : aEt} {lx : List Value → aH → aO} {n : Nat} (y : Int) : StpI l D cy adV E lx n (Instr.bipush y) := by
  intro id t p e R s m args below meth c A Q v S' hcx hrt hcn0 ih k ls st b S H locs cu su Lc u w1 w z cst d ts hg9 hck h hlh hW hS hEe hrc hrs
  rw [ex_bipush] at h
  rw [ck_bipush] at hck
  have hcx0 := hcx
  obtain ⟨hx, hb, hml, hown, hts, hnm, hE, hA, hRf, hRl, hsc⟩ := hcx0
  have hK := hE.1
  simp only [nx, dc, jp, Bool.and_eq_true, decide_eq_true_eq] at hck
  obtain ⟨hv9, hd, hp⟩ := hck
  refine lv_bipush hx hb hd hv9 ?_
  rw [← hp]
  exact ih _ _ _ _ _ _ _ _ _ _ h hlh hW hS hEe hrc hrs
theorem ex_sipush (n : Int) {u v w z : Nat} {c : Int32} {d : Int64} {ts : List (Int32 × Nat)} {k : Nat} {ls : aL} {st : List Value} {b : aB} {S : aH} {K : aKt} {C : aC} : ex1 (.sipush n, (u, v, w, z), c, d, ts) k ls st b S K C = (K (k + 1) ls (.int c :: st) b S) := rfl
theorem ck_sipush (n : Int) {t : aMt} {u v w z : Nat} {c : Int32} {d : Int64} {ts : List (Int32 × Nat)} {k : Nat} : chk t k (.sipush n, (u, v, w, z), c, d, ts) = (decide ((Int16.ofInt n).toInt32 = c) && nx t k 3 (.sipush n)) := rfl
set_option maxHeartbeats 4000000 in
theorem st_sipush {l : Launch} {D : va_G} {cy : Nat → ClassId} {adV : Nat → Nat} {E : aEt} {lx : List Value → aH → aO} {n : Nat} (y : Int) : StpI l D cy adV E lx n (Instr.sipush y) := by
  intro id t p e R s m args below meth c A Q v S' hcx hrt hcn0 ih k ls st b S H locs cu su Lc u w1 w z cst d ts hg9 hck h hlh hW hS hEe hrc hrs
  rw [ex_sipush] at h
  rw [ck_sipush] at hck
  have hcx0 := hcx
  obtain ⟨hx, hb, hml, hown, hts, hnm, hE, hA, hRf, hRl, hsc⟩ := hcx0
  have hK := hE.1
  simp only [nx, dc, jp, Bool.and_eq_true, decide_eq_true_eq] at hck
  obtain ⟨hv9, hd, hp⟩ := hck
  refine lv_sipush hx hb hd hv9 ?_
  rw [← hp]
  exact ih _ _ _ _ _ _ _ _ _ _ h hlh hW hS hEe hrc hrs
theorem ex_lconst (n : Fin 2) {u v w z : Nat} {c : Int32} {d : Int64} {ts : List (Int32 × Nat)} {k : Nat} {ls : aL} {st : List Value} {b : aB} {S : aH} {K : aKt} {C : aC} : ex1 (.lconst n, (u, v, w, z), c, d, ts) k ls st b S K C = (K (k + 1) ls (.long d :: st) b S) := rfl
theorem ck_lconst (n : Fin 2) {t : aMt} {u v w z : Nat} {c : Int32} {d : Int64} {ts : List (Int32 × Nat)} {k : Nat} : chk t k (.lconst n, (u, v, w, z), c, d, ts) = (decide (Int64.ofNat (n : Nat) = d) && nx t k 1 (.lconst n)) := rfl
set_option maxHeartbeats 4000000 in
theorem st_lconst {l : Launch} {D : va_G} {cy : Nat → ClassId} {adV : Nat → Nat} {E : aEt} {lx : List Value → aH → aO} {n : Nat} (y : Fin 2) : StpI l D cy adV E lx n (Instr.lconst y) := by
  intro id t p e R s m args below meth c A Q v S' hcx hrt hcn0 ih k ls st b S H locs cu su Lc u w1 w z cst d ts hg9 hck h hlh hW hS hEe hrc hrs
  rw [ex_lconst] at h
  rw [ck_lconst] at hck
  have hcx0 := hcx
  obtain ⟨hx, hb, hml, hown, hts, hnm, hE, hA, hRf, hRl, hsc⟩ := hcx0
  have hK := hE.1
  simp only [nx, dc, jp, Bool.and_eq_true, decide_eq_true_eq] at hck
  obtain ⟨hv9, hd, hp⟩ := hck
  refine lv_lconst hx hb hd hv9 ?_
  rw [← hp]
  exact ih _ _ _ _ _ _ _ _ _ _ h hlh hW hS hEe hrc hrs
theorem ex_ldc (x : Nat) {u v w z : Nat} {c : Int32} {d : Int64} {ts : List (Int32 × Nat)} {k : Nat} {ls : aL} {st : List Value} {b : aB} {S : aH} {K : aKt} {C : aC} : ex1 (.ldc x, (u, v, w, z), c, d, ts) k ls st b S K C = ((match w with
      | 0 => K (k + 1) ls (.int c :: st) b S
      | _ => K (k + 1) ls (.ref (aG S u) :: st) b S)) := rfl
theorem ck_ldc (x : Nat) {t : aMt} {u v w z : Nat} {c : Int32} {d : Int64} {ts : List (Int32 × Nat)} {k : Nat} : chk t k (.ldc x, (u, v, w, z), c, d, ts) = ((match w with
      | 0 => decide ((tO t, x, c) ∈ ciT)
      | _ => decide ((tO t, x, u) ∈ slT)) && nx t k 2 (.ldc x)) := rfl
set_option maxHeartbeats 4000000 in
theorem st_ldc {l : Launch} {D : va_G} {cy : Nat → ClassId} {adV : Nat → Nat} {E : aEt} {lx : List Value → aH → aO} {n : Nat} (y : Nat) : StpI l D cy adV E lx n (Instr.ldc y) := by
  intro id t p e R s m args below meth c A Q v S' hcx hrt hcn0 ih k ls st b S H locs cu su Lc u w1 w z cst d ts hg9 hck h hlh hW hS hEe hrc hrs
  rw [ex_ldc] at h
  rw [ck_ldc] at hck
  have hcx0 := hcx
  obtain ⟨hx, hb, hml, hown, hts, hnm, hE, hA, hRf, hRl, hsc⟩ := hcx0
  have hK := hE.1
  simp only [nx, dc, jp, Bool.and_eq_true, decide_eq_true_eq] at hck
  obtain ⟨hm, hd, hp⟩ := hck
  by_cases hw : w = 0
  · subst hw
    simp only [decide_eq_true_eq] at hm
    try dsimp only at h
    refine lv_ldc hx hb hown (hts _ (ciW0 _ (List.mem_map.mpr ⟨_, hm, rfl⟩))) hd ?_
    rw [← hp]
    exact ih _ _ _ _ _ _ _ _ _ _ h hlh hW hS hEe hrc hrs
  · obtain ⟨w, rfl⟩ : ∃ w9, w = w9 + 1 := ⟨w - 1, by omega⟩
    simp only [decide_eq_true_eq] at hm
    try dsimp only at h
    have h8 := hE.2.2.2.2.1 (tO t, y, u) hm
    refine va_ldcS hx hb hown h8 hd ?_
    rw [← hp, ← hEe]
    exact ih _ _ _ _ _ _ _ _ _ _ h hlh hW hS hEe hrc hrs
theorem ex_ldc_w (x : Nat) {u v w z : Nat} {c : Int32} {d : Int64} {ts : List (Int32 × Nat)} {k : Nat} {ls : aL} {st : List Value} {b : aB} {S : aH} {K : aKt} {C : aC} : ex1 (.ldc_w x, (u, v, w, z), c, d, ts) k ls st b S K C = ((match w with
      | 0 => K (k + 1) ls (.int c :: st) b S
      | _ => K (k + 1) ls (.ref (aG S u) :: st) b S)) := rfl
theorem ck_ldc_w (x : Nat) {t : aMt} {u v w z : Nat} {c : Int32} {d : Int64} {ts : List (Int32 × Nat)} {k : Nat} : chk t k (.ldc_w x, (u, v, w, z), c, d, ts) = ((match w with
      | 0 => decide ((tO t, x, c) ∈ ciT)
      | _ => decide ((tO t, x, u) ∈ slT)) && nx t k 3 (.ldc_w x)) := rfl
set_option maxHeartbeats 4000000 in
theorem st_ldc_w {l : Launch} {D : va_G} {cy : Nat → ClassId} {adV : Nat → Nat} {E : aEt} {lx : List Value → aH → aO} {n : Nat} (y : Nat) : StpI l D cy adV E lx n (Instr.ldc_w y) := by
  intro id t p e R s m args below meth c A Q v S' hcx hrt hcn0 ih k ls st b S H locs cu su Lc u w1 w z cst d ts hg9 hck h hlh hW hS hEe hrc hrs
  rw [ex_ldc_w] at h
  rw [ck_ldc_w] at hck
  have hcx0 := hcx
  obtain ⟨hx, hb, hml, hown, hts, hnm, hE, hA, hRf, hRl, hsc⟩ := hcx0
  have hK := hE.1
  simp only [nx, dc, jp, Bool.and_eq_true, decide_eq_true_eq] at hck
  obtain ⟨hm, hd, hp⟩ := hck
  by_cases hw : w = 0
  · subst hw
    simp only [decide_eq_true_eq] at hm
    try dsimp only at h
    refine lv_ldcw hx hb hown (hts _ (ciW0 _ (List.mem_map.mpr ⟨_, hm, rfl⟩))) hd ?_
    rw [← hp]
    exact ih _ _ _ _ _ _ _ _ _ _ h hlh hW hS hEe hrc hrs
  · obtain ⟨w, rfl⟩ : ∃ w9, w = w9 + 1 := ⟨w - 1, by omega⟩
    simp only [decide_eq_true_eq] at hm
    try dsimp only at h
    have h8 := hE.2.2.2.2.1 (tO t, y, u) hm
    refine x_ldcwS hx hb hown h8 hd ?_
    rw [← hp, ← hEe]
    exact ih _ _ _ _ _ _ _ _ _ _ h hlh hW hS hEe hrc hrs
theorem ex_ldc2_w (x : Nat) {u v w z : Nat} {c : Int32} {d : Int64} {ts : List (Int32 × Nat)} {k : Nat} {ls : aL} {st : List Value} {b : aB} {S : aH} {K : aKt} {C : aC} : ex1 (.ldc2_w x, (u, v, w, z), c, d, ts) k ls st b S K C = (K (k + 1) ls (.long d :: st) b S) := rfl
theorem ck_ldc2_w (x : Nat) {t : aMt} {u v w z : Nat} {c : Int32} {d : Int64} {ts : List (Int32 × Nat)} {k : Nat} : chk t k (.ldc2_w x, (u, v, w, z), c, d, ts) = (decide ((tO t, x, d) ∈ clT) && nx t k 3 (.ldc2_w x)) := rfl
set_option maxHeartbeats 4000000 in
theorem st_ldc2_w {l : Launch} {D : va_G} {cy : Nat → ClassId} {adV : Nat → Nat} {E : aEt} {lx : List Value → aH → aO} {n : Nat} (y : Nat) : StpI l D cy adV E lx n (Instr.ldc2_w y) := by
  intro id t p e R s m args below meth c A Q v S' hcx hrt hcn0 ih k ls st b S H locs cu su Lc u w1 w z cst d ts hg9 hck h hlh hW hS hEe hrc hrs
  rw [ex_ldc2_w] at h
  rw [ck_ldc2_w] at hck
  have hcx0 := hcx
  obtain ⟨hx, hb, hml, hown, hts, hnm, hE, hA, hRf, hRl, hsc⟩ := hcx0
  have hK := hE.1
  simp only [nx, dc, jp, Bool.and_eq_true, decide_eq_true_eq] at hck
  obtain ⟨hm, hd, hp⟩ := hck
  refine lv_ldc2 hx hb hown (hts _ (clW0 _ (List.mem_map.mpr ⟨_, hm, rfl⟩))) hd ?_
  rw [← hp]
  exact ih _ _ _ _ _ _ _ _ _ _ h hlh hW hS hEe hrc hrs
theorem ex_iadd  {u v w z : Nat} {c : Int32} {d : Int64} {ts : List (Int32 × Nat)} {k : Nat} {ls : aL} {st : List Value} {b : aB} {S : aH} {K : aKt} {C : aC} : ex1 (.iadd, (u, v, w, z), c, d, ts) k ls st b S K C = (pI st fun y r => pI r fun x r => K (k + 1) ls (.int (x + y) :: r) b S) := rfl
theorem ck_iadd  {t : aMt} {u v w z : Nat} {c : Int32} {d : Int64} {ts : List (Int32 × Nat)} {k : Nat} : chk t k (.iadd, (u, v, w, z), c, d, ts) = (nx t k 1 .iadd) := rfl
set_option maxHeartbeats 4000000 in
theorem st_iadd {l : Launch} {D : va_G} {cy : Nat → ClassId} {adV : Nat → Nat} {E : aEt} {lx : List Value → aH → aO} {n : Nat}  : StpI l D cy adV E lx n (Instr.iadd) := by
  intro id t p e R s m args below meth c A Q v S' hcx hrt hcn0 ih k ls st b S H locs cu su Lc u w1 w z cst d ts hg9 hck h hlh hW hS hEe hrc hrs
  rw [ex_iadd] at h
  rw [ck_iadd] at hck
  have hcx0 := hcx
  obtain ⟨hx, hb, hml, hown, hts, hnm, hE, hA, hRf, hRl, hsc⟩ := hcx0
  have hK := hE.1
  simp only [nx, dc, jp, Bool.and_eq_true, decide_eq_true_eq] at hck
  obtain ⟨hd, hp⟩ := hck
  have h9 := pI_some h
  clear h
  obtain ⟨y, r, rfl, h⟩ := h9
  have h9 := pI_some h
  clear h
  obtain ⟨x, r, rfl, h⟩ := h9
  refine lv_iadd hx hb hd ?_
  rw [← hp]
  exact ih _ _ _ _ _ _ _ _ _ _ h hlh hW hS hEe hrc hrs
theorem ex_isub  {u v w z : Nat} {c : Int32} {d : Int64} {ts : List (Int32 × Nat)} {k : Nat} {ls : aL} {st : List Value} {b : aB} {S : aH} {K : aKt} {C : aC} : ex1 (.isub, (u, v, w, z), c, d, ts) k ls st b S K C = (pI st fun y r => pI r fun x r => K (k + 1) ls (.int (x - y) :: r) b S) := rfl
theorem ck_isub  {t : aMt} {u v w z : Nat} {c : Int32} {d : Int64} {ts : List (Int32 × Nat)} {k : Nat} : chk t k (.isub, (u, v, w, z), c, d, ts) = (nx t k 1 .isub) := rfl
set_option maxHeartbeats 4000000 in
theorem st_isub {l : Launch} {D : va_G} {cy : Nat → ClassId} {adV : Nat → Nat} {E : aEt} {lx : List Value → aH → aO} {n : Nat}  : StpI l D cy adV E lx n (Instr.isub) := by
  intro id t p e R s m args below meth c A Q v S' hcx hrt hcn0 ih k ls st b S H locs cu su Lc u w1 w z cst d ts hg9 hck h hlh hW hS hEe hrc hrs
  rw [ex_isub] at h
  rw [ck_isub] at hck
  have hcx0 := hcx
  obtain ⟨hx, hb, hml, hown, hts, hnm, hE, hA, hRf, hRl, hsc⟩ := hcx0
  have hK := hE.1
  simp only [nx, dc, jp, Bool.and_eq_true, decide_eq_true_eq] at hck
  obtain ⟨hd, hp⟩ := hck
  have h9 := pI_some h
  clear h
  obtain ⟨y, r, rfl, h⟩ := h9
  have h9 := pI_some h
  clear h
  obtain ⟨x, r, rfl, h⟩ := h9
  refine lv_isub hx hb hd ?_
  rw [← hp]
  exact ih _ _ _ _ _ _ _ _ _ _ h hlh hW hS hEe hrc hrs
theorem ex_imul  {u v w z : Nat} {c : Int32} {d : Int64} {ts : List (Int32 × Nat)} {k : Nat} {ls : aL} {st : List Value} {b : aB} {S : aH} {K : aKt} {C : aC} : ex1 (.imul, (u, v, w, z), c, d, ts) k ls st b S K C = (pI st fun y r => pI r fun x r => K (k + 1) ls (.int (x * y) :: r) b S) := rfl
theorem ck_imul  {t : aMt} {u v w z : Nat} {c : Int32} {d : Int64} {ts : List (Int32 × Nat)} {k : Nat} : chk t k (.imul, (u, v, w, z), c, d, ts) = (nx t k 1 .imul) := rfl
set_option maxHeartbeats 4000000 in
theorem st_imul {l : Launch} {D : va_G} {cy : Nat → ClassId} {adV : Nat → Nat} {E : aEt} {lx : List Value → aH → aO} {n : Nat}  : StpI l D cy adV E lx n (Instr.imul) := by
  intro id t p e R s m args below meth c A Q v S' hcx hrt hcn0 ih k ls st b S H locs cu su Lc u w1 w z cst d ts hg9 hck h hlh hW hS hEe hrc hrs
  rw [ex_imul] at h
  rw [ck_imul] at hck
  have hcx0 := hcx
  obtain ⟨hx, hb, hml, hown, hts, hnm, hE, hA, hRf, hRl, hsc⟩ := hcx0
  have hK := hE.1
  simp only [nx, dc, jp, Bool.and_eq_true, decide_eq_true_eq] at hck
  obtain ⟨hd, hp⟩ := hck
  have h9 := pI_some h
  clear h
  obtain ⟨y, r, rfl, h⟩ := h9
  have h9 := pI_some h
  clear h
  obtain ⟨x, r, rfl, h⟩ := h9
  refine lv_imul hx hb hd ?_
  rw [← hp]
  exact ih _ _ _ _ _ _ _ _ _ _ h hlh hW hS hEe hrc hrs
theorem ex_iand  {u v w z : Nat} {c : Int32} {d : Int64} {ts : List (Int32 × Nat)} {k : Nat} {ls : aL} {st : List Value} {b : aB} {S : aH} {K : aKt} {C : aC} : ex1 (.iand, (u, v, w, z), c, d, ts) k ls st b S K C = (pI st fun y r => pI r fun x r => K (k + 1) ls (.int (x &&& y) :: r) b S) := rfl
theorem ck_iand  {t : aMt} {u v w z : Nat} {c : Int32} {d : Int64} {ts : List (Int32 × Nat)} {k : Nat} : chk t k (.iand, (u, v, w, z), c, d, ts) = (nx t k 1 .iand) := rfl
set_option maxHeartbeats 4000000 in
theorem st_iand {l : Launch} {D : va_G} {cy : Nat → ClassId} {adV : Nat → Nat} {E : aEt} {lx : List Value → aH → aO} {n : Nat}  : StpI l D cy adV E lx n (Instr.iand) := by
  intro id t p e R s m args below meth c A Q v S' hcx hrt hcn0 ih k ls st b S H locs cu su Lc u w1 w z cst d ts hg9 hck h hlh hW hS hEe hrc hrs
  rw [ex_iand] at h
  rw [ck_iand] at hck
  have hcx0 := hcx
  obtain ⟨hx, hb, hml, hown, hts, hnm, hE, hA, hRf, hRl, hsc⟩ := hcx0
  have hK := hE.1
  simp only [nx, dc, jp, Bool.and_eq_true, decide_eq_true_eq] at hck
  obtain ⟨hd, hp⟩ := hck
  have h9 := pI_some h
  clear h
  obtain ⟨y, r, rfl, h⟩ := h9
  have h9 := pI_some h
  clear h
  obtain ⟨x, r, rfl, h⟩ := h9
  refine lv_iand hx hb hd ?_
  rw [← hp]
  exact ih _ _ _ _ _ _ _ _ _ _ h hlh hW hS hEe hrc hrs
theorem ex_ior  {u v w z : Nat} {c : Int32} {d : Int64} {ts : List (Int32 × Nat)} {k : Nat} {ls : aL} {st : List Value} {b : aB} {S : aH} {K : aKt} {C : aC} : ex1 (.ior, (u, v, w, z), c, d, ts) k ls st b S K C = (pI st fun y r => pI r fun x r => K (k + 1) ls (.int (x ||| y) :: r) b S) := rfl
theorem ck_ior  {t : aMt} {u v w z : Nat} {c : Int32} {d : Int64} {ts : List (Int32 × Nat)} {k : Nat} : chk t k (.ior, (u, v, w, z), c, d, ts) = (nx t k 1 .ior) := rfl
set_option maxHeartbeats 4000000 in
theorem st_ior {l : Launch} {D : va_G} {cy : Nat → ClassId} {adV : Nat → Nat} {E : aEt} {lx : List Value → aH → aO} {n : Nat}  : StpI l D cy adV E lx n (Instr.ior) := by
  intro id t p e R s m args below meth c A Q v S' hcx hrt hcn0 ih k ls st b S H locs cu su Lc u w1 w z cst d ts hg9 hck h hlh hW hS hEe hrc hrs
  rw [ex_ior] at h
  rw [ck_ior] at hck
  have hcx0 := hcx
  obtain ⟨hx, hb, hml, hown, hts, hnm, hE, hA, hRf, hRl, hsc⟩ := hcx0
  have hK := hE.1
  simp only [nx, dc, jp, Bool.and_eq_true, decide_eq_true_eq] at hck
  obtain ⟨hd, hp⟩ := hck
  have h9 := pI_some h
  clear h
  obtain ⟨y, r, rfl, h⟩ := h9
  have h9 := pI_some h
  clear h
  obtain ⟨x, r, rfl, h⟩ := h9
  refine lv_ior hx hb hd ?_
  rw [← hp]
  exact ih _ _ _ _ _ _ _ _ _ _ h hlh hW hS hEe hrc hrs
theorem ex_ixor  {u v w z : Nat} {c : Int32} {d : Int64} {ts : List (Int32 × Nat)} {k : Nat} {ls : aL} {st : List Value} {b : aB} {S : aH} {K : aKt} {C : aC} : ex1 (.ixor, (u, v, w, z), c, d, ts) k ls st b S K C = (pI st fun y r => pI r fun x r => K (k + 1) ls (.int (x ^^^ y) :: r) b S) := rfl
theorem ck_ixor  {t : aMt} {u v w z : Nat} {c : Int32} {d : Int64} {ts : List (Int32 × Nat)} {k : Nat} : chk t k (.ixor, (u, v, w, z), c, d, ts) = (nx t k 1 .ixor) := rfl
set_option maxHeartbeats 4000000 in
theorem st_ixor {l : Launch} {D : va_G} {cy : Nat → ClassId} {adV : Nat → Nat} {E : aEt} {lx : List Value → aH → aO} {n : Nat}  : StpI l D cy adV E lx n (Instr.ixor) := by
  intro id t p e R s m args below meth c A Q v S' hcx hrt hcn0 ih k ls st b S H locs cu su Lc u w1 w z cst d ts hg9 hck h hlh hW hS hEe hrc hrs
  rw [ex_ixor] at h
  rw [ck_ixor] at hck
  have hcx0 := hcx
  obtain ⟨hx, hb, hml, hown, hts, hnm, hE, hA, hRf, hRl, hsc⟩ := hcx0
  have hK := hE.1
  simp only [nx, dc, jp, Bool.and_eq_true, decide_eq_true_eq] at hck
  obtain ⟨hd, hp⟩ := hck
  have h9 := pI_some h
  clear h
  obtain ⟨y, r, rfl, h⟩ := h9
  have h9 := pI_some h
  clear h
  obtain ⟨x, r, rfl, h⟩ := h9
  refine lv_ixor hx hb hd ?_
  rw [← hp]
  exact ih _ _ _ _ _ _ _ _ _ _ h hlh hW hS hEe hrc hrs
theorem ex_ishl  {u v w z : Nat} {c : Int32} {d : Int64} {ts : List (Int32 × Nat)} {k : Nat} {ls : aL} {st : List Value} {b : aB} {S : aH} {K : aKt} {C : aC} : ex1 (.ishl, (u, v, w, z), c, d, ts) k ls st b S K C = (pI st fun y r => pI r fun x r => K (k + 1) ls (.int (x <<< (y &&& 31)) :: r) b S) := rfl
theorem ck_ishl  {t : aMt} {u v w z : Nat} {c : Int32} {d : Int64} {ts : List (Int32 × Nat)} {k : Nat} : chk t k (.ishl, (u, v, w, z), c, d, ts) = (nx t k 1 .ishl) := rfl
set_option maxHeartbeats 4000000 in
theorem st_ishl {l : Launch} {D : va_G} {cy : Nat → ClassId} {adV : Nat → Nat} {E : aEt} {lx : List Value → aH → aO} {n : Nat}  : StpI l D cy adV E lx n (Instr.ishl) := by
  intro id t p e R s m args below meth c A Q v S' hcx hrt hcn0 ih k ls st b S H locs cu su Lc u w1 w z cst d ts hg9 hck h hlh hW hS hEe hrc hrs
  rw [ex_ishl] at h
  rw [ck_ishl] at hck
  have hcx0 := hcx
  obtain ⟨hx, hb, hml, hown, hts, hnm, hE, hA, hRf, hRl, hsc⟩ := hcx0
  have hK := hE.1
  simp only [nx, dc, jp, Bool.and_eq_true, decide_eq_true_eq] at hck
  obtain ⟨hd, hp⟩ := hck
  have h9 := pI_some h
  clear h
  obtain ⟨y, r, rfl, h⟩ := h9
  have h9 := pI_some h
  clear h
  obtain ⟨x, r, rfl, h⟩ := h9
  refine lv_ishl hx hb hd ?_
  rw [← hp]
  exact ih _ _ _ _ _ _ _ _ _ _ h hlh hW hS hEe hrc hrs
theorem ex_ishr  {u v w z : Nat} {c : Int32} {d : Int64} {ts : List (Int32 × Nat)} {k : Nat} {ls : aL} {st : List Value} {b : aB} {S : aH} {K : aKt} {C : aC} : ex1 (.ishr, (u, v, w, z), c, d, ts) k ls st b S K C = (pI st fun y r => pI r fun x r => K (k + 1) ls (.int (x >>> (y &&& 31)) :: r) b S) := rfl
theorem ck_ishr  {t : aMt} {u v w z : Nat} {c : Int32} {d : Int64} {ts : List (Int32 × Nat)} {k : Nat} : chk t k (.ishr, (u, v, w, z), c, d, ts) = (nx t k 1 .ishr) := rfl
set_option maxHeartbeats 4000000 in
theorem st_ishr {l : Launch} {D : va_G} {cy : Nat → ClassId} {adV : Nat → Nat} {E : aEt} {lx : List Value → aH → aO} {n : Nat}  : StpI l D cy adV E lx n (Instr.ishr) := by
  intro id t p e R s m args below meth c A Q v S' hcx hrt hcn0 ih k ls st b S H locs cu su Lc u w1 w z cst d ts hg9 hck h hlh hW hS hEe hrc hrs
  rw [ex_ishr] at h
  rw [ck_ishr] at hck
  have hcx0 := hcx
  obtain ⟨hx, hb, hml, hown, hts, hnm, hE, hA, hRf, hRl, hsc⟩ := hcx0
  have hK := hE.1
  simp only [nx, dc, jp, Bool.and_eq_true, decide_eq_true_eq] at hck
  obtain ⟨hd, hp⟩ := hck
  have h9 := pI_some h
  clear h
  obtain ⟨y, r, rfl, h⟩ := h9
  have h9 := pI_some h
  clear h
  obtain ⟨x, r, rfl, h⟩ := h9
  refine lv_ishr hx hb hd ?_
  rw [← hp]
  exact ih _ _ _ _ _ _ _ _ _ _ h hlh hW hS hEe hrc hrs
theorem ex_idiv  {u v w z : Nat} {c : Int32} {d : Int64} {ts : List (Int32 × Nat)} {k : Nat} {ls : aL} {st : List Value} {b : aB} {S : aH} {K : aKt} {C : aC} : ex1 (.idiv, (u, v, w, z), c, d, ts) k ls st b S K C = (pI st fun y r => pI r fun x r => gd (¬ y = 0) (K (k + 1) ls (.int (x / y) :: r) b S)) := rfl
theorem ck_idiv  {t : aMt} {u v w z : Nat} {c : Int32} {d : Int64} {ts : List (Int32 × Nat)} {k : Nat} : chk t k (.idiv, (u, v, w, z), c, d, ts) = (nx t k 1 .idiv) := rfl
set_option maxHeartbeats 4000000 in
theorem st_idiv {l : Launch} {D : va_G} {cy : Nat → ClassId} {adV : Nat → Nat} {E : aEt} {lx : List Value → aH → aO} {n : Nat}  : StpI l D cy adV E lx n (Instr.idiv) := by
  intro id t p e R s m args below meth c A Q v S' hcx hrt hcn0 ih k ls st b S H locs cu su Lc u w1 w z cst d ts hg9 hck h hlh hW hS hEe hrc hrs
  rw [ex_idiv] at h
  rw [ck_idiv] at hck
  have hcx0 := hcx
  obtain ⟨hx, hb, hml, hown, hts, hnm, hE, hA, hRf, hRl, hsc⟩ := hcx0
  have hK := hE.1
  simp only [nx, dc, jp, Bool.and_eq_true, decide_eq_true_eq] at hck
  obtain ⟨hd, hp⟩ := hck
  have h9 := pI_some h
  clear h
  obtain ⟨y, r, rfl, h⟩ := h9
  have h9 := pI_some h
  clear h
  obtain ⟨x, r, rfl, h⟩ := h9
  have h9 := gd_some h
  clear h
  obtain ⟨hne, h⟩ := h9
  refine lv_idiv hx hb hd hne ?_
  rw [← hp]
  exact ih _ _ _ _ _ _ _ _ _ _ h hlh hW hS hEe hrc hrs
theorem ex_irem  {u v w z : Nat} {c : Int32} {d : Int64} {ts : List (Int32 × Nat)} {k : Nat} {ls : aL} {st : List Value} {b : aB} {S : aH} {K : aKt} {C : aC} : ex1 (.irem, (u, v, w, z), c, d, ts) k ls st b S K C = (pI st fun y r => pI r fun x r => gd (¬ y = 0) (K (k + 1) ls (.int (x - x / y * y) :: r) b S)) := rfl
theorem ck_irem  {t : aMt} {u v w z : Nat} {c : Int32} {d : Int64} {ts : List (Int32 × Nat)} {k : Nat} : chk t k (.irem, (u, v, w, z), c, d, ts) = (nx t k 1 .irem) := rfl
set_option maxHeartbeats 4000000 in
theorem st_irem {l : Launch} {D : va_G} {cy : Nat → ClassId} {adV : Nat → Nat} {E : aEt} {lx : List Value → aH → aO} {n : Nat}  : StpI l D cy adV E lx n (Instr.irem) := by
  intro id t p e R s m args below meth c A Q v S' hcx hrt hcn0 ih k ls st b S H locs cu su Lc u w1 w z cst d ts hg9 hck h hlh hW hS hEe hrc hrs
  rw [ex_irem] at h
  rw [ck_irem] at hck
  have hcx0 := hcx
  obtain ⟨hx, hb, hml, hown, hts, hnm, hE, hA, hRf, hRl, hsc⟩ := hcx0
  have hK := hE.1
  simp only [nx, dc, jp, Bool.and_eq_true, decide_eq_true_eq] at hck
  obtain ⟨hd, hp⟩ := hck
  have h9 := pI_some h
  clear h
  obtain ⟨y, r, rfl, h⟩ := h9
  have h9 := pI_some h
  clear h
  obtain ⟨x, r, rfl, h⟩ := h9
  have h9 := gd_some h
  clear h
  obtain ⟨hne, h⟩ := h9
  refine lv_irem hx hb hd hne ?_
  rw [← hp]
  exact ih _ _ _ _ _ _ _ _ _ _ h hlh hW hS hEe hrc hrs
theorem ex_iushr  {u v w z : Nat} {c : Int32} {d : Int64} {ts : List (Int32 × Nat)} {k : Nat} {ls : aL} {st : List Value} {b : aB} {S : aH} {K : aKt} {C : aC} : ex1 (.iushr, (u, v, w, z), c, d, ts) k ls st b S K C = (pI st fun y r => pI r fun x r => K (k + 1) ls (.int (x.toUInt32 >>> (y.toUInt32 &&& Int32.toUInt32 31)).toInt32 :: r) b S) := rfl
theorem ck_iushr  {t : aMt} {u v w z : Nat} {c : Int32} {d : Int64} {ts : List (Int32 × Nat)} {k : Nat} : chk t k (.iushr, (u, v, w, z), c, d, ts) = (nx t k 1 .iushr) := rfl
set_option maxHeartbeats 4000000 in
theorem st_iushr {l : Launch} {D : va_G} {cy : Nat → ClassId} {adV : Nat → Nat} {E : aEt} {lx : List Value → aH → aO} {n : Nat}  : StpI l D cy adV E lx n (Instr.iushr) := by
  intro id t p e R s m args below meth c A Q v S' hcx hrt hcn0 ih k ls st b S H locs cu su Lc u w1 w z cst d ts hg9 hck h hlh hW hS hEe hrc hrs
  rw [ex_iushr] at h
  rw [ck_iushr] at hck
  have hcx0 := hcx
  obtain ⟨hx, hb, hml, hown, hts, hnm, hE, hA, hRf, hRl, hsc⟩ := hcx0
  have hK := hE.1
  simp only [nx, dc, jp, Bool.and_eq_true, decide_eq_true_eq] at hck
  obtain ⟨hd, hp⟩ := hck
  have h9 := pI_some h
  clear h
  obtain ⟨y, r, rfl, h⟩ := h9
  have h9 := pI_some h
  clear h
  obtain ⟨x, r, rfl, h⟩ := h9
  refine lv_iushr hx hb hd rfl ?_
  rw [← hp]
  exact ih _ _ _ _ _ _ _ _ _ _ h hlh hW hS hEe hrc hrs
theorem ex_ladd  {u v w z : Nat} {c : Int32} {d : Int64} {ts : List (Int32 × Nat)} {k : Nat} {ls : aL} {st : List Value} {b : aB} {S : aH} {K : aKt} {C : aC} : ex1 (.ladd, (u, v, w, z), c, d, ts) k ls st b S K C = (pJ st fun y r => pJ r fun x r => K (k + 1) ls (.long (x + y) :: r) b S) := rfl
theorem ck_ladd  {t : aMt} {u v w z : Nat} {c : Int32} {d : Int64} {ts : List (Int32 × Nat)} {k : Nat} : chk t k (.ladd, (u, v, w, z), c, d, ts) = (nx t k 1 .ladd) := rfl
set_option maxHeartbeats 4000000 in
theorem st_ladd {l : Launch} {D : va_G} {cy : Nat → ClassId} {adV : Nat → Nat} {E : aEt} {lx : List Value → aH → aO} {n : Nat}  : StpI l D cy adV E lx n (Instr.ladd) := by
  intro id t p e R s m args below meth c A Q v S' hcx hrt hcn0 ih k ls st b S H locs cu su Lc u w1 w z cst d ts hg9 hck h hlh hW hS hEe hrc hrs
  rw [ex_ladd] at h
  rw [ck_ladd] at hck
  have hcx0 := hcx
  obtain ⟨hx, hb, hml, hown, hts, hnm, hE, hA, hRf, hRl, hsc⟩ := hcx0
  have hK := hE.1
  simp only [nx, dc, jp, Bool.and_eq_true, decide_eq_true_eq] at hck
  obtain ⟨hd, hp⟩ := hck
  have h9 := pJ_some h
  clear h
  obtain ⟨y, r, rfl, h⟩ := h9
  have h9 := pJ_some h
  clear h
  obtain ⟨x, r, rfl, h⟩ := h9
  refine lv_ladd hx hb hd ?_
  rw [← hp]
  exact ih _ _ _ _ _ _ _ _ _ _ h hlh hW hS hEe hrc hrs
theorem ex_lsub  {u v w z : Nat} {c : Int32} {d : Int64} {ts : List (Int32 × Nat)} {k : Nat} {ls : aL} {st : List Value} {b : aB} {S : aH} {K : aKt} {C : aC} : ex1 (.lsub, (u, v, w, z), c, d, ts) k ls st b S K C = (pJ st fun y r => pJ r fun x r => K (k + 1) ls (.long (x - y) :: r) b S) := rfl
theorem ck_lsub  {t : aMt} {u v w z : Nat} {c : Int32} {d : Int64} {ts : List (Int32 × Nat)} {k : Nat} : chk t k (.lsub, (u, v, w, z), c, d, ts) = (nx t k 1 .lsub) := rfl
set_option maxHeartbeats 4000000 in
theorem st_lsub {l : Launch} {D : va_G} {cy : Nat → ClassId} {adV : Nat → Nat} {E : aEt} {lx : List Value → aH → aO} {n : Nat}  : StpI l D cy adV E lx n (Instr.lsub) := by
  intro id t p e R s m args below meth c A Q v S' hcx hrt hcn0 ih k ls st b S H locs cu su Lc u w1 w z cst d ts hg9 hck h hlh hW hS hEe hrc hrs
  rw [ex_lsub] at h
  rw [ck_lsub] at hck
  have hcx0 := hcx
  obtain ⟨hx, hb, hml, hown, hts, hnm, hE, hA, hRf, hRl, hsc⟩ := hcx0
  have hK := hE.1
  simp only [nx, dc, jp, Bool.and_eq_true, decide_eq_true_eq] at hck
  obtain ⟨hd, hp⟩ := hck
  have h9 := pJ_some h
  clear h
  obtain ⟨y, r, rfl, h⟩ := h9
  have h9 := pJ_some h
  clear h
  obtain ⟨x, r, rfl, h⟩ := h9
  refine lv_lsub hx hb hd ?_
  rw [← hp]
  exact ih _ _ _ _ _ _ _ _ _ _ h hlh hW hS hEe hrc hrs
theorem ex_lmul  {u v w z : Nat} {c : Int32} {d : Int64} {ts : List (Int32 × Nat)} {k : Nat} {ls : aL} {st : List Value} {b : aB} {S : aH} {K : aKt} {C : aC} : ex1 (.lmul, (u, v, w, z), c, d, ts) k ls st b S K C = (pJ st fun y r => pJ r fun x r => K (k + 1) ls (.long (x * y) :: r) b S) := rfl
theorem ck_lmul  {t : aMt} {u v w z : Nat} {c : Int32} {d : Int64} {ts : List (Int32 × Nat)} {k : Nat} : chk t k (.lmul, (u, v, w, z), c, d, ts) = (nx t k 1 .lmul) := rfl
set_option maxHeartbeats 4000000 in
theorem st_lmul {l : Launch} {D : va_G} {cy : Nat → ClassId} {adV : Nat → Nat} {E : aEt} {lx : List Value → aH → aO} {n : Nat}  : StpI l D cy adV E lx n (Instr.lmul) := by
  intro id t p e R s m args below meth c A Q v S' hcx hrt hcn0 ih k ls st b S H locs cu su Lc u w1 w z cst d ts hg9 hck h hlh hW hS hEe hrc hrs
  rw [ex_lmul] at h
  rw [ck_lmul] at hck
  have hcx0 := hcx
  obtain ⟨hx, hb, hml, hown, hts, hnm, hE, hA, hRf, hRl, hsc⟩ := hcx0
  have hK := hE.1
  simp only [nx, dc, jp, Bool.and_eq_true, decide_eq_true_eq] at hck
  obtain ⟨hd, hp⟩ := hck
  have h9 := pJ_some h
  clear h
  obtain ⟨y, r, rfl, h⟩ := h9
  have h9 := pJ_some h
  clear h
  obtain ⟨x, r, rfl, h⟩ := h9
  refine lv_lmul hx hb hd ?_
  rw [← hp]
  exact ih _ _ _ _ _ _ _ _ _ _ h hlh hW hS hEe hrc hrs
theorem ex_land  {u v w z : Nat} {c : Int32} {d : Int64} {ts : List (Int32 × Nat)} {k : Nat} {ls : aL} {st : List Value} {b : aB} {S : aH} {K : aKt} {C : aC} : ex1 (.land, (u, v, w, z), c, d, ts) k ls st b S K C = (pJ st fun y r => pJ r fun x r => K (k + 1) ls (.long (x &&& y) :: r) b S) := rfl
theorem ck_land  {t : aMt} {u v w z : Nat} {c : Int32} {d : Int64} {ts : List (Int32 × Nat)} {k : Nat} : chk t k (.land, (u, v, w, z), c, d, ts) = (nx t k 1 .land) := rfl
set_option maxHeartbeats 4000000 in
theorem st_land {l : Launch} {D : va_G} {cy : Nat → ClassId} {adV : Nat → Nat} {E : aEt} {lx : List Value → aH → aO} {n : Nat}  : StpI l D cy adV E lx n (Instr.land) := by
  intro id t p e R s m args below meth c A Q v S' hcx hrt hcn0 ih k ls st b S H locs cu su Lc u w1 w z cst d ts hg9 hck h hlh hW hS hEe hrc hrs
  rw [ex_land] at h
  rw [ck_land] at hck
  have hcx0 := hcx
  obtain ⟨hx, hb, hml, hown, hts, hnm, hE, hA, hRf, hRl, hsc⟩ := hcx0
  have hK := hE.1
  simp only [nx, dc, jp, Bool.and_eq_true, decide_eq_true_eq] at hck
  obtain ⟨hd, hp⟩ := hck
  have h9 := pJ_some h
  clear h
  obtain ⟨y, r, rfl, h⟩ := h9
  have h9 := pJ_some h
  clear h
  obtain ⟨x, r, rfl, h⟩ := h9
  refine lv_land hx hb hd ?_
  rw [← hp]
  exact ih _ _ _ _ _ _ _ _ _ _ h hlh hW hS hEe hrc hrs
theorem ex_lor  {u v w z : Nat} {c : Int32} {d : Int64} {ts : List (Int32 × Nat)} {k : Nat} {ls : aL} {st : List Value} {b : aB} {S : aH} {K : aKt} {C : aC} : ex1 (.lor, (u, v, w, z), c, d, ts) k ls st b S K C = (pJ st fun y r => pJ r fun x r => K (k + 1) ls (.long (x ||| y) :: r) b S) := rfl
theorem ck_lor  {t : aMt} {u v w z : Nat} {c : Int32} {d : Int64} {ts : List (Int32 × Nat)} {k : Nat} : chk t k (.lor, (u, v, w, z), c, d, ts) = (nx t k 1 .lor) := rfl
set_option maxHeartbeats 4000000 in
theorem st_lor {l : Launch} {D : va_G} {cy : Nat → ClassId} {adV : Nat → Nat} {E : aEt} {lx : List Value → aH → aO} {n : Nat}  : StpI l D cy adV E lx n (Instr.lor) := by
  intro id t p e R s m args below meth c A Q v S' hcx hrt hcn0 ih k ls st b S H locs cu su Lc u w1 w z cst d ts hg9 hck h hlh hW hS hEe hrc hrs
  rw [ex_lor] at h
  rw [ck_lor] at hck
  have hcx0 := hcx
  obtain ⟨hx, hb, hml, hown, hts, hnm, hE, hA, hRf, hRl, hsc⟩ := hcx0
  have hK := hE.1
  simp only [nx, dc, jp, Bool.and_eq_true, decide_eq_true_eq] at hck
  obtain ⟨hd, hp⟩ := hck
  have h9 := pJ_some h
  clear h
  obtain ⟨y, r, rfl, h⟩ := h9
  have h9 := pJ_some h
  clear h
  obtain ⟨x, r, rfl, h⟩ := h9
  refine lv_lor hx hb hd ?_
  rw [← hp]
  exact ih _ _ _ _ _ _ _ _ _ _ h hlh hW hS hEe hrc hrs
theorem ex_lxor  {u v w z : Nat} {c : Int32} {d : Int64} {ts : List (Int32 × Nat)} {k : Nat} {ls : aL} {st : List Value} {b : aB} {S : aH} {K : aKt} {C : aC} : ex1 (.lxor, (u, v, w, z), c, d, ts) k ls st b S K C = (pJ st fun y r => pJ r fun x r => K (k + 1) ls (.long (x ^^^ y) :: r) b S) := rfl
theorem ck_lxor  {t : aMt} {u v w z : Nat} {c : Int32} {d : Int64} {ts : List (Int32 × Nat)} {k : Nat} : chk t k (.lxor, (u, v, w, z), c, d, ts) = (nx t k 1 .lxor) := rfl
set_option maxHeartbeats 4000000 in
theorem st_lxor {l : Launch} {D : va_G} {cy : Nat → ClassId} {adV : Nat → Nat} {E : aEt} {lx : List Value → aH → aO} {n : Nat}  : StpI l D cy adV E lx n (Instr.lxor) := by
  intro id t p e R s m args below meth c A Q v S' hcx hrt hcn0 ih k ls st b S H locs cu su Lc u w1 w z cst d ts hg9 hck h hlh hW hS hEe hrc hrs
  rw [ex_lxor] at h
  rw [ck_lxor] at hck
  have hcx0 := hcx
  obtain ⟨hx, hb, hml, hown, hts, hnm, hE, hA, hRf, hRl, hsc⟩ := hcx0
  have hK := hE.1
  simp only [nx, dc, jp, Bool.and_eq_true, decide_eq_true_eq] at hck
  obtain ⟨hd, hp⟩ := hck
  have h9 := pJ_some h
  clear h
  obtain ⟨y, r, rfl, h⟩ := h9
  have h9 := pJ_some h
  clear h
  obtain ⟨x, r, rfl, h⟩ := h9
  refine lv_lxor hx hb hd ?_
  rw [← hp]
  exact ih _ _ _ _ _ _ _ _ _ _ h hlh hW hS hEe hrc hrs
theorem ex_ldiv  {u v w z : Nat} {c : Int32} {d : Int64} {ts : List (Int32 × Nat)} {k : Nat} {ls : aL} {st : List Value} {b : aB} {S : aH} {K : aKt} {C : aC} : ex1 (.ldiv, (u, v, w, z), c, d, ts) k ls st b S K C = (pJ st fun y r => pJ r fun x r => gd (¬ y = 0) (K (k + 1) ls (.long (x / y) :: r) b S)) := rfl
theorem ck_ldiv  {t : aMt} {u v w z : Nat} {c : Int32} {d : Int64} {ts : List (Int32 × Nat)} {k : Nat} : chk t k (.ldiv, (u, v, w, z), c, d, ts) = (nx t k 1 .ldiv) := rfl
set_option maxHeartbeats 4000000 in
theorem st_ldiv {l : Launch} {D : va_G} {cy : Nat → ClassId} {adV : Nat → Nat} {E : aEt} {lx : List Value → aH → aO} {n : Nat}  : StpI l D cy adV E lx n (Instr.ldiv) := by
  intro id t p e R s m args below meth c A Q v S' hcx hrt hcn0 ih k ls st b S H locs cu su Lc u w1 w z cst d ts hg9 hck h hlh hW hS hEe hrc hrs
  rw [ex_ldiv] at h
  rw [ck_ldiv] at hck
  have hcx0 := hcx
  obtain ⟨hx, hb, hml, hown, hts, hnm, hE, hA, hRf, hRl, hsc⟩ := hcx0
  have hK := hE.1
  simp only [nx, dc, jp, Bool.and_eq_true, decide_eq_true_eq] at hck
  obtain ⟨hd, hp⟩ := hck
  have h9 := pJ_some h
  clear h
  obtain ⟨y, r, rfl, h⟩ := h9
  have h9 := pJ_some h
  clear h
  obtain ⟨x, r, rfl, h⟩ := h9
  have h9 := gd_some h
  clear h
  obtain ⟨hne, h⟩ := h9
  refine lv_ldiv hx hb hd hne ?_
  rw [← hp]
  exact ih _ _ _ _ _ _ _ _ _ _ h hlh hW hS hEe hrc hrs
theorem ex_lrem  {u v w z : Nat} {c : Int32} {d : Int64} {ts : List (Int32 × Nat)} {k : Nat} {ls : aL} {st : List Value} {b : aB} {S : aH} {K : aKt} {C : aC} : ex1 (.lrem, (u, v, w, z), c, d, ts) k ls st b S K C = (pJ st fun y r => pJ r fun x r => gd (¬ y = 0) (K (k + 1) ls (.long (x - x / y * y) :: r) b S)) := rfl
theorem ck_lrem  {t : aMt} {u v w z : Nat} {c : Int32} {d : Int64} {ts : List (Int32 × Nat)} {k : Nat} : chk t k (.lrem, (u, v, w, z), c, d, ts) = (nx t k 1 .lrem) := rfl
set_option maxHeartbeats 4000000 in
theorem st_lrem {l : Launch} {D : va_G} {cy : Nat → ClassId} {adV : Nat → Nat} {E : aEt} {lx : List Value → aH → aO} {n : Nat}  : StpI l D cy adV E lx n (Instr.lrem) := by
  intro id t p e R s m args below meth c A Q v S' hcx hrt hcn0 ih k ls st b S H locs cu su Lc u w1 w z cst d ts hg9 hck h hlh hW hS hEe hrc hrs
  rw [ex_lrem] at h
  rw [ck_lrem] at hck
  have hcx0 := hcx
  obtain ⟨hx, hb, hml, hown, hts, hnm, hE, hA, hRf, hRl, hsc⟩ := hcx0
  have hK := hE.1
  simp only [nx, dc, jp, Bool.and_eq_true, decide_eq_true_eq] at hck
  obtain ⟨hd, hp⟩ := hck
  have h9 := pJ_some h
  clear h
  obtain ⟨y, r, rfl, h⟩ := h9
  have h9 := pJ_some h
  clear h
  obtain ⟨x, r, rfl, h⟩ := h9
  have h9 := gd_some h
  clear h
  obtain ⟨hne, h⟩ := h9
  refine lv_lrem hx hb hd hne ?_
  rw [← hp]
  exact ih _ _ _ _ _ _ _ _ _ _ h hlh hW hS hEe hrc hrs
