theorem ex_lshl  {u v w z : Nat} {c : Int32} {d : Int64} {ts : List (Int32 × Nat)} {k : Nat} {ls : aL} {st : List Value} {b : aB} {S : aH} {K : aKt} {C : aC} : ex1 (.lshl, (u, v, w, z), c, d, ts) k ls st b S K C = (pI st fun y r => pJ r fun x r => K (k + 1) ls (.long (x <<< (y.toInt64 &&& 63)) :: r) b S) := rfl
theorem ck_lshl  {t : aMt} {u v w z : Nat} {c : Int32} {d : Int64} {ts : List (Int32 × Nat)} {k : Nat} : chk t k (.lshl, (u, v, w, z), c, d, ts) = (nx t k 1 .lshl) := rfl
set_option maxHeartbeats 4000000 in
theorem st_lshl {l : Launch} {D : va_G} {cy : Nat → ClassId} {adV : Nat → Nat} {E : aEt} {lx : List Value → aH → aO} {n : Nat}  : StpI l D cy adV E lx n (Instr.lshl) := by
  intro id t p e R s m args below meth c A Q v S' hcx hrt hcn0 ih k ls st b S H locs cu su Lc u w1 w z cst d ts hg9 hck h hlh hW hS hEe hrc hrs
  rw [ex_lshl] at h
  rw [ck_lshl] at hck
  have hcx0 := hcx
  obtain ⟨hx, hb, hml, hown, hts, hnm, hE, hA, hRf, hRl, hsc⟩ := hcx0
  have hK := hE.1
  simp only [nx, dc, jp, Bool.and_eq_true, decide_eq_true_eq] at hck
  obtain ⟨hd, hp⟩ := hck
  have h9 := pI_some h
  clear h
  obtain ⟨y, r, rfl, h⟩ := h9
  have h9 := pJ_some h
  clear h
  obtain ⟨x, r, rfl, h⟩ := h9
  refine lv_lshl hx hb hd rfl ?_
  rw [← hp]
  exact ih _ _ _ _ _ _ _ _ _ _ h hlh hW hS hEe hrc hrs
theorem ex_lshr  {u v w z : Nat} {c : Int32} {d : Int64} {ts : List (Int32 × Nat)} {k : Nat} {ls : aL} {st : List Value} {b : aB} {S : aH} {K : aKt} {C : aC} : ex1 (.lshr, (u, v, w, z), c, d, ts) k ls st b S K C = (pI st fun y r => pJ r fun x r => K (k + 1) ls (.long (x >>> (y.toInt64 &&& 63)) :: r) b S) := rfl
theorem ck_lshr  {t : aMt} {u v w z : Nat} {c : Int32} {d : Int64} {ts : List (Int32 × Nat)} {k : Nat} : chk t k (.lshr, (u, v, w, z), c, d, ts) = (nx t k 1 .lshr) := rfl
set_option maxHeartbeats 4000000 in
theorem st_lshr {l : Launch} {D : va_G} {cy : Nat → ClassId} {adV : Nat → Nat} {E : aEt} {lx : List Value → aH → aO} {n : Nat}  : StpI l D cy adV E lx n (Instr.lshr) := by
  intro id t p e R s m args below meth c A Q v S' hcx hrt hcn0 ih k ls st b S H locs cu su Lc u w1 w z cst d ts hg9 hck h hlh hW hS hEe hrc hrs
  rw [ex_lshr] at h
  rw [ck_lshr] at hck
  have hcx0 := hcx
  obtain ⟨hx, hb, hml, hown, hts, hnm, hE, hA, hRf, hRl, hsc⟩ := hcx0
  have hK := hE.1
  simp only [nx, dc, jp, Bool.and_eq_true, decide_eq_true_eq] at hck
  obtain ⟨hd, hp⟩ := hck
  have h9 := pI_some h
  clear h
  obtain ⟨y, r, rfl, h⟩ := h9
  have h9 := pJ_some h
  clear h
  obtain ⟨x, r, rfl, h⟩ := h9
  refine lv_lshr hx hb hd rfl ?_
  rw [← hp]
  exact ih _ _ _ _ _ _ _ _ _ _ h hlh hW hS hEe hrc hrs
theorem ex_lushr  {u v w z : Nat} {c : Int32} {d : Int64} {ts : List (Int32 × Nat)} {k : Nat} {ls : aL} {st : List Value} {b : aB} {S : aH} {K : aKt} {C : aC} : ex1 (.lushr, (u, v, w, z), c, d, ts) k ls st b S K C = (pI st fun y r => pJ r fun x r => K (k + 1) ls (.long (x.toUInt64 >>> (y.toInt64.toUInt64 &&& Int64.toUInt64 63)).toInt64 :: r) b S) := rfl
theorem ck_lushr  {t : aMt} {u v w z : Nat} {c : Int32} {d : Int64} {ts : List (Int32 × Nat)} {k : Nat} : chk t k (.lushr, (u, v, w, z), c, d, ts) = (nx t k 1 .lushr) := rfl
set_option maxHeartbeats 4000000 in
theorem st_lushr {l : Launch} {D : va_G} {cy : Nat → ClassId} {adV : Nat → Nat} {E : aEt} {lx : List Value → aH → aO} {n : Nat}  : StpI l D cy adV E lx n (Instr.lushr) := by
  intro id t p e R s m args below meth c A Q v S' hcx hrt hcn0 ih k ls st b S H locs cu su Lc u w1 w z cst d ts hg9 hck h hlh hW hS hEe hrc hrs
  rw [ex_lushr] at h
  rw [ck_lushr] at hck
  have hcx0 := hcx
  obtain ⟨hx, hb, hml, hown, hts, hnm, hE, hA, hRf, hRl, hsc⟩ := hcx0
  have hK := hE.1
  simp only [nx, dc, jp, Bool.and_eq_true, decide_eq_true_eq] at hck
  obtain ⟨hd, hp⟩ := hck
  have h9 := pI_some h
  clear h
  obtain ⟨y, r, rfl, h⟩ := h9
  have h9 := pJ_some h
  clear h
  obtain ⟨x, r, rfl, h⟩ := h9
  refine lv_lushr hx hb hd rfl ?_
  rw [← hp]
  exact ih _ _ _ _ _ _ _ _ _ _ h hlh hW hS hEe hrc hrs
theorem ex_lcmp  {u v w z : Nat} {c : Int32} {d : Int64} {ts : List (Int32 × Nat)} {k : Nat} {ls : aL} {st : List Value} {b : aB} {S : aH} {K : aKt} {C : aC} : ex1 (.lcmp, (u, v, w, z), c, d, ts) k ls st b S K C = (pJ st fun y r => pJ r fun x r => K (k + 1) ls (.int (lg_cmp x y) :: r) b S) := rfl
theorem ck_lcmp  {t : aMt} {u v w z : Nat} {c : Int32} {d : Int64} {ts : List (Int32 × Nat)} {k : Nat} : chk t k (.lcmp, (u, v, w, z), c, d, ts) = (nx t k 1 .lcmp) := rfl
set_option maxHeartbeats 4000000 in
theorem st_lcmp {l : Launch} {D : va_G} {cy : Nat → ClassId} {adV : Nat → Nat} {E : aEt} {lx : List Value → aH → aO} {n : Nat}  : StpI l D cy adV E lx n (Instr.lcmp) := by
  intro id t p e R s m args below meth c A Q v S' hcx hrt hcn0 ih k ls st b S H locs cu su Lc u w1 w z cst d ts hg9 hck h hlh hW hS hEe hrc hrs
  rw [ex_lcmp] at h
  rw [ck_lcmp] at hck
  have hcx0 := hcx
  obtain ⟨hx, hb, hml, hown, hts, hnm, hE, hA, hRf, hRl, hsc⟩ := hcx0
  have hK := hE.1
  simp only [nx, dc, jp, Bool.and_eq_true, decide_eq_true_eq] at hck
  obtain ⟨hd, hp⟩ := hck
  have h9 := pJ_some h
  clear h
  obtain ⟨y, r, rfl, h⟩ := h9
  have h9 := pJ_some h
  clear h
  obtain ⟨x, r, rfl, h⟩ := h9
  refine W.lcmp hx hb hd ?_
  rw [← hp]
  exact ih _ _ _ _ _ _ _ _ _ _ h hlh hW hS hEe hrc hrs
theorem ex_ineg  {u v w z : Nat} {c : Int32} {d : Int64} {ts : List (Int32 × Nat)} {k : Nat} {ls : aL} {st : List Value} {b : aB} {S : aH} {K : aKt} {C : aC} : ex1 (.ineg, (u, v, w, z), c, d, ts) k ls st b S K C = (pI st fun x r => K (k + 1) ls (.int (-x) :: r) b S) := rfl
theorem ck_ineg  {t : aMt} {u v w z : Nat} {c : Int32} {d : Int64} {ts : List (Int32 × Nat)} {k : Nat} : chk t k (.ineg, (u, v, w, z), c, d, ts) = (nx t k 1 .ineg) := rfl
set_option maxHeartbeats 4000000 in
theorem st_ineg {l : Launch} {D : va_G} {cy : Nat → ClassId} {adV : Nat → Nat} {E : aEt} {lx : List Value → aH → aO} {n : Nat}  : StpI l D cy adV E lx n (Instr.ineg) := by
  intro id t p e R s m args below meth c A Q v S' hcx hrt hcn0 ih k ls st b S H locs cu su Lc u w1 w z cst d ts hg9 hck h hlh hW hS hEe hrc hrs
  rw [ex_ineg] at h
  rw [ck_ineg] at hck
  have hcx0 := hcx
  obtain ⟨hx, hb, hml, hown, hts, hnm, hE, hA, hRf, hRl, hsc⟩ := hcx0
  have hK := hE.1
  simp only [nx, dc, jp, Bool.and_eq_true, decide_eq_true_eq] at hck
  obtain ⟨hd, hp⟩ := hck
  have h9 := pI_some h
  clear h
  obtain ⟨y, r, rfl, h⟩ := h9
  refine lv_ineg hx hb hd ?_
  rw [← hp]
  exact ih _ _ _ _ _ _ _ _ _ _ h hlh hW hS hEe hrc hrs
theorem ex_i2l  {u v w z : Nat} {c : Int32} {d : Int64} {ts : List (Int32 × Nat)} {k : Nat} {ls : aL} {st : List Value} {b : aB} {S : aH} {K : aKt} {C : aC} : ex1 (.i2l, (u, v, w, z), c, d, ts) k ls st b S K C = (pI st fun x r => K (k + 1) ls (.long x.toInt64 :: r) b S) := rfl
theorem ck_i2l  {t : aMt} {u v w z : Nat} {c : Int32} {d : Int64} {ts : List (Int32 × Nat)} {k : Nat} : chk t k (.i2l, (u, v, w, z), c, d, ts) = (nx t k 1 .i2l) := rfl
set_option maxHeartbeats 4000000 in
theorem st_i2l {l : Launch} {D : va_G} {cy : Nat → ClassId} {adV : Nat → Nat} {E : aEt} {lx : List Value → aH → aO} {n : Nat}  : StpI l D cy adV E lx n (Instr.i2l) := by
  intro id t p e R s m args below meth c A Q v S' hcx hrt hcn0 ih k ls st b S H locs cu su Lc u w1 w z cst d ts hg9 hck h hlh hW hS hEe hrc hrs
  rw [ex_i2l] at h
  rw [ck_i2l] at hck
  have hcx0 := hcx
  obtain ⟨hx, hb, hml, hown, hts, hnm, hE, hA, hRf, hRl, hsc⟩ := hcx0
  have hK := hE.1
  simp only [nx, dc, jp, Bool.and_eq_true, decide_eq_true_eq] at hck
  obtain ⟨hd, hp⟩ := hck
  have h9 := pI_some h
  clear h
  obtain ⟨y, r, rfl, h⟩ := h9
  refine lv_i2l hx hb hd rfl ?_
  rw [← hp]
  exact ih _ _ _ _ _ _ _ _ _ _ h hlh hW hS hEe hrc hrs
theorem ex_l2i  {u v w z : Nat} {c : Int32} {d : Int64} {ts : List (Int32 × Nat)} {k : Nat} {ls : aL} {st : List Value} {b : aB} {S : aH} {K : aKt} {C : aC} : ex1 (.l2i, (u, v, w, z), c, d, ts) k ls st b S K C = (pJ st fun x r => K (k + 1) ls (.int x.toInt32 :: r) b S) := rfl
theorem ck_l2i  {t : aMt} {u v w z : Nat} {c : Int32} {d : Int64} {ts : List (Int32 × Nat)} {k : Nat} : chk t k (.l2i, (u, v, w, z), c, d, ts) = (nx t k 1 .l2i) := rfl
set_option maxHeartbeats 4000000 in
theorem st_l2i {l : Launch} {D : va_G} {cy : Nat → ClassId} {adV : Nat → Nat} {E : aEt} {lx : List Value → aH → aO} {n : Nat}  : StpI l D cy adV E lx n (Instr.l2i) := by
  intro id t p e R s m args below meth c A Q v S' hcx hrt hcn0 ih k ls st b S H locs cu su Lc u w1 w z cst d ts hg9 hck h hlh hW hS hEe hrc hrs
  rw [ex_l2i] at h
  rw [ck_l2i] at hck
  have hcx0 := hcx
  obtain ⟨hx, hb, hml, hown, hts, hnm, hE, hA, hRf, hRl, hsc⟩ := hcx0
  have hK := hE.1
  simp only [nx, dc, jp, Bool.and_eq_true, decide_eq_true_eq] at hck
  obtain ⟨hd, hp⟩ := hck
  have h9 := pJ_some h
  clear h
  obtain ⟨y, r, rfl, h⟩ := h9
  refine lv_l2i hx hb hd rfl ?_
  rw [← hp]
  exact ih _ _ _ _ _ _ _ _ _ _ h hlh hW hS hEe hrc hrs
theorem ex_i2b  {u v w z : Nat} {c : Int32} {d : Int64} {ts : List (Int32 × Nat)} {k : Nat} {ls : aL} {st : List Value} {b : aB} {S : aH} {K : aKt} {C : aC} : ex1 (.i2b, (u, v, w, z), c, d, ts) k ls st b S K C = (pI st fun x r => K (k + 1) ls (.int x.toInt8.toInt32 :: r) b S) := rfl
theorem ck_i2b  {t : aMt} {u v w z : Nat} {c : Int32} {d : Int64} {ts : List (Int32 × Nat)} {k : Nat} : chk t k (.i2b, (u, v, w, z), c, d, ts) = (nx t k 1 .i2b) := rfl
set_option maxHeartbeats 4000000 in
theorem st_i2b {l : Launch} {D : va_G} {cy : Nat → ClassId} {adV : Nat → Nat} {E : aEt} {lx : List Value → aH → aO} {n : Nat}  : StpI l D cy adV E lx n (Instr.i2b) := by
  intro id t p e R s m args below meth c A Q v S' hcx hrt hcn0 ih k ls st b S H locs cu su Lc u w1 w z cst d ts hg9 hck h hlh hW hS hEe hrc hrs
  rw [ex_i2b] at h
  rw [ck_i2b] at hck
  have hcx0 := hcx
  obtain ⟨hx, hb, hml, hown, hts, hnm, hE, hA, hRf, hRl, hsc⟩ := hcx0
  have hK := hE.1
  simp only [nx, dc, jp, Bool.and_eq_true, decide_eq_true_eq] at hck
  obtain ⟨hd, hp⟩ := hck
  have h9 := pI_some h
  clear h
  obtain ⟨y, r, rfl, h⟩ := h9
  refine lv_i2b hx hb hd rfl ?_
  rw [← hp]
  exact ih _ _ _ _ _ _ _ _ _ _ h hlh hW hS hEe hrc hrs
theorem ex_dup  {u v w z : Nat} {c : Int32} {d : Int64} {ts : List (Int32 × Nat)} {k : Nat} {ls : aL} {st : List Value} {b : aB} {S : aH} {K : aKt} {C : aC} : ex1 (.dup, (u, v, w, z), c, d, ts) k ls st b S K C = ((match st with
      | .int x :: r => K (k + 1) ls (.int x :: .int x :: r) b S
      | .ref x :: r => K (k + 1) ls (.ref x :: .ref x :: r) b S
      | _ => none)) := rfl
theorem ck_dup  {t : aMt} {u v w z : Nat} {c : Int32} {d : Int64} {ts : List (Int32 × Nat)} {k : Nat} : chk t k (.dup, (u, v, w, z), c, d, ts) = (nx t k 1 .dup) := rfl
set_option maxHeartbeats 4000000 in
theorem st_dup {l : Launch} {D : va_G} {cy : Nat → ClassId} {adV : Nat → Nat} {E : aEt} {lx : List Value → aH → aO} {n : Nat}  : StpI l D cy adV E lx n (Instr.dup) := by
  intro id t p e R s m args below meth c A Q v S' hcx hrt hcn0 ih k ls st b S H locs cu su Lc u w1 w z cst d ts hg9 hck h hlh hW hS hEe hrc hrs
  rw [ex_dup] at h
  rw [ck_dup] at hck
  have hcx0 := hcx
  obtain ⟨hx, hb, hml, hown, hts, hnm, hE, hA, hRf, hRl, hsc⟩ := hcx0
  have hK := hE.1
  simp only [nx, dc, jp, Bool.and_eq_true, decide_eq_true_eq] at hck
  obtain ⟨hd, hp⟩ := hck
  split at h
  · refine lv_dup hx hb hd rfl ?_
    rw [← hp]
    exact ih _ _ _ _ _ _ _ _ _ _ h hlh hW hS hEe hrc hrs
  · refine lv_dup hx hb hd rfl ?_
    rw [← hp]
    exact ih _ _ _ _ _ _ _ _ _ _ h hlh hW hS hEe hrc hrs
  · cases h
theorem ex_dup2  {u v w z : Nat} {c : Int32} {d : Int64} {ts : List (Int32 × Nat)} {k : Nat} {ls : aL} {st : List Value} {b : aB} {S : aH} {K : aKt} {C : aC} : ex1 (.dup2, (u, v, w, z), c, d, ts) k ls st b S K C = ((match st with
      | .int x :: .ref a :: r => K (k + 1) ls (.int x :: .ref a :: .int x :: .ref a :: r) b S
      | _ => none)) := rfl
theorem ck_dup2  {t : aMt} {u v w z : Nat} {c : Int32} {d : Int64} {ts : List (Int32 × Nat)} {k : Nat} : chk t k (.dup2, (u, v, w, z), c, d, ts) = (nx t k 1 .dup2) := rfl
set_option maxHeartbeats 4000000 in
theorem st_dup2 {l : Launch} {D : va_G} {cy : Nat → ClassId} {adV : Nat → Nat} {E : aEt} {lx : List Value → aH → aO} {n : Nat}  : StpI l D cy adV E lx n (Instr.dup2) := by
  intro id t p e R s m args below meth c A Q v S' hcx hrt hcn0 ih k ls st b S H locs cu su Lc u w1 w z cst d ts hg9 hck h hlh hW hS hEe hrc hrs
  rw [ex_dup2] at h
  rw [ck_dup2] at hck
  have hcx0 := hcx
  obtain ⟨hx, hb, hml, hown, hts, hnm, hE, hA, hRf, hRl, hsc⟩ := hcx0
  have hK := hE.1
  simp only [nx, dc, jp, Bool.and_eq_true, decide_eq_true_eq] at hck
  obtain ⟨hd, hp⟩ := hck
  split at h
  · refine lv_dup2_11 hx hb hd rfl rfl ?_
    rw [← hp]
    exact ih _ _ _ _ _ _ _ _ _ _ h hlh hW hS hEe hrc hrs
  · cases h
theorem ex_pop  {u v w z : Nat} {c : Int32} {d : Int64} {ts : List (Int32 × Nat)} {k : Nat} {ls : aL} {st : List Value} {b : aB} {S : aH} {K : aKt} {C : aC} : ex1 (.pop, (u, v, w, z), c, d, ts) k ls st b S K C = ((match st with
      | .int _ :: r => K (k + 1) ls r b S
      | _ => none)) := rfl
theorem ck_pop  {t : aMt} {u v w z : Nat} {c : Int32} {d : Int64} {ts : List (Int32 × Nat)} {k : Nat} : chk t k (.pop, (u, v, w, z), c, d, ts) = (nx t k 1 .pop) := rfl
set_option maxHeartbeats 4000000 in
theorem st_pop {l : Launch} {D : va_G} {cy : Nat → ClassId} {adV : Nat → Nat} {E : aEt} {lx : List Value → aH → aO} {n : Nat}  : StpI l D cy adV E lx n (Instr.pop) := by
  intro id t p e R s m args below meth c A Q v S' hcx hrt hcn0 ih k ls st b S H locs cu su Lc u w1 w z cst d ts hg9 hck h hlh hW hS hEe hrc hrs
  rw [ex_pop] at h
  rw [ck_pop] at hck
  have hcx0 := hcx
  obtain ⟨hx, hb, hml, hown, hts, hnm, hE, hA, hRf, hRl, hsc⟩ := hcx0
  have hK := hE.1
  simp only [nx, dc, jp, Bool.and_eq_true, decide_eq_true_eq] at hck
  obtain ⟨hd, hp⟩ := hck
  split at h
  · refine lv_pop hx hb hd rfl ?_
    rw [← hp]
    exact ih _ _ _ _ _ _ _ _ _ _ h hlh hW hS hEe hrc hrs
  · cases h
theorem ex_getfield (x : Nat) {u v w z : Nat} {c : Int32} {d : Int64} {ts : List (Int32 × Nat)} {k : Nat} {ls : aL} {st : List Value} {b : aB} {S : aH} {K : aKt} {C : aC} : ex1 (.getfield x, (u, v, w, z), c, d, ts) k ls st b S K C = (pR st fun a r => gd (aK S a = u) (match w with
      | 1 => K (k + 1) ls (.long (aJ S a v) :: r) b S
      | 2 => nR (aR S a v) fun x => K (k + 1) ls (.ref x :: r) b S
      | 3 => nQ (aR S a v) (fun x => K (k + 1) ls (.ref x :: r) b S) (K (k + 1) ls (.null :: r) b S)
      | _ => K (k + 1) ls (.int (aI S a v) :: r) b S)) := rfl
theorem ck_getfield (x : Nat) {t : aMt} {u v w z : Nat} {c : Int32} {d : Int64} {ts : List (Int32 × Nat)} {k : Nat} : chk t k (.getfield x, (u, v, w, z), c, d, ts) = (decide ((tO t, x, u, v, 0) ∈ flT ∨ (tO t, x, u, v, 1) ∈ flT) && gtT ((fT u)[v]?) w && nx t k 3 (.getfield x)) := rfl
set_option maxHeartbeats 4000000 in
theorem st_getfield {l : Launch} {D : va_G} {cy : Nat → ClassId} {adV : Nat → Nat} {E : aEt} {lx : List Value → aH → aO} {n : Nat} (y : Nat) : StpI l D cy adV E lx n (Instr.getfield y) := by
  intro id t p e R s m args below meth c A Q v S' hcx hrt hcn0 ih k ls st b S H locs cu su Lc u w1 w z cst d ts hg9 hck h hlh hW hS hEe hrc hrs
  rw [ex_getfield] at h
  rw [ck_getfield] at hck
  have hcx0 := hcx
  obtain ⟨hx, hb, hml, hown, hts, hnm, hE, hA, hRf, hRl, hsc⟩ := hcx0
  have hK := hE.1
  simp only [nx, dc, jp, Bool.and_eq_true, decide_eq_true_eq] at hck
  obtain ⟨⟨hm, hg⟩, hd, hp⟩ := hck
  have h9 := pR_some h
  clear h
  obtain ⟨a, r, rfl, h⟩ := h9
  have h9 := gd_some h
  clear h
  obtain ⟨ha, h⟩ := h9
  obtain ⟨ty, hty, hw⟩ := gt_cases hg
  have hl9 : flk args s (cnm (tO t)) y u w1 := by
    rcases hm with hm | hm
    · exact Or.inl (hts _ (flW hm rfl))
    · have h8 := hE.2.1 (tO t, y, u, w1, 1) hm rfl
      unfold flN at h8
      exact Or.inr ⟨_, va_Nw.use rfl h8⟩
  refine x_get hx hb hts clIn hown hK hW ha hty hl9 hd ?_
  rw [← hp]
  rcases hw with ⟨hy, rfl⟩ | ⟨rfl, rfl⟩ | ⟨rfl, rfl | rfl⟩
  · have ef : fv_ S a ty w1 = .int (aI S a w1) := by rcases hy with rfl | rfl <;> rfl
    rw [ef]
    try dsimp only at h
    exact ih _ _ _ _ _ _ _ _ _ _ h hlh hW hS hEe hrc hrs
  · try dsimp only at h
    exact ih _ _ _ _ _ _ _ _ _ _ h hlh hW hS hEe hrc hrs
  · try dsimp only at h
    have h9 := nR_some h
    clear h
    obtain ⟨y9, hy9, h⟩ := h9
    have ef : fv_ S a 2 w1 = .ref y9 := by show va_rf _ = _; rw [hy9]; rfl
    rw [ef]
    exact ih _ _ _ _ _ _ _ _ _ _ h hlh hW hS hEe hrc hrs
  · simp only [nQ] at h
    split at h
    · next y9 hy9 =>
      have ef : fv_ S a 2 w1 = .ref y9 := by show va_rf _ = _; rw [hy9]; rfl
      rw [ef]
      exact ih _ _ _ _ _ _ _ _ _ _ h hlh hW hS hEe hrc hrs
    · next hy9 =>
      have ef : fv_ S a 2 w1 = .null := by show va_rf _ = _; rw [hy9]; rfl
      rw [ef]
      exact ih _ _ _ _ _ _ _ _ _ _ h hlh hW hS hEe hrc hrs
theorem ex_putfield (x : Nat) {u v w z : Nat} {c : Int32} {d : Int64} {ts : List (Int32 × Nat)} {k : Nat} {ls : aL} {st : List Value} {b : aB} {S : aH} {K : aKt} {C : aC} : ex1 (.putfield x, (u, v, w, z), c, d, ts) k ls st b S K C = ((match w with
      | 0 => pI st fun x r => pR r fun a r => gd (aK S a = u) (K (k + 1) ls r b (wI S a v x))
      | 1 => pJ st fun x r => pR r fun a r => gd (aK S a = u) (K (k + 1) ls r b (wJ S a v x))
      | 4 => pI st fun x r => pR r fun a r => gd (aK S a = u) (gd (x = 0 ∨ x = 1) (K (k + 1) ls r b (wI S a v x)))
      | _ => pR st fun x r => pR r fun a r => gd (aK S a = u) (K (k + 1) ls r b (wR S a v (some x))))) := rfl
theorem ck_putfield (x : Nat) {t : aMt} {u v w z : Nat} {c : Int32} {d : Int64} {ts : List (Int32 × Nat)} {k : Nat} : chk t k (.putfield x, (u, v, w, z), c, d, ts) = (decide ((tO t, x, u, v, 0) ∈ flT ∨ (tO t, x, u, v, 1) ∈ flT ∧ ((clX u).2.1 v).2.2.2 = false) && ptT ((fT u)[v]?) w && decide (((clX u).2.1 v).2.2.2 = false ∨ ((tY t).name = "<init>" ∧ ((clX u).2.1 v).1 = (tY t).cls)) && nx t k 3 (.putfield x)) := rfl
set_option maxHeartbeats 4000000 in
theorem st_putfield {l : Launch} {D : va_G} {cy : Nat → ClassId} {adV : Nat → Nat} {E : aEt} {lx : List Value → aH → aO} {n : Nat} (y : Nat) : StpI l D cy adV E lx n (Instr.putfield y) := by
  intro id t p e R s m args below meth c A Q v S' hcx hrt hcn0 ih k ls st b S H locs cu su Lc u w1 w z cst d ts hg9 hck h hlh hW hS hEe hrc hrs
  rw [ex_putfield] at h
  rw [ck_putfield] at hck
  have hcx0 := hcx
  obtain ⟨hx, hb, hml, hown, hts, hnm, hE, hA, hRf, hRl, hsc⟩ := hcx0
  have hK := hE.1
  simp only [nx, dc, jp, Bool.and_eq_true, decide_eq_true_eq] at hck
  obtain ⟨⟨⟨hm, hg⟩, hfi⟩, hd, hp⟩ := hck
  obtain ⟨ty, hty, hw⟩ := pt_cases hg
  have hu := fT_lt hty
  have hv9 : w1 < (clX u).2.2 := by rw [← fT_len u hu]; exact (List.getElem?_eq_some_iff.mp hty).1
  obtain ⟨ty0, ty4, ty1, ty2⟩ := ty_of hu hv9 hty
  have hl9 : (Cond.fieldLink (cnm (tO t)) y ((clX u).2.1 w1).1 ((clX u).2.1 w1).2.1 ((clX u).2.1 w1).2.2.1).before args s = true ∨ (((clX u).2.1 w1).2.2.2 = false ∧ ∃ host, (Cond.fieldLinkNest (cnm (tO t)) y ((clX u).2.1 w1).1 ((clX u).2.1 w1).2.1 ((clX u).2.1 w1).2.2.1 host).before args s = true) := by
    rcases hm with hm | ⟨hm, hf9⟩
    · exact Or.inl (hts _ (flW hm rfl))
    · have h8 := hE.2.1 (tO t, y, u, w1, 1) hm rfl
      unfold flN at h8
      exact Or.inr ⟨hf9, _, va_Nw.use rfl h8⟩
  have hfin : ((clX u).2.1 w1).2.2.2 = false ∨ (meth.name = "<init>" ∧ ((clX u).2.1 w1).1 = cnm (tO t)) := by
    rcases hfi with hf9 | ⟨hf8, hf9⟩
    · exact Or.inl hf9
    · exact Or.inr ⟨hnm hf8, by rw [hf9]; exact hcn0⟩
  rcases hw with ⟨rfl, rfl⟩ | ⟨rfl, rfl⟩ | ⟨rfl, rfl⟩ | ⟨rfl, rfl⟩
  · try dsimp only at h
    have h9 := pI_some h
    clear h
    obtain ⟨x, r, rfl, h⟩ := h9
    have h9 := pR_some h
    clear h
    obtain ⟨a, r, rfl, h⟩ := h9
    have h9 := gd_some h
    clear h
    obtain ⟨ha, h⟩ := h9
    refine x_put hx hb hts clIn hown hK hW hS ha hu hv9 hl9 hfin (by rw [ty0 rfl]; rfl) (by rw [ty0 rfl]; rfl) (pF_wI ha hu hty (by omega) (by omega)) rfl rfl hd (fun H1 locs1 hW1 hS1 => ?_)
    rw [← hp]
    exact ih _ _ _ _ _ _ _ _ _ _ h hlh hW1 hS1 hEe hrc hrs
  · try dsimp only at h
    have h9 := pI_some h
    clear h
    obtain ⟨x, r, rfl, h⟩ := h9
    have h9 := pR_some h
    clear h
    obtain ⟨a, r, rfl, h⟩ := h9
    have h9 := gd_some h
    clear h
    obtain ⟨ha, h⟩ := h9
    have h9 := gd_some h
    clear h
    obtain ⟨h01, h⟩ := h9
    refine x_put hx hb hts clIn hown hK hW hS ha hu hv9 hl9 hfin (by rw [ty4 rfl]; rcases h01 with rfl | rfl <;> rfl) (by rw [ty4 rfl]; rcases h01 with rfl | rfl <;> rfl) (pF_wI ha hu hty (by omega) (by omega)) rfl rfl hd (fun H1 locs1 hW1 hS1 => ?_)
    rw [← hp]
    exact ih _ _ _ _ _ _ _ _ _ _ h hlh hW1 hS1 hEe hrc hrs
  · try dsimp only at h
    have h9 := pJ_some h
    clear h
    obtain ⟨x, r, rfl, h⟩ := h9
    have h9 := pR_some h
    clear h
    obtain ⟨a, r, rfl, h⟩ := h9
    have h9 := gd_some h
    clear h
    obtain ⟨ha, h⟩ := h9
    refine x_put hx hb hts clIn hown hK hW hS ha hu hv9 hl9 hfin (by rw [ty1 rfl]; rfl) (by rw [ty1 rfl]; rfl) (pF_wJ ha hu hty) rfl rfl hd (fun H1 locs1 hW1 hS1 => ?_)
    rw [← hp]
    exact ih _ _ _ _ _ _ _ _ _ _ h hlh hW1 hS1 hEe hrc hrs
  · try dsimp only at h
    have h9 := pR_some h
    clear h
    obtain ⟨x, r, rfl, h⟩ := h9
    have h9 := pR_some h
    clear h
    obtain ⟨a, r, rfl, h⟩ := h9
    have h9 := gd_some h
    clear h
    obtain ⟨ha, h⟩ := h9
    refine x_put hx hb hts clIn hown hK hW hS ha hu hv9 hl9 hfin (by rcases ty2 rfl with ⟨q9, e9⟩ | ⟨q9, e9⟩ <;> rw [e9] <;> rfl) (by rcases ty2 rfl with ⟨q9, e9⟩ | ⟨q9, e9⟩ <;> rw [e9] <;> rfl) (pF_wR ha hu hty) rfl rfl hd (fun H1 locs1 hW1 hS1 => ?_)
    rw [← hp]
    exact ih _ _ _ _ _ _ _ _ _ _ h hlh hW1 hS1 hEe hrc hrs
theorem ex_iaload  {u v w z : Nat} {c : Int32} {d : Int64} {ts : List (Int32 × Nat)} {k : Nat} {ls : aL} {st : List Value} {b : aB} {S : aH} {K : aKt} {C : aC} : ex1 (.iaload, (u, v, w, z), c, d, ts) k ls st b S K C = ((match u with
      | 17 => pI st fun j r => pR r fun a r => gd (a = (aE S).2.1 ∧ ix_ j (aE S).2.2.1) (K (k + 1) ls (.int ((aE S).2.2.2 j.toNatClampNeg) :: r) b S)
      | _ => pI st fun j r => pR r fun a r => gd (aK S a = 13 ∧ ix_ j (aN S a)) (K (k + 1) ls (.int (aI S a j.toNatClampNeg) :: r) b S))) := rfl
theorem ck_iaload  {t : aMt} {u v w z : Nat} {c : Int32} {d : Int64} {ts : List (Int32 × Nat)} {k : Nat} : chk t k (.iaload, (u, v, w, z), c, d, ts) = (decide (u = 13 ∨ u = 17 ∧ tO t = 14) && nx t k 1 .iaload) := rfl
set_option maxHeartbeats 4000000 in
theorem st_iaload {l : Launch} {D : va_G} {cy : Nat → ClassId} {adV : Nat → Nat} {E : aEt} {lx : List Value → aH → aO} {n : Nat}  : StpI l D cy adV E lx n (Instr.iaload) := by
  intro id t p e R s m args below meth c A Q v S' hcx hrt hcn0 ih k ls st b S H locs cu su Lc u w1 w z cst d ts hg9 hck h hlh hW hS hEe hrc hrs
  rw [ex_iaload] at h
  rw [ck_iaload] at hck
  have hcx0 := hcx
  obtain ⟨hx, hb, hml, hown, hts, hnm, hE, hA, hRf, hRl, hsc⟩ := hcx0
  have hK := hE.1
  simp only [nx, dc, jp, Bool.and_eq_true, decide_eq_true_eq] at hck
  obtain ⟨hu, hd, hp⟩ := hck
  rcases hu with rfl | ⟨rfl, h14⟩
  · have h9 := pI_some h
    clear h
    obtain ⟨x, r, rfl, h⟩ := h9
    have h9 := pR_some h
    clear h
    obtain ⟨a, r, rfl, h⟩ := h9
    have h9 := gd_some h
    clear h
    obtain ⟨⟨ha, hi9⟩, h⟩ := h9
    refine x_iald hx hb hK hW ha hi9 hd ?_
    rw [← hp]
    exact ih _ _ _ _ _ _ _ _ _ _ h hlh hW hS hEe hrc hrs
  · have h9 := pI_some h
    clear h
    obtain ⟨x, r, rfl, h⟩ := h9
    have h9 := pR_some h
    clear h
    obtain ⟨a, r, rfl, h⟩ := h9
    have h9 := gd_some h
    clear h
    obtain ⟨⟨ha, hi9⟩, h⟩ := h9
    obtain ⟨s1, s2, s3, -⟩ := hsc h14
    rw [hEe] at ha hi9 h
    subst ha
    refine va_sld hx hb s1 s2 s3 hS hi9 hd ?_
    rw [← hp]
    exact ih _ _ _ _ _ _ _ _ _ _ h hlh hW hS hEe hrc hrs
theorem ex_baload  {u v w z : Nat} {c : Int32} {d : Int64} {ts : List (Int32 × Nat)} {k : Nat} {ls : aL} {st : List Value} {b : aB} {S : aH} {K : aKt} {C : aC} : ex1 (.baload, (u, v, w, z), c, d, ts) k ls st b S K C = (pI st fun j r => pR r fun a r => gd (aK S a = u ∧ ix_ j (aN S a)) (K (k + 1) ls (.int (aI S a j.toNatClampNeg) :: r) b S)) := rfl
theorem ck_baload  {t : aMt} {u v w z : Nat} {c : Int32} {d : Int64} {ts : List (Int32 × Nat)} {k : Nat} : chk t k (.baload, (u, v, w, z), c, d, ts) = (decide (u = 12 ∨ u = 15) && nx t k 1 .baload) := rfl
set_option maxHeartbeats 4000000 in
theorem st_baload {l : Launch} {D : va_G} {cy : Nat → ClassId} {adV : Nat → Nat} {E : aEt} {lx : List Value → aH → aO} {n : Nat}  : StpI l D cy adV E lx n (Instr.baload) := by
  intro id t p e R s m args below meth c A Q v S' hcx hrt hcn0 ih k ls st b S H locs cu su Lc u w1 w z cst d ts hg9 hck h hlh hW hS hEe hrc hrs
  rw [ex_baload] at h
  rw [ck_baload] at hck
  have hcx0 := hcx
  obtain ⟨hx, hb, hml, hown, hts, hnm, hE, hA, hRf, hRl, hsc⟩ := hcx0
  have hK := hE.1
  simp only [nx, dc, jp, Bool.and_eq_true, decide_eq_true_eq] at hck
  obtain ⟨hu, hd, hp⟩ := hck
  have h9 := pI_some h
  clear h
  obtain ⟨x, r, rfl, h⟩ := h9
  have h9 := pR_some h
  clear h
  obtain ⟨a, r, rfl, h⟩ := h9
  have h9 := gd_some h
  clear h
  obtain ⟨⟨ha, hi9⟩, h⟩ := h9
  refine x_bald hx hb hK hW ha hu hi9 hd ?_
  rw [← hp]
  exact ih _ _ _ _ _ _ _ _ _ _ h hlh hW hS hEe hrc hrs
theorem ex_laload  {u v w z : Nat} {c : Int32} {d : Int64} {ts : List (Int32 × Nat)} {k : Nat} {ls : aL} {st : List Value} {b : aB} {S : aH} {K : aKt} {C : aC} : ex1 (.laload, (u, v, w, z), c, d, ts) k ls st b S K C = (pI st fun j r => pR r fun a r => gd (aK S a = 14 ∧ ix_ j (aN S a)) (K (k + 1) ls (.long (aJ S a j.toNatClampNeg) :: r) b S)) := rfl
theorem ck_laload  {t : aMt} {u v w z : Nat} {c : Int32} {d : Int64} {ts : List (Int32 × Nat)} {k : Nat} : chk t k (.laload, (u, v, w, z), c, d, ts) = (nx t k 1 .laload) := rfl
set_option maxHeartbeats 4000000 in
theorem st_laload {l : Launch} {D : va_G} {cy : Nat → ClassId} {adV : Nat → Nat} {E : aEt} {lx : List Value → aH → aO} {n : Nat}  : StpI l D cy adV E lx n (Instr.laload) := by
  intro id t p e R s m args below meth c A Q v S' hcx hrt hcn0 ih k ls st b S H locs cu su Lc u w1 w z cst d ts hg9 hck h hlh hW hS hEe hrc hrs
  rw [ex_laload] at h
  rw [ck_laload] at hck
  have hcx0 := hcx
  obtain ⟨hx, hb, hml, hown, hts, hnm, hE, hA, hRf, hRl, hsc⟩ := hcx0
  have hK := hE.1
  simp only [nx, dc, jp, Bool.and_eq_true, decide_eq_true_eq] at hck
  obtain ⟨hd, hp⟩ := hck
  have h9 := pI_some h
  clear h
  obtain ⟨x, r, rfl, h⟩ := h9
  have h9 := pR_some h
  clear h
  obtain ⟨a, r, rfl, h⟩ := h9
  have h9 := gd_some h
  clear h
  obtain ⟨⟨ha, hi9⟩, h⟩ := h9
  refine x_lald hx hb hK hW ha hi9 hd ?_
  rw [← hp]
  exact ih _ _ _ _ _ _ _ _ _ _ h hlh hW hS hEe hrc hrs
theorem ex_aaload  {u v w z : Nat} {c : Int32} {d : Int64} {ts : List (Int32 × Nat)} {k : Nat} {ls : aL} {st : List Value} {b : aB} {S : aH} {K : aKt} {C : aC} : ex1 (.aaload, (u, v, w, z), c, d, ts) k ls st b S K C = (pI st fun j r => pR r fun a r => gd (aK S a = 16 ∧ ix_ j (aN S a)) (nR (aR S a j.toNatClampNeg) fun x => K (k + 1) ls (.ref x :: r) b S)) := rfl
theorem ck_aaload  {t : aMt} {u v w z : Nat} {c : Int32} {d : Int64} {ts : List (Int32 × Nat)} {k : Nat} : chk t k (.aaload, (u, v, w, z), c, d, ts) = (nx t k 1 .aaload) := rfl
set_option maxHeartbeats 4000000 in
theorem st_aaload {l : Launch} {D : va_G} {cy : Nat → ClassId} {adV : Nat → Nat} {E : aEt} {lx : List Value → aH → aO} {n : Nat}  : StpI l D cy adV E lx n (Instr.aaload) := by
  intro id t p e R s m args below meth c A Q v S' hcx hrt hcn0 ih k ls st b S H locs cu su Lc u w1 w z cst d ts hg9 hck h hlh hW hS hEe hrc hrs
  rw [ex_aaload] at h
  rw [ck_aaload] at hck
  have hcx0 := hcx
  obtain ⟨hx, hb, hml, hown, hts, hnm, hE, hA, hRf, hRl, hsc⟩ := hcx0
  have hK := hE.1
  simp only [nx, dc, jp, Bool.and_eq_true, decide_eq_true_eq] at hck
  obtain ⟨hd, hp⟩ := hck
  have h9 := pI_some h
  clear h
  obtain ⟨x, r, rfl, h⟩ := h9
  have h9 := pR_some h
  clear h
  obtain ⟨a, r, rfl, h⟩ := h9
  have h9 := gd_some h
  clear h
  obtain ⟨⟨ha, hi9⟩, h⟩ := h9
  have h9 := nR_some h
  clear h
  obtain ⟨y9, hy9, h⟩ := h9
  refine x_aald hx hb hK hW ha hi9 hy9 hd ?_
  rw [← hp]
  exact ih _ _ _ _ _ _ _ _ _ _ h hlh hW hS hEe hrc hrs
theorem ex_iastore  {u v w z : Nat} {c : Int32} {d : Int64} {ts : List (Int32 × Nat)} {k : Nat} {ls : aL} {st : List Value} {b : aB} {S : aH} {K : aKt} {C : aC} : ex1 (.iastore, (u, v, w, z), c, d, ts) k ls st b S K C = (pI st fun x r => pI r fun j r => pR r fun a r => gd (aK S a = 13 ∧ ix_ j (aN S a)) (K (k + 1) ls r b (wI S a j.toNatClampNeg x))) := rfl
theorem ck_iastore  {t : aMt} {u v w z : Nat} {c : Int32} {d : Int64} {ts : List (Int32 × Nat)} {k : Nat} : chk t k (.iastore, (u, v, w, z), c, d, ts) = (nx t k 1 .iastore) := rfl
set_option maxHeartbeats 4000000 in
theorem st_iastore {l : Launch} {D : va_G} {cy : Nat → ClassId} {adV : Nat → Nat} {E : aEt} {lx : List Value → aH → aO} {n : Nat}  : StpI l D cy adV E lx n (Instr.iastore) := by
  intro id t p e R s m args below meth c A Q v S' hcx hrt hcn0 ih k ls st b S H locs cu su Lc u w1 w z cst d ts hg9 hck h hlh hW hS hEe hrc hrs
  rw [ex_iastore] at h
  rw [ck_iastore] at hck
  have hcx0 := hcx
  obtain ⟨hx, hb, hml, hown, hts, hnm, hE, hA, hRf, hRl, hsc⟩ := hcx0
  have hK := hE.1
  simp only [nx, dc, jp, Bool.and_eq_true, decide_eq_true_eq] at hck
  obtain ⟨hd, hp⟩ := hck
  have h9 := pI_some h
  clear h
  obtain ⟨x, r, rfl, h⟩ := h9
  have h9 := pI_some h
  clear h
  obtain ⟨j, r, rfl, h⟩ := h9
  have h9 := pR_some h
  clear h
  obtain ⟨a, r, rfl, h⟩ := h9
  have h9 := gd_some h
  clear h
  obtain ⟨⟨ha, hi9⟩, h⟩ := h9
  refine x_iast hx hb hK hW hS ha hi9 hd (fun H1 locs1 hW1 hS1 => ?_)
  rw [← hp]
  exact ih _ _ _ _ _ _ _ _ _ _ h hlh hW1 hS1 hEe hrc hrs
theorem ex_lastore  {u v w z : Nat} {c : Int32} {d : Int64} {ts : List (Int32 × Nat)} {k : Nat} {ls : aL} {st : List Value} {b : aB} {S : aH} {K : aKt} {C : aC} : ex1 (.lastore, (u, v, w, z), c, d, ts) k ls st b S K C = (pJ st fun x r => pI r fun j r => pR r fun a r => gd (aK S a = 14 ∧ ix_ j (aN S a)) (K (k + 1) ls r b (wJ S a j.toNatClampNeg x))) := rfl
theorem ck_lastore  {t : aMt} {u v w z : Nat} {c : Int32} {d : Int64} {ts : List (Int32 × Nat)} {k : Nat} : chk t k (.lastore, (u, v, w, z), c, d, ts) = (nx t k 1 .lastore) := rfl
set_option maxHeartbeats 4000000 in
theorem st_lastore {l : Launch} {D : va_G} {cy : Nat → ClassId} {adV : Nat → Nat} {E : aEt} {lx : List Value → aH → aO} {n : Nat}  : StpI l D cy adV E lx n (Instr.lastore) := by
  intro id t p e R s m args below meth c A Q v S' hcx hrt hcn0 ih k ls st b S H locs cu su Lc u w1 w z cst d ts hg9 hck h hlh hW hS hEe hrc hrs
  rw [ex_lastore] at h
  rw [ck_lastore] at hck
  have hcx0 := hcx
  obtain ⟨hx, hb, hml, hown, hts, hnm, hE, hA, hRf, hRl, hsc⟩ := hcx0
  have hK := hE.1
  simp only [nx, dc, jp, Bool.and_eq_true, decide_eq_true_eq] at hck
  obtain ⟨hd, hp⟩ := hck
  have h9 := pJ_some h
  clear h
  obtain ⟨x, r, rfl, h⟩ := h9
  have h9 := pI_some h
  clear h
  obtain ⟨j, r, rfl, h⟩ := h9
  have h9 := pR_some h
  clear h
  obtain ⟨a, r, rfl, h⟩ := h9
  have h9 := gd_some h
  clear h
  obtain ⟨⟨ha, hi9⟩, h⟩ := h9
  refine x_last hx hb hK hW hS ha hi9 hd (fun H1 locs1 hW1 hS1 => ?_)
  rw [← hp]
  exact ih _ _ _ _ _ _ _ _ _ _ h hlh hW1 hS1 hEe hrc hrs
theorem ex_aastore  {u v w z : Nat} {c : Int32} {d : Int64} {ts : List (Int32 × Nat)} {k : Nat} {ls : aL} {st : List Value} {b : aB} {S : aH} {K : aKt} {C : aC} : ex1 (.aastore, (u, v, w, z), c, d, ts) k ls st b S K C = (pR st fun x r => pI r fun j r => pR r fun a r => gd (aK S a = 16 ∧ ix_ j (aN S a) ∧ aK S x = 8) (K (k + 1) ls r b (wR S a j.toNatClampNeg (some x)))) := rfl
theorem ck_aastore  {t : aMt} {u v w z : Nat} {c : Int32} {d : Int64} {ts : List (Int32 × Nat)} {k : Nat} : chk t k (.aastore, (u, v, w, z), c, d, ts) = (nx t k 1 .aastore) := rfl
set_option maxHeartbeats 4000000 in
theorem st_aastore {l : Launch} {D : va_G} {cy : Nat → ClassId} {adV : Nat → Nat} {E : aEt} {lx : List Value → aH → aO} {n : Nat}  : StpI l D cy adV E lx n (Instr.aastore) := by
  intro id t p e R s m args below meth c A Q v S' hcx hrt hcn0 ih k ls st b S H locs cu su Lc u w1 w z cst d ts hg9 hck h hlh hW hS hEe hrc hrs
  rw [ex_aastore] at h
  rw [ck_aastore] at hck
  have hcx0 := hcx
  obtain ⟨hx, hb, hml, hown, hts, hnm, hE, hA, hRf, hRl, hsc⟩ := hcx0
  have hK := hE.1
  simp only [nx, dc, jp, Bool.and_eq_true, decide_eq_true_eq] at hck
  obtain ⟨hd, hp⟩ := hck
  have h9 := pR_some h
  clear h
  obtain ⟨x, r, rfl, h⟩ := h9
  have h9 := pI_some h
  clear h
  obtain ⟨j, r, rfl, h⟩ := h9
  have h9 := pR_some h
  clear h
  obtain ⟨a, r, rfl, h⟩ := h9
  have h9 := gd_some h
  clear h
  obtain ⟨⟨ha, hi9, hx9⟩, h⟩ := h9
  refine x_aast hx hb hK hW hS ha hi9 hx9 hd (fun H1 locs1 hW1 hS1 => ?_)
  rw [← hp]
  exact ih _ _ _ _ _ _ _ _ _ _ h hlh hW1 hS1 hEe hrc hrs
theorem ex_bastore  {u v w z : Nat} {c : Int32} {d : Int64} {ts : List (Int32 × Nat)} {k : Nat} {ls : aL} {st : List Value} {b : aB} {S : aH} {K : aKt} {C : aC} : ex1 (.bastore, (u, v, w, z), c, d, ts) k ls st b S K C = (pI st fun x r => pI r fun j r => pR r fun a r => gd (aK S a = u ∧ ix_ j (aN S a)) (match w with
      | 0 => K (k + 1) ls r b (wI S a j.toNatClampNeg x.toInt8.toInt32)
      | _ => gd (x = 0 ∨ x = 1) (K (k + 1) ls r b (wI S a j.toNatClampNeg x)))) := rfl
theorem ck_bastore  {t : aMt} {u v w z : Nat} {c : Int32} {d : Int64} {ts : List (Int32 × Nat)} {k : Nat} : chk t k (.bastore, (u, v, w, z), c, d, ts) = (decide (u = 12 ∧ w = 0 ∨ u = 15 ∧ w = 1) && nx t k 1 .bastore) := rfl
set_option maxHeartbeats 4000000 in
theorem st_bastore {l : Launch} {D : va_G} {cy : Nat → ClassId} {adV : Nat → Nat} {E : aEt} {lx : List Value → aH → aO} {n : Nat}  : StpI l D cy adV E lx n (Instr.bastore) := by
  intro id t p e R s m args below meth c A Q v S' hcx hrt hcn0 ih k ls st b S H locs cu su Lc u w1 w z cst d ts hg9 hck h hlh hW hS hEe hrc hrs
  rw [ex_bastore] at h
  rw [ck_bastore] at hck
  have hcx0 := hcx
  obtain ⟨hx, hb, hml, hown, hts, hnm, hE, hA, hRf, hRl, hsc⟩ := hcx0
  have hK := hE.1
  simp only [nx, dc, jp, Bool.and_eq_true, decide_eq_true_eq] at hck
  obtain ⟨hu, hd, hp⟩ := hck
  have h9 := pI_some h
  clear h
  obtain ⟨x, r, rfl, h⟩ := h9
  have h9 := pI_some h
  clear h
  obtain ⟨j, r, rfl, h⟩ := h9
  have h9 := pR_some h
  clear h
  obtain ⟨a, r, rfl, h⟩ := h9
  have h9 := gd_some h
  clear h
  obtain ⟨⟨ha, hi9⟩, h⟩ := h9
  rcases hu with ⟨rfl, rfl⟩ | ⟨rfl, rfl⟩
  · refine x_bast hx hb hK hW hS ha hi9 hd (fun H1 locs1 hW1 hS1 => ?_)
    rw [← hp]
    exact ih _ _ _ _ _ _ _ _ _ _ h hlh hW1 hS1 hEe hrc hrs
  · have h9 := gd_some h
    clear h
    obtain ⟨h01, h⟩ := h9
    refine x_zast hx hb hK hW hS ha hi9 h01 hd (fun H1 locs1 hW1 hS1 => ?_)
    rw [← hp]
    exact ih _ _ _ _ _ _ _ _ _ _ h hlh hW1 hS1 hEe hrc hrs
theorem ex_arraylength  {u v w z : Nat} {c : Int32} {d : Int64} {ts : List (Int32 × Nat)} {k : Nat} {ls : aL} {st : List Value} {b : aB} {S : aH} {K : aKt} {C : aC} : ex1 (.arraylength, (u, v, w, z), c, d, ts) k ls st b S K C = ((match u with
      | 17 => pR st fun a r => gd (a = (aE S).2.1) (K (k + 1) ls (.int (Int32.ofNat (aE S).2.2.1) :: r) b S)
      | _ => pR st fun a r => gd (12 ≤ aK S a ∧ aK S a ≤ 16) (K (k + 1) ls (.int (Int32.ofNat (aN S a)) :: r) b S))) := rfl
theorem ck_arraylength  {t : aMt} {u v w z : Nat} {c : Int32} {d : Int64} {ts : List (Int32 × Nat)} {k : Nat} : chk t k (.arraylength, (u, v, w, z), c, d, ts) = (decide (u = 13 ∨ u = 17 ∧ tO t = 14) && nx t k 1 .arraylength) := rfl
set_option maxHeartbeats 4000000 in
theorem st_arraylength {l : Launch} {D : va_G} {cy : Nat → ClassId} {adV : Nat → Nat} {E : aEt} {lx : List Value → aH → aO} {n : Nat}  : StpI l D cy adV E lx n (Instr.arraylength) := by
  intro id t p e R s m args below meth c A Q v S' hcx hrt hcn0 ih k ls st b S H locs cu su Lc u w1 w z cst d ts hg9 hck h hlh hW hS hEe hrc hrs
  rw [ex_arraylength] at h
  rw [ck_arraylength] at hck
  have hcx0 := hcx
  obtain ⟨hx, hb, hml, hown, hts, hnm, hE, hA, hRf, hRl, hsc⟩ := hcx0
  have hK := hE.1
  simp only [nx, dc, jp, Bool.and_eq_true, decide_eq_true_eq] at hck
  obtain ⟨hu, hd, hp⟩ := hck
  rcases hu with rfl | ⟨rfl, h14⟩
  · have h9 := pR_some h
    clear h
    obtain ⟨a, r, rfl, h⟩ := h9
    have h9 := gd_some h
    clear h
    obtain ⟨⟨ha, hi9⟩, h⟩ := h9
    refine x_alen hx hb hK hW ha hi9 hd ?_
    rw [← hp]
    exact ih _ _ _ _ _ _ _ _ _ _ h hlh hW hS hEe hrc hrs
  · have h9 := pR_some h
    clear h
    obtain ⟨a, r, rfl, h⟩ := h9
    have h9 := gd_some h
    clear h
    obtain ⟨ha, h⟩ := h9
    obtain ⟨s1, s2, s3, -⟩ := hsc h14
    rw [hEe] at ha h
    subst ha
    refine va_slen hx hb s1 s2 s3 hS hd ?_
    rw [← hp]
    exact ih _ _ _ _ _ _ _ _ _ _ h hlh hW hS hEe hrc hrs
theorem ex_newarray (a : ArrayType) {u v w z : Nat} {c : Int32} {d : Int64} {ts : List (Int32 × Nat)} {k : Nat} {ls : aL} {st : List Value} {b : aB} {S : aH} {K : aKt} {C : aC} : ex1 (.newarray a, (u, v, w, z), c, d, ts) k ls st b S K C = (pI st fun n r => gd (¬ n < 0 ∧ n.toNatClampNeg ≤ 60000 ∧ 1 ≤ b.1 ∧ n.toNatClampNeg ≤ b.2) (K (k + 1) ls (.ref (aZ S) :: r) (b.1 - 1, b.2 - n.toNatClampNeg) (wN S u n.toNatClampNeg))) := rfl
theorem ck_newarray (a : ArrayType) {t : aMt} {u v w z : Nat} {c : Int32} {d : Int64} {ts : List (Int32 × Nat)} {k : Nat} : chk t k (.newarray a, (u, v, w, z), c, d, ts) = ((match a with
      | .int => decide (u = 13)
      | .long => decide (u = 14)
      | .boolean => decide (u = 15)
      | .byte => decide (u = 12)
      | _ => false) && nx t k 2 (.newarray a)) := rfl
set_option maxHeartbeats 4000000 in
theorem st_newarray {l : Launch} {D : va_G} {cy : Nat → ClassId} {adV : Nat → Nat} {E : aEt} {lx : List Value → aH → aO} {n : Nat} (y : ArrayType) : StpI l D cy adV E lx n (Instr.newarray y) := by
  intro id t p e R s m args below meth c A Q v S' hcx hrt hcn0 ih k ls st b S H locs cu su Lc u w1 w z cst d ts hg9 hck h hlh hW hS hEe hrc hrs
  rw [ex_newarray] at h
  rw [ck_newarray] at hck
  have hcx0 := hcx
  obtain ⟨hx, hb, hml, hown, hts, hnm, hE, hA, hRf, hRl, hsc⟩ := hcx0
  have hK := hE.1
  simp only [nx, dc, jp, Bool.and_eq_true, decide_eq_true_eq] at hck
  obtain ⟨hu, hd, hp⟩ := hck
  have h9 := pI_some h
  clear h
  obtain ⟨x, r, rfl, h⟩ := h9
  have h9 := gd_some h
  clear h
  obtain ⟨⟨hn, h6, hb1, hb2⟩, h⟩ := h9
  have hat : y = .int ∧ u = 13 ∨ y = .long ∧ u = 14 ∨ y = .boolean ∧ u = 15 ∨ y = .byte ∧ u = 12 := by cases y <;> simp_all
  refine x_newa hx hb (hts _ (arrW0 _ ?_)) hK hW hS hA hat hn h6 (by omega) (by omega) hd (fun H1 hW1 hS1 => ?_)
  · rcases hat with ⟨rfl, -⟩ | ⟨rfl, -⟩ | ⟨rfl, -⟩ | ⟨rfl, -⟩ <;> simp [newarray.typeOf]
  · rw [← hp]
    exact ih _ _ _ _ _ _ _ _ _ _ h hlh hW1 hS1 hEe (by have := hrc; simp only; omega) (by have := hrs; simp only; omega)
theorem ex_anewarray (x : Nat) {u v w z : Nat} {c : Int32} {d : Int64} {ts : List (Int32 × Nat)} {k : Nat} {ls : aL} {st : List Value} {b : aB} {S : aH} {K : aKt} {C : aC} : ex1 (.anewarray x, (u, v, w, z), c, d, ts) k ls st b S K C = (pI st fun n r => gd (¬ n < 0 ∧ n.toNatClampNeg ≤ 60000 ∧ 1 ≤ b.1 ∧ n.toNatClampNeg ≤ b.2) (K (k + 1) ls (.ref (aZ S) :: r) (b.1 - 1, b.2 - n.toNatClampNeg) (wN S 16 n.toNatClampNeg))) := rfl
theorem ck_anewarray (x : Nat) {t : aMt} {u v w z : Nat} {c : Int32} {d : Int64} {ts : List (Int32 × Nat)} {k : Nat} : chk t k (.anewarray x, (u, v, w, z), c, d, ts) = (decide ((tO t, x, 8, 1) ∈ nlT) && nx t k 3 (.anewarray x)) := rfl
set_option maxHeartbeats 4000000 in
theorem st_anewarray {l : Launch} {D : va_G} {cy : Nat → ClassId} {adV : Nat → Nat} {E : aEt} {lx : List Value → aH → aO} {n : Nat} (y : Nat) : StpI l D cy adV E lx n (Instr.anewarray y) := by
  intro id t p e R s m args below meth c A Q v S' hcx hrt hcn0 ih k ls st b S H locs cu su Lc u w1 w z cst d ts hg9 hck h hlh hW hS hEe hrc hrs
  rw [ex_anewarray] at h
  rw [ck_anewarray] at hck
  have hcx0 := hcx
  obtain ⟨hx, hb, hml, hown, hts, hnm, hE, hA, hRf, hRl, hsc⟩ := hcx0
  have hK := hE.1
  simp only [nx, dc, jp, Bool.and_eq_true, decide_eq_true_eq] at hck
  obtain ⟨hu, hd, hp⟩ := hck
  have h9 := pI_some h
  clear h
  obtain ⟨x, r, rfl, h⟩ := h9
  have h9 := gd_some h
  clear h
  obtain ⟨⟨hn, h6, hb1, hb2⟩, h⟩ := h9
  refine x_anew hx hb hown (hts _ (nlW0 _ (List.mem_map.mpr ⟨_, hu, rfl⟩))) hE.2.2.2.1 hK hW hS hA hn h6 (by omega) (by omega) hd (fun H1 hW1 hS1 => ?_)
  rw [← hp]
  exact ih _ _ _ _ _ _ _ _ _ _ h hlh hW1 hS1 hEe (by have := hrc; simp only; omega) (by have := hrs; simp only; omega)
theorem ex_new (x : Nat) {u v w z : Nat} {c : Int32} {d : Int64} {ts : List (Int32 × Nat)} {k : Nat} {ls : aL} {st : List Value} {b : aB} {S : aH} {K : aKt} {C : aC} : ex1 (.new x, (u, v, w, z), c, d, ts) k ls st b S K C = (gd (1 ≤ b.1 ∧ v ≤ b.2) (K (k + 1) ls (.ref (aZ S) :: st) (b.1 - 1, b.2 - v) (wN S u 0))) := rfl
theorem ck_new (x : Nat) {t : aMt} {u v w z : Nat} {c : Int32} {d : Int64} {ts : List (Int32 × Nat)} {k : Nat} : chk t k (.new x, (u, v, w, z), c, d, ts) = (decide ((tO t, x, u, 0) ∈ nlT) && decide (u < 12) && decide ((clX u).2.2 = v) && nx t k 3 (.new x)) := rfl
set_option maxHeartbeats 4000000 in
theorem st_new {l : Launch} {D : va_G} {cy : Nat → ClassId} {adV : Nat → Nat} {E : aEt} {lx : List Value → aH → aO} {n : Nat} (y : Nat) : StpI l D cy adV E lx n (Instr.new y) := by
  intro id t p e R s m args below meth c A Q v S' hcx hrt hcn0 ih k ls st b S H locs cu su Lc u w1 w z cst d ts hg9 hck h hlh hW hS hEe hrc hrs
  rw [ex_new] at h
  rw [ck_new] at hck
  have hcx0 := hcx
  obtain ⟨hx, hb, hml, hown, hts, hnm, hE, hA, hRf, hRl, hsc⟩ := hcx0
  have hK := hE.1
  simp only [nx, dc, jp, Bool.and_eq_true, decide_eq_true_eq] at hck
  obtain ⟨⟨⟨hm, hu⟩, hv9⟩, hd, hp⟩ := hck
  have h9 := gd_some h
  clear h
  obtain ⟨⟨hb1, hb2⟩, h⟩ := h9
  subst hv9
  refine x_new hx hb hts clIn hown hK hW hS hA hu (hts _ (nlW0 _ (List.mem_map.mpr ⟨_, hm, rfl⟩))) (hts _ (insW0 _ (List.mem_map.mpr ⟨u, List.mem_range.mpr hu, rfl⟩))) (hts _ (iniW0 _ (List.mem_map.mpr ⟨u, List.mem_range.mpr hu, rfl⟩))) (by omega) (by omega) hd (fun H1 hW1 hS1 => ?_)
  rw [← hp]
  exact ih _ _ _ _ _ _ _ _ _ _ h hlh hW1 hS1 hEe (by have := hrc; simp only; omega) (by have := hrs; simp only; omega)
theorem ex_if_icmp (cd : ClassFile.Cond) (o : Int) {u v w z : Nat} {c : Int32} {d : Int64} {ts : List (Int32 × Nat)} {k : Nat} {ls : aL} {st : List Value} {b : aB} {S : aH} {K : aKt} {C : aC} : ex1 (.if_icmp cd o, (u, v, w, z), c, d, ts) k ls st b S K C = (pI st fun y r => pI r fun x r => cmp_ cd x y (K u ls r b S) (K (k + 1) ls r b S)) := rfl
theorem ck_if_icmp (cd : ClassFile.Cond) (o : Int) {t : aMt} {u v w z : Nat} {c : Int32} {d : Int64} {ts : List (Int32 × Nat)} {k : Nat} : chk t k (.if_icmp cd o, (u, v, w, z), c, d, ts) = (jp t k o u && nx t k 3 (.if_icmp cd o)) := rfl
set_option maxHeartbeats 4000000 in
theorem st_if_icmp {l : Launch} {D : va_G} {cy : Nat → ClassId} {adV : Nat → Nat} {E : aEt} {lx : List Value → aH → aO} {n : Nat} (cd : ClassFile.Cond) (o : Int) : StpI l D cy adV E lx n (Instr.if_icmp cd o) := by
  intro id t p e R s m args below meth c A Q v S' hcx hrt hcn0 ih k ls st b S H locs cu su Lc u w1 w z cst d ts hg9 hck h hlh hW hS hEe hrc hrs
  rw [ex_if_icmp] at h
  rw [ck_if_icmp] at hck
  have hcx0 := hcx
  obtain ⟨hx, hb, hml, hown, hts, hnm, hE, hA, hRf, hRl, hsc⟩ := hcx0
  have hK := hE.1
  simp only [nx, dc, jp, Bool.and_eq_true, decide_eq_true_eq] at hck
  obtain ⟨hj, hd, hp⟩ := hck
  have h9 := pI_some h
  clear h
  obtain ⟨y, r, rfl, h⟩ := h9
  have h9 := pI_some h
  clear h
  obtain ⟨x, r, rfl, h⟩ := h9
  cases cd with
  | eq =>
    simp only [cmp_] at h
    refine lv_icmp_eq hx hb hd hj (fun hc9 => ?_) (fun hc9 => ?_)
    · rw [if_pos hc9] at h; exact ih _ _ _ _ _ _ _ _ _ _ h hlh hW hS hEe hrc hrs
    · rw [if_neg hc9] at h; rw [← hp]; exact ih _ _ _ _ _ _ _ _ _ _ h hlh hW hS hEe hrc hrs
  | ne =>
    simp only [cmp_] at h
    refine lv_icmp_ne hx hb hd hj (fun hc9 => ?_) (fun hc9 => ?_)
    · rw [if_neg hc9] at h; exact ih _ _ _ _ _ _ _ _ _ _ h hlh hW hS hEe hrc hrs
    · rw [if_pos hc9] at h; rw [← hp]; exact ih _ _ _ _ _ _ _ _ _ _ h hlh hW hS hEe hrc hrs
  | lt =>
    simp only [cmp_] at h
    refine lv_icmp_lt hx hb hd hj (fun hc9 => ?_) (fun hc9 => ?_)
    · rw [if_pos hc9] at h; exact ih _ _ _ _ _ _ _ _ _ _ h hlh hW hS hEe hrc hrs
    · rw [if_neg hc9] at h; rw [← hp]; exact ih _ _ _ _ _ _ _ _ _ _ h hlh hW hS hEe hrc hrs
  | ge =>
    simp only [cmp_] at h
    refine lv_icmp_ge hx hb hd hj (fun hc9 => ?_) (fun hc9 => ?_)
    · rw [if_pos hc9] at h; exact ih _ _ _ _ _ _ _ _ _ _ h hlh hW hS hEe hrc hrs
    · rw [if_neg hc9] at h; rw [← hp]; exact ih _ _ _ _ _ _ _ _ _ _ h hlh hW hS hEe hrc hrs
  | gt =>
    simp only [cmp_] at h
    refine lv_icmp_gt hx hb hd hj (fun hc9 => ?_) (fun hc9 => ?_)
    · rw [if_pos hc9] at h; exact ih _ _ _ _ _ _ _ _ _ _ h hlh hW hS hEe hrc hrs
    · rw [if_neg hc9] at h; rw [← hp]; exact ih _ _ _ _ _ _ _ _ _ _ h hlh hW hS hEe hrc hrs
  | le =>
    simp only [cmp_] at h
    refine lv_icmp_le hx hb hd hj (fun hc9 => ?_) (fun hc9 => ?_)
    · rw [if_pos hc9] at h; exact ih _ _ _ _ _ _ _ _ _ _ h hlh hW hS hEe hrc hrs
    · rw [if_neg hc9] at h; rw [← hp]; exact ih _ _ _ _ _ _ _ _ _ _ h hlh hW hS hEe hrc hrs
theorem ex_ifCond (cd : ClassFile.Cond) (o : Int) {u v w z : Nat} {c : Int32} {d : Int64} {ts : List (Int32 × Nat)} {k : Nat} {ls : aL} {st : List Value} {b : aB} {S : aH} {K : aKt} {C : aC} : ex1 (.ifCond cd o, (u, v, w, z), c, d, ts) k ls st b S K C = (pI st fun x r => cmp_ cd x 0 (K u ls r b S) (K (k + 1) ls r b S)) := rfl
theorem ck_ifCond (cd : ClassFile.Cond) (o : Int) {t : aMt} {u v w z : Nat} {c : Int32} {d : Int64} {ts : List (Int32 × Nat)} {k : Nat} : chk t k (.ifCond cd o, (u, v, w, z), c, d, ts) = (jp t k o u && nx t k 3 (.ifCond cd o)) := rfl
set_option maxHeartbeats 4000000 in
theorem st_ifCond {l : Launch} {D : va_G} {cy : Nat → ClassId} {adV : Nat → Nat} {E : aEt} {lx : List Value → aH → aO} {n : Nat} (cd : ClassFile.Cond) (o : Int) : StpI l D cy adV E lx n (Instr.ifCond cd o) := by
  intro id t p e R s m args below meth c A Q v S' hcx hrt hcn0 ih k ls st b S H locs cu su Lc u w1 w z cst d ts hg9 hck h hlh hW hS hEe hrc hrs
  rw [ex_ifCond] at h
  rw [ck_ifCond] at hck
  have hcx0 := hcx
  obtain ⟨hx, hb, hml, hown, hts, hnm, hE, hA, hRf, hRl, hsc⟩ := hcx0
  have hK := hE.1
  simp only [nx, dc, jp, Bool.and_eq_true, decide_eq_true_eq] at hck
  obtain ⟨hj, hd, hp⟩ := hck
  have h9 := pI_some h
  clear h
  obtain ⟨x, r, rfl, h⟩ := h9
  cases cd with
  | eq =>
    simp only [cmp_] at h
    refine lv_if_eq hx hb hd hj (fun hc9 => ?_) (fun hc9 => ?_)
    · rw [if_pos hc9] at h; exact ih _ _ _ _ _ _ _ _ _ _ h hlh hW hS hEe hrc hrs
    · rw [if_neg hc9] at h; rw [← hp]; exact ih _ _ _ _ _ _ _ _ _ _ h hlh hW hS hEe hrc hrs
  | ne =>
    simp only [cmp_] at h
    refine lv_if_ne hx hb hd hj (fun hc9 => ?_) (fun hc9 => ?_)
    · rw [if_neg hc9] at h; exact ih _ _ _ _ _ _ _ _ _ _ h hlh hW hS hEe hrc hrs
    · rw [if_pos hc9] at h; rw [← hp]; exact ih _ _ _ _ _ _ _ _ _ _ h hlh hW hS hEe hrc hrs
  | lt =>
    simp only [cmp_] at h
    refine lv_if_lt hx hb hd hj (fun hc9 => ?_) (fun hc9 => ?_)
    · rw [if_pos hc9] at h; exact ih _ _ _ _ _ _ _ _ _ _ h hlh hW hS hEe hrc hrs
    · rw [if_neg hc9] at h; rw [← hp]; exact ih _ _ _ _ _ _ _ _ _ _ h hlh hW hS hEe hrc hrs
  | ge =>
    simp only [cmp_] at h
    refine lv_if_ge hx hb hd hj (fun hc9 => ?_) (fun hc9 => ?_)
    · rw [if_pos hc9] at h; exact ih _ _ _ _ _ _ _ _ _ _ h hlh hW hS hEe hrc hrs
    · rw [if_neg hc9] at h; rw [← hp]; exact ih _ _ _ _ _ _ _ _ _ _ h hlh hW hS hEe hrc hrs
  | gt =>
    simp only [cmp_] at h
    refine lv_if_gt hx hb hd hj (fun hc9 => ?_) (fun hc9 => ?_)
    · rw [if_pos hc9] at h; exact ih _ _ _ _ _ _ _ _ _ _ h hlh hW hS hEe hrc hrs
    · rw [if_neg hc9] at h; rw [← hp]; exact ih _ _ _ _ _ _ _ _ _ _ h hlh hW hS hEe hrc hrs
  | le =>
    simp only [cmp_] at h
    refine lv_if_le hx hb hd hj (fun hc9 => ?_) (fun hc9 => ?_)
    · rw [if_pos hc9] at h; exact ih _ _ _ _ _ _ _ _ _ _ h hlh hW hS hEe hrc hrs
    · rw [if_neg hc9] at h; rw [← hp]; exact ih _ _ _ _ _ _ _ _ _ _ h hlh hW hS hEe hrc hrs
theorem ex_ifnull (o : Int) {u v w z : Nat} {c : Int32} {d : Int64} {ts : List (Int32 × Nat)} {k : Nat} {ls : aL} {st : List Value} {b : aB} {S : aH} {K : aKt} {C : aC} : ex1 (.ifnull o, (u, v, w, z), c, d, ts) k ls st b S K C = ((match st with
      | .ref _ :: r => K (k + 1) ls r b S
      | .null :: r => K u ls r b S
      | _ => none)) := rfl
theorem ck_ifnull (o : Int) {t : aMt} {u v w z : Nat} {c : Int32} {d : Int64} {ts : List (Int32 × Nat)} {k : Nat} : chk t k (.ifnull o, (u, v, w, z), c, d, ts) = (jp t k o u && nx t k 3 (.ifnull o)) := rfl
set_option maxHeartbeats 4000000 in
theorem st_ifnull {l : Launch} {D : va_G} {cy : Nat → ClassId} {adV : Nat → Nat} {E : aEt} {lx : List Value → aH → aO} {n : Nat} (o : Int) : StpI l D cy adV E lx n (Instr.ifnull o) := by
  intro id t p e R s m args below meth c A Q v S' hcx hrt hcn0 ih k ls st b S H locs cu su Lc u w1 w z cst d ts hg9 hck h hlh hW hS hEe hrc hrs
  rw [ex_ifnull] at h
  rw [ck_ifnull] at hck
  have hcx0 := hcx
  obtain ⟨hx, hb, hml, hown, hts, hnm, hE, hA, hRf, hRl, hsc⟩ := hcx0
  have hK := hE.1
  simp only [nx, dc, jp, Bool.and_eq_true, decide_eq_true_eq] at hck
  obtain ⟨hj, hd, hp⟩ := hck
  split at h
  · refine lv_ifnull hx hb hd ?_
    rw [← hp]
    exact ih _ _ _ _ _ _ _ _ _ _ h hlh hW hS hEe hrc hrs
  · refine lv_ifnullN hx hb hd hj ?_
    exact ih _ _ _ _ _ _ _ _ _ _ h hlh hW hS hEe hrc hrs
  · cases h
theorem ex_ifnonnull (o : Int) {u v w z : Nat} {c : Int32} {d : Int64} {ts : List (Int32 × Nat)} {k : Nat} {ls : aL} {st : List Value} {b : aB} {S : aH} {K : aKt} {C : aC} : ex1 (.ifnonnull o, (u, v, w, z), c, d, ts) k ls st b S K C = ((match st with
      | .ref _ :: r => K u ls r b S
      | .null :: r => K (k + 1) ls r b S
      | _ => none)) := rfl
theorem ck_ifnonnull (o : Int) {t : aMt} {u v w z : Nat} {c : Int32} {d : Int64} {ts : List (Int32 × Nat)} {k : Nat} : chk t k (.ifnonnull o, (u, v, w, z), c, d, ts) = (jp t k o u && nx t k 3 (.ifnonnull o)) := rfl
set_option maxHeartbeats 4000000 in
theorem st_ifnonnull {l : Launch} {D : va_G} {cy : Nat → ClassId} {adV : Nat → Nat} {E : aEt} {lx : List Value → aH → aO} {n : Nat} (o : Int) : StpI l D cy adV E lx n (Instr.ifnonnull o) := by
  intro id t p e R s m args below meth c A Q v S' hcx hrt hcn0 ih k ls st b S H locs cu su Lc u w1 w z cst d ts hg9 hck h hlh hW hS hEe hrc hrs
  rw [ex_ifnonnull] at h
  rw [ck_ifnonnull] at hck
  have hcx0 := hcx
  obtain ⟨hx, hb, hml, hown, hts, hnm, hE, hA, hRf, hRl, hsc⟩ := hcx0
  have hK := hE.1
  simp only [nx, dc, jp, Bool.and_eq_true, decide_eq_true_eq] at hck
  obtain ⟨hj, hd, hp⟩ := hck
  split at h
  · refine lv_ifnonnull hx hb hd hj ?_
    exact ih _ _ _ _ _ _ _ _ _ _ h hlh hW hS hEe hrc hrs
  · refine lv_ifnonnullN hx hb hd ?_
    rw [← hp]
    exact ih _ _ _ _ _ _ _ _ _ _ h hlh hW hS hEe hrc hrs
  · cases h
theorem ex_goto (o : Int) {u v w z : Nat} {c : Int32} {d : Int64} {ts : List (Int32 × Nat)} {k : Nat} {ls : aL} {st : List Value} {b : aB} {S : aH} {K : aKt} {C : aC} : ex1 (.goto o, (u, v, w, z), c, d, ts) k ls st b S K C = (K u ls st b S) := rfl
theorem ck_goto (o : Int) {t : aMt} {u v w z : Nat} {c : Int32} {d : Int64} {ts : List (Int32 × Nat)} {k : Nat} : chk t k (.goto o, (u, v, w, z), c, d, ts) = (jp t k o u && dc t k 3 (.goto o)) := rfl
set_option maxHeartbeats 4000000 in
theorem st_goto {l : Launch} {D : va_G} {cy : Nat → ClassId} {adV : Nat → Nat} {E : aEt} {lx : List Value → aH → aO} {n : Nat} (o : Int) : StpI l D cy adV E lx n (Instr.goto o) := by
  intro id t p e R s m args below meth c A Q v S' hcx hrt hcn0 ih k ls st b S H locs cu su Lc u w1 w z cst d ts hg9 hck h hlh hW hS hEe hrc hrs
  rw [ex_goto] at h
  rw [ck_goto] at hck
  have hcx0 := hcx
  obtain ⟨hx, hb, hml, hown, hts, hnm, hE, hA, hRf, hRl, hsc⟩ := hcx0
  have hK := hE.1
  simp only [nx, dc, jp, Bool.and_eq_true, decide_eq_true_eq] at hck
  obtain ⟨hj, hd⟩ := hck
  refine lv_goto hx hb hd hj ?_
  exact ih _ _ _ _ _ _ _ _ _ _ h hlh hW hS hEe hrc hrs
theorem ex_tableswitch (df : Int) (lo : Int) (hi : Int) (os : Array Int) {u v w z : Nat} {c : Int32} {d : Int64} {ts : List (Int32 × Nat)} {k : Nat} {ls : aL} {st : List Value} {b : aB} {S : aH} {K : aKt} {C : aC} : ex1 (.tableswitch df lo hi os, (u, v, w, z), c, d, ts) k ls st b S K C = (pI st fun x r => sw_ x u (fun t => K t ls r b S) ts) := rfl
theorem ck_tableswitch (df : Int) (lo : Int) (hi : Int) (os : Array Int) {t : aMt} {u v w z : Nat} {c : Int32} {d : Int64} {ts : List (Int32 × Nat)} {k : Nat} : chk t k (.tableswitch df lo hi os, (u, v, w, z), c, d, ts) = (jp t k df u && swT t k lo ts os.toList && decide (hi + 1 = lo + ts.length) && dc t k (tP t (k + 1) - tP t k) (.tableswitch df lo hi os)) := rfl
set_option maxHeartbeats 4000000 in
theorem st_tableswitch {l : Launch} {D : va_G} {cy : Nat → ClassId} {adV : Nat → Nat} {E : aEt} {lx : List Value → aH → aO} {n : Nat} (df : Int) (lo : Int) (hi : Int) (os : Array Int) : StpI l D cy adV E lx n (Instr.tableswitch df lo hi os) := by
  intro id t p e R s m args below meth c A Q v S' hcx hrt hcn0 ih k ls st b S H locs cu su Lc u w1 w z cst d ts hg9 hck h hlh hW hS hEe hrc hrs
  rw [ex_tableswitch] at h
  rw [ck_tableswitch] at hck
  have hcx0 := hcx
  obtain ⟨hx, hb, hml, hown, hts, hnm, hE, hA, hRf, hRl, hsc⟩ := hcx0
  have hK := hE.1
  simp only [nx, dc, jp, Bool.and_eq_true, decide_eq_true_eq] at hck
  obtain ⟨⟨⟨hj, hsw⟩, hhi⟩, hd⟩ := hck
  have h9 := pI_some h
  clear h
  obtain ⟨x, r, rfl, h⟩ := h9
  rcases sw_table ts os.toList lo hsw h with ⟨j, o9, g9, e1, hj9, e2, e3, h⟩ | ⟨e1, h⟩
  · refine lv_tableIn hx hb hd (by omega) (by omega) (off := o9) (by rw [e2, show (lo + (j : Int) - lo).toNat = j by omega]; simpa using e1) e3 ?_
    exact ih _ _ _ _ _ _ _ _ _ _ h hlh hW hS hEe hrc hrs
  · refine lv_tableOut hx hb hd (by omega) hj ?_
    exact ih _ _ _ _ _ _ _ _ _ _ h hlh hW hS hEe hrc hrs
theorem ex_lookupswitch (df : Int) (ps : Array (Int × Int)) {u v w z : Nat} {c : Int32} {d : Int64} {ts : List (Int32 × Nat)} {k : Nat} {ls : aL} {st : List Value} {b : aB} {S : aH} {K : aKt} {C : aC} : ex1 (.lookupswitch df ps, (u, v, w, z), c, d, ts) k ls st b S K C = (pI st fun x r => sw_ x u (fun t => K t ls r b S) ts) := rfl
theorem ck_lookupswitch (df : Int) (ps : Array (Int × Int)) {t : aMt} {u v w z : Nat} {c : Int32} {d : Int64} {ts : List (Int32 × Nat)} {k : Nat} : chk t k (.lookupswitch df ps, (u, v, w, z), c, d, ts) = (jp t k df u && lkT t k ts ps.toList && (ps.toList.zip (ps.toList.drop 1)).all (fun (a, next) => a.1 < next.1) && dc t k (tP t (k + 1) - tP t k) (.lookupswitch df ps)) := rfl
set_option maxHeartbeats 4000000 in
theorem st_lookupswitch {l : Launch} {D : va_G} {cy : Nat → ClassId} {adV : Nat → Nat} {E : aEt} {lx : List Value → aH → aO} {n : Nat} (df : Int) (ps : Array (Int × Int)) : StpI l D cy adV E lx n (Instr.lookupswitch df ps) := by
  intro id t p e R s m args below meth c A Q v S' hcx hrt hcn0 ih k ls st b S H locs cu su Lc u w1 w z cst d ts hg9 hck h hlh hW hS hEe hrc hrs
  rw [ex_lookupswitch] at h
  rw [ck_lookupswitch] at hck
  have hcx0 := hcx
  obtain ⟨hx, hb, hml, hown, hts, hnm, hE, hA, hRf, hRl, hsc⟩ := hcx0
  have hK := hE.1
  simp only [nx, dc, jp, Bool.and_eq_true, decide_eq_true_eq] at hck
  obtain ⟨⟨⟨hj, hsw⟩, hpp⟩, hd⟩ := hck
  have h9 := pI_some h
  clear h
  obtain ⟨x, r, rfl, h⟩ := h9
  obtain ⟨g9, e3, h⟩ := sw_look hj ts ps.toList hsw h
  refine lv_lookup hx hb hd hpp rfl e3 ?_
  exact ih _ _ _ _ _ _ _ _ _ _ h hlh hW hS hEe hrc hrs
theorem ex_ireturn  {u v w z : Nat} {c : Int32} {d : Int64} {ts : List (Int32 × Nat)} {k : Nat} {ls : aL} {st : List Value} {b : aB} {S : aH} {K : aKt} {C : aC} : ex1 (.ireturn, (u, v, w, z), c, d, ts) k ls st b S K C = ((match st with
      | [.int x] => (match w with
        | 0 => some (some (.int x), S)
        | _ => gd (x = 0 ∨ x = 1) (some (some (.int x), S)))
      | _ => none)) := rfl
theorem ck_ireturn  {t : aMt} {u v w z : Nat} {c : Int32} {d : Int64} {ts : List (Int32 × Nat)} {k : Nat} : chk t k (.ireturn, (u, v, w, z), c, d, ts) = ((match w with
      | 0 => decide (tR t = some .int)
      | _ => decide (tR t = some .boolean)) && dc t k 1 .ireturn) := rfl
set_option maxHeartbeats 4000000 in
theorem st_ireturn {l : Launch} {D : va_G} {cy : Nat → ClassId} {adV : Nat → Nat} {E : aEt} {lx : List Value → aH → aO} {n : Nat}  : StpI l D cy adV E lx n (Instr.ireturn) := by
  intro id t p e R s m args below meth c A Q v S' hcx hrt hcn0 ih k ls st b S H locs cu su Lc u w1 w z cst d ts hg9 hck h hlh hW hS hEe hrc hrs
  rw [ex_ireturn] at h
  rw [ck_ireturn] at hck
  have hcx0 := hcx
  obtain ⟨hx, hb, hml, hown, hts, hnm, hE, hA, hRf, hRl, hsc⟩ := hcx0
  have hK := hE.1
  simp only [nx, dc, jp, Bool.and_eq_true, decide_eq_true_eq] at hck
  obtain ⟨hr9, hd⟩ := hck
  split at h
  · next x =>
    by_cases hw : w = 0
    · subst hw
      simp only [decide_eq_true_eq] at hr9
      cases h
      exact hrt _ Lc H locs cu su (by omega) (by omega) hlh.size hW hEe hS (fun q => by cases q) (fun y9 q => ⟨Or.inl hr9, hd⟩) (fun y9 q => by cases q) (fun q => by cases q) (Or.inr (Or.inl ⟨_, rfl⟩))
    · obtain ⟨w, rfl⟩ : ∃ w9, w = w9 + 1 := ⟨w - 1, by omega⟩
      simp only [decide_eq_true_eq] at hr9
      have h9 := gd_some h
      clear h
      obtain ⟨h01, h⟩ := h9
      cases h
      exact hrt _ Lc H locs cu su (by omega) (by omega) hlh.size hW hEe hS (fun q => by cases q) (fun y9 q => ⟨Or.inr ⟨hr9, by cases q; exact h01⟩, hd⟩) (fun y9 q => by cases q) (fun q => by cases q) (Or.inr (Or.inl ⟨_, rfl⟩))
  · cases h
theorem ex_lreturn  {u v w z : Nat} {c : Int32} {d : Int64} {ts : List (Int32 × Nat)} {k : Nat} {ls : aL} {st : List Value} {b : aB} {S : aH} {K : aKt} {C : aC} : ex1 (.lreturn, (u, v, w, z), c, d, ts) k ls st b S K C = ((match st with
      | [.long x] => some (some (.long x), S)
      | _ => none)) := rfl
theorem ck_lreturn  {t : aMt} {u v w z : Nat} {c : Int32} {d : Int64} {ts : List (Int32 × Nat)} {k : Nat} : chk t k (.lreturn, (u, v, w, z), c, d, ts) = (decide (tR t = some .long) && dc t k 1 .lreturn) := rfl
set_option maxHeartbeats 4000000 in
theorem st_lreturn {l : Launch} {D : va_G} {cy : Nat → ClassId} {adV : Nat → Nat} {E : aEt} {lx : List Value → aH → aO} {n : Nat}  : StpI l D cy adV E lx n (Instr.lreturn) := by
  intro id t p e R s m args below meth c A Q v S' hcx hrt hcn0 ih k ls st b S H locs cu su Lc u w1 w z cst d ts hg9 hck h hlh hW hS hEe hrc hrs
  rw [ex_lreturn] at h
  rw [ck_lreturn] at hck
  have hcx0 := hcx
  obtain ⟨hx, hb, hml, hown, hts, hnm, hE, hA, hRf, hRl, hsc⟩ := hcx0
  have hK := hE.1
  simp only [nx, dc, jp, Bool.and_eq_true, decide_eq_true_eq] at hck
  obtain ⟨hr9, hd⟩ := hck
  split at h
  · cases h
    exact hrt _ Lc H locs cu su (by omega) (by omega) hlh.size hW hEe hS (fun q => by cases q) (fun y9 q => by cases q) (fun y9 q => ⟨hr9, hd⟩) (fun q => by cases q) (Or.inr (Or.inr (Or.inl ⟨_, rfl⟩)))
  · cases h
theorem ex_return_  {u v w z : Nat} {c : Int32} {d : Int64} {ts : List (Int32 × Nat)} {k : Nat} {ls : aL} {st : List Value} {b : aB} {S : aH} {K : aKt} {C : aC} : ex1 (.return_, (u, v, w, z), c, d, ts) k ls st b S K C = ((match st with
      | [] => some (none, S)
      | _ => none)) := rfl
theorem ck_return_  {t : aMt} {u v w z : Nat} {c : Int32} {d : Int64} {ts : List (Int32 × Nat)} {k : Nat} : chk t k (.return_, (u, v, w, z), c, d, ts) = (decide (tR t = none) && dc t k 1 .return_) := rfl
set_option maxHeartbeats 4000000 in
theorem st_return_ {l : Launch} {D : va_G} {cy : Nat → ClassId} {adV : Nat → Nat} {E : aEt} {lx : List Value → aH → aO} {n : Nat}  : StpI l D cy adV E lx n (Instr.return_) := by
  intro id t p e R s m args below meth c A Q v S' hcx hrt hcn0 ih k ls st b S H locs cu su Lc u w1 w z cst d ts hg9 hck h hlh hW hS hEe hrc hrs
  rw [ex_return_] at h
  rw [ck_return_] at hck
  have hcx0 := hcx
  obtain ⟨hx, hb, hml, hown, hts, hnm, hE, hA, hRf, hRl, hsc⟩ := hcx0
  have hK := hE.1
  simp only [nx, dc, jp, Bool.and_eq_true, decide_eq_true_eq] at hck
  obtain ⟨hr9, hd⟩ := hck
  split at h
  · cases h
    exact hrt _ Lc H locs cu su (by omega) (by omega) hlh.size hW hEe hS (fun q => ⟨hr9, hd⟩) (fun y9 q => by cases q) (fun y9 q => by cases q) (fun q => by cases q) (Or.inl rfl)
  · cases h
theorem ex_nop  {u v w z : Nat} {c : Int32} {d : Int64} {ts : List (Int32 × Nat)} {k : Nat} {ls : aL} {st : List Value} {b : aB} {S : aH} {K : aKt} {C : aC} : ex1 (.nop, (u, v, w, z), c, d, ts) k ls st b S K C = ((match u with
      | 7 => (match st with
        | [] => gd (1 ≤ b.1 ∧ 6 ≤ b.2) (some (some (.retAddr 7), S))
        | _ => none)
      | _ => K (k + 1) (mk_ ts ls) st b S)) := rfl
theorem ck_nop  {t : aMt} {u v w z : Nat} {c : Int32} {d : Int64} {ts : List (Int32 × Nat)} {k : Nat} : chk t k (.nop, (u, v, w, z), c, d, ts) = (decide (tP t (k + 1) = tP t k)) := rfl
set_option maxHeartbeats 4000000 in
theorem st_nop {l : Launch} {D : va_G} {cy : Nat → ClassId} {adV : Nat → Nat} {E : aEt} {lx : List Value → aH → aO} {n : Nat}  : StpI l D cy adV E lx n (Instr.nop) := by
  intro id t p e R s m args below meth c A Q v S' hcx hrt hcn0 ih k ls st b S H locs cu su Lc u w1 w z cst d ts hg9 hck h hlh hW hS hEe hrc hrs
  rw [ex_nop] at h
  rw [ck_nop] at hck
  have hcx0 := hcx
  obtain ⟨hx, hb, hml, hown, hts, hnm, hE, hA, hRf, hRl, hsc⟩ := hcx0
  have hK := hE.1
  simp only [nx, dc, jp, Bool.and_eq_true, decide_eq_true_eq] at hck
  by_cases hu7 : u = 7
  · subst hu7
    simp only at h
    split at h
    · have h9 := gd_some h
      clear h
      obtain ⟨⟨hb1, hb2⟩, h⟩ := h9
      cases h
      exact hrt _ Lc H locs cu su (by omega) (by omega) hlh.size hW hEe hS (fun q => by cases q) (fun y9 q => by cases q) (fun y9 q => by cases q) (fun q => ⟨⟨k, _, hg9, rfl, rfl, rfl⟩, by omega, by omega⟩) (Or.inr (Or.inr (Or.inr rfl)))
    · cases h
  · have h : am aCode aML aMb (xtF lx) n id (k + 1) (mk_ ts ls) st b S = some (v, S') := by
      split at h
      · exact absurd rfl hu7
      · exact h
    rw [← hck]
    exact ih _ _ _ _ _ _ _ _ _ _ h (hlh.mk ts) hW hS hEe hrc hrs
