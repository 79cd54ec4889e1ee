theorem ex_invokevirtual (x : Nat) {u v w z : Nat} {c : Int32} {d : Int64} {ts : List (Int32 × Nat)} {k : Nat} {ls : aL} {st : List Value} {b : aB} {S : aH} {K : aKt} {C : aC} : ex1 (.invokevirtual x, (u, v, w, z), c, d, ts) k ls st b S K C = (ca_ u v w z ts st b S C fun st b S => K (k + 1) ls st b S) := rfl
theorem ck_invokevirtual (x : Nat) {t : aMt} {u v w z : Nat} {c : Int32} {d : Int64} {ts : List (Int32 × Nat)} {k : Nat} : chk t k (.invokevirtual x, (u, v, w, z), c, d, ts) = (decide ((tO t, x, u, 0) ∈ mlT) && (if u < 900 then clT_ t (mG u) && rmT (mG u) ts && decide (u < metaL.length) && decide (v = tA (mG u) + 1) && decide (z < 12) && decide ((clX z).1 = (tY (mG u)).cls) else decide (z = 99) && decide (u = 903 ∨ u = 904) && xT t u ts) && nx t k 3 (.invokevirtual x)) := rfl
set_option maxHeartbeats 4000000 in
theorem st_invokevirtual {l : Launch} {D : va_G} {cy : Nat → ClassId} {adV : Nat → Nat} {E : aEt} {lx : List Value → aH → aO} {n : Nat} (hB : Bd l D cy adV E lx n) (hx3 : Xs l D cy adV E lx 903) (hx4 : Xs l D cy adV E lx 904) (y : Nat) : StpI l D cy adV E lx n (Instr.invokevirtual y) := by
  intro id t p e R s m args below meth c A Q v S' hcx hrt hcn0 ih k ls st b S H locs cu su Lc u w1 w z cst d ts hg9 hck h hlh hW hS hEe hrc hrs
  rw [ex_invokevirtual] at h
  rw [ck_invokevirtual] at hck
  have hcx0 := hcx
  obtain ⟨hx, hb, hml, hown, hts, hnm, hE, hA, hRf, hRl, hsc⟩ := hcx0
  have hK := hE.1
  simp only [nx, dc, jp, Bool.and_eq_true, decide_eq_true_eq] at hck
  obtain ⟨⟨hm, hbr⟩, hd, hp⟩ := hck
  by_cases hu : u < 900
  · rw [if_pos hu] at hbr
    simp only [clT_, Bool.and_eq_true, decide_eq_true_eq] at hbr
    obtain ⟨⟨⟨⟨⟨⟨hF, hL⟩, hrm⟩, hul⟩, hv9⟩, hz⟩, hzc⟩ := hbr
    have h9 := ca_some h (rm_of hrm)
    clear h
    obtain ⟨xs, r, val, S1, rfl, hlen, hcs, hrk, hb1, hb2, hC, hval, h⟩ := h9
    simp only [ClI, if_pos hu] at hC
    obtain ⟨hcs2, ham⟩ := bo_some hC
    rw [Nat.ble_eq] at hcs2
    obtain ⟨v1, v2, v3, v4⟩ := virtL _ hm rfl hu
    have hM := metX_of hB hul (cO14 u v3) hcs2 hval ham
    obtain ⟨a, As, has, hza⟩ := hrk.resolve_left (by omega)
    have hza := hza.resolve_left (by omega)
    have hn : As.length = tA (mG u) := by have := congrArg List.length has; simp at this; omega
    rw [show xs ++ r = xs.reverse.reverse ++ r by rw [List.reverse_reverse]]
    exact x_callV hcx (mG_ok hul) hM hval hEe (mlV hm rfl hu) (wInst v2) (wSel v1) (wIni v4) (wCode v3) has hn hz hza hzc hF hL hlh.size hcs hW hS (by omega) (by omega) hd (fun H1 locs1 hW1 hE1 hS1 => by rw [← hp]; exact ih _ _ _ _ _ _ _ _ _ _ h hlh hW1 hS1 hE1 (by have := hrc; first | (simp only; omega) | (simp; omega)) (by have := hrs; first | (simp only; omega) | (simp; omega)))
  · rw [if_neg hu] at hbr
    simp only [xT, Bool.and_eq_true, decide_eq_true_eq] at hbr
    obtain ⟨⟨hz, hu9⟩, ⟨hF, hL⟩, hts9⟩ := hbr
    rcases hu9 with rfl | rfl
    · simp only [decide_eq_true_eq] at hts9
      have h9 := ca_some (mc := 0) (ms := 0) h (Or.inl ⟨hts9, rfl, rfl⟩)
      clear h
      obtain ⟨xs, r, val, S1, rfl, hlen, hcs, hrk, hb1, hb2, hC, hval, h⟩ := h9
      simp only [ClI, if_neg hu] at hC
      rw [show xs ++ r = xs.reverse.reverse ++ r by rw [List.reverse_reverse]]
      exact hx3 t p e R s m args below meth c A Q xs.reverse r S S1 val H locs cu su (tP t k) y Lc hcx hC hEe hm hF hL (fun q => by cases q) (by omega) (by omega) hlh.size hcs hW hS hd (fun H1 locs1 hW1 hE1 hS1 => by rw [← hp]; exact ih _ _ _ _ _ _ _ _ _ _ h hlh hW1 hS1 hE1 (by have := hrc; first | (simp only; omega) | (simp; omega)) (by have := hrs; first | (simp only; omega) | (simp; omega)))
    · simp only [decide_eq_true_eq] at hts9
      have h9 := ca_some (mc := 0) (ms := 0) h (Or.inl ⟨hts9, rfl, rfl⟩)
      clear h
      obtain ⟨xs, r, val, S1, rfl, hlen, hcs, hrk, hb1, hb2, hC, hval, h⟩ := h9
      simp only [ClI, if_neg hu] at hC
      rw [show xs ++ r = xs.reverse.reverse ++ r by rw [List.reverse_reverse]]
      exact hx4 t p e R s m args below meth c A Q xs.reverse r S S1 val H locs cu su (tP t k) y Lc hcx hC hEe hm hF hL (fun q => by cases q) (by omega) (by omega) hlh.size hcs hW hS hd (fun H1 locs1 hW1 hE1 hS1 => by rw [← hp]; exact ih _ _ _ _ _ _ _ _ _ _ h hlh hW1 hS1 hE1 (by have := hrc; first | (simp only; omega) | (simp; omega)) (by have := hrs; first | (simp only; omega) | (simp; omega)))
theorem ex_invokestatic (x : Nat) {u v w z : Nat} {c : Int32} {d : Int64} {ts : List (Int32 × Nat)} {k : Nat} {ls : aL} {st : List Value} {b : aB} {S : aH} {K : aKt} {C : aC} : ex1 (.invokestatic x, (u, v, w, z), c, d, ts) k ls st b S K C = (ca_ u v w z ts st b S C fun st b S => K (k + 1) ls st b S) := rfl
theorem ck_invokestatic (x : Nat) {t : aMt} {u v w z : Nat} {c : Int32} {d : Int64} {ts : List (Int32 × Nat)} {k : Nat} : chk t k (.invokestatic x, (u, v, w, z), c, d, ts) = (decide ((tO t, x, u, 1) ∈ mlT) && decide (z = 99) && (if u < 900 then clT_ t (mG u) && rmT (mG u) ts && decide (u < metaL.length) && decide (v = tA (mG u)) else decide (u = 900 ∨ u = 901 ∨ u = 902 ∨ u = 905) && xT t u ts) && nx t k 3 (.invokestatic x)) := rfl
set_option maxHeartbeats 4000000 in
theorem st_invokestatic {l : Launch} {D : va_G} {cy : Nat → ClassId} {adV : Nat → Nat} {E : aEt} {lx : List Value → aH → aO} {n : Nat} (hB : Bd l D cy adV E lx n) (hx5 : Xs l D cy adV E lx 905) (y : Nat) : StpI l D cy adV E lx n (Instr.invokestatic y) := by
  intro id t p e R s m args below meth c A Q v S' hcx hrt hcn0 ih k ls st b S H locs cu su Lc u w1 w z cst d ts hg9 hck h hlh hW hS hEe hrc hrs
  rw [ex_invokestatic] at h
  rw [ck_invokestatic] at hck
  have hcx0 := hcx
  obtain ⟨hx, hb, hml, hown, hts, hnm, hE, hA, hRf, hRl, hsc⟩ := hcx0
  have hK := hE.1
  simp only [nx, dc, jp, Bool.and_eq_true, decide_eq_true_eq] at hck
  obtain ⟨⟨⟨hm, hz⟩, hbr⟩, hd, hp⟩ := hck
  by_cases hu : u < 900
  · rw [if_pos hu] at hbr
    simp only [clT_, Bool.and_eq_true, decide_eq_true_eq] at hbr
    obtain ⟨⟨⟨⟨hF, hL⟩, hrm⟩, hul⟩, hv9⟩ := hbr
    have h9 := ca_some h (rm_of hrm)
    clear h
    obtain ⟨xs, r, val, S1, rfl, hlen, hcs, hrk, hb1, hb2, hC, hval, h⟩ := h9
    simp only [ClI, if_pos hu] at hC
    obtain ⟨hcs2, ham⟩ := bo_some hC
    rw [Nat.ble_eq] at hcs2
    obtain ⟨v1, v3, v4⟩ := statL _ hm rfl hu
    have hM := metX_of hB hul (cO14 u v3) hcs2 hval ham
    rw [show xs ++ r = xs.reverse.reverse ++ r by rw [List.reverse_reverse]]
    exact x_callS hcx (mG_ok hul) hM hval hEe (mlS hm rfl hu) (wStat v1) (wIni v4) (wCode v3) (by rw [List.length_reverse, hlen, hv9]) hF hL hlh.size hcs hW hS (by omega) (by omega) hd (fun H1 locs1 hW1 hE1 hS1 => by rw [← hp]; exact ih _ _ _ _ _ _ _ _ _ _ h hlh hW1 hS1 hE1 (by have := hrc; first | (simp only; omega) | (simp; omega)) (by have := hrs; first | (simp only; omega) | (simp; omega)))
  · rw [if_neg hu] at hbr
    simp only [xT, Bool.and_eq_true, decide_eq_true_eq] at hbr
    obtain ⟨hu9, ⟨hF, hL⟩, hts9⟩ := hbr
    rcases hu9 with rfl | rfl | rfl | rfl
    · simp only [decide_eq_true_eq] at hts9
      have h9 := ca_some (mc := 0) (ms := 0) h (Or.inl ⟨hts9, rfl, rfl⟩)
      clear h
      obtain ⟨xs, r, val, S1, rfl, hlen, hcs, hrk, hb1, hb2, hC, hval, h⟩ := h9
      simp only [ClI, if_neg hu, xtF] at hC
      rw [show xs ++ r = xs.reverse.reverse ++ r by rw [List.reverse_reverse]]
      generalize xs.reverse = as9 at hC
      split at hC
      · cases hC
        refine va_mabs hx hb (by rw [hml, hlh.size]) hown (hts _ (mtL_abs _ (List.mem_map.mpr ⟨_, List.mem_filter.mpr ⟨hm, rfl⟩, rfl⟩))) (hts _ (mtW_abs _ (by simp))) (hts _ (mtW_abs _ (by simp))) (hts _ (mtW_abs _ (by simp))) (Nat.le_trans hF hRf) (by have : 21 ≤ R.locals := Nat.le_trans hL hRl; have hcs9 : ((([] : List Value).append r).map fun v => v.category).sum ≤ 8 := hcs; omega) (by omega) (by omega) hd ?_
        rw [← hp]
        exact ih _ _ _ _ _ _ _ _ _ _ h hlh hW hS hEe (by have := hrc; simp only; omega) (by have := hrs; simp only; omega)
      · cases hC
    · simp only [decide_eq_true_eq] at hts9
      have h9 := ca_some (mc := 0) (ms := 0) h (Or.inl ⟨hts9, rfl, rfl⟩)
      clear h
      obtain ⟨xs, r, val, S1, rfl, hlen, hcs, hrk, hb1, hb2, hC, hval, h⟩ := h9
      simp only [ClI, if_neg hu, xtF] at hC
      rw [show xs ++ r = xs.reverse.reverse ++ r by rw [List.reverse_reverse]]
      generalize xs.reverse = as9 at hC
      split at hC
      · cases hC
        refine va_mmax hx hb (by rw [hml, hlh.size]) hown (hts _ (mtL_max _ (List.mem_map.mpr ⟨_, List.mem_filter.mpr ⟨hm, rfl⟩, rfl⟩))) (hts _ (mtW_max _ (by simp))) (hts _ (mtW_max _ (by simp))) (hts _ (mtW_max _ (by simp))) (Nat.le_trans hF hRf) (by have : 21 ≤ R.locals := Nat.le_trans hL hRl; have hcs9 : ((([] : List Value).append r).map fun v => v.category).sum ≤ 8 := hcs; omega) (by omega) (by omega) hd ?_
        rw [← hp]
        exact ih _ _ _ _ _ _ _ _ _ _ h hlh hW hS hEe (by have := hrc; simp only; omega) (by have := hrs; simp only; omega)
      · cases hC
    · simp only [decide_eq_true_eq] at hts9
      have h9 := ca_some (mc := 0) (ms := 0) h (Or.inl ⟨hts9, rfl, rfl⟩)
      clear h
      obtain ⟨xs, r, val, S1, rfl, hlen, hcs, hrk, hb1, hb2, hC, hval, h⟩ := h9
      simp only [ClI, if_neg hu, xtF] at hC
      rw [show xs ++ r = xs.reverse.reverse ++ r by rw [List.reverse_reverse]]
      generalize xs.reverse = as9 at hC
      split at hC
      · cases hC
        refine va_mmin hx hb (by rw [hml, hlh.size]) hown (hts _ (mtL_min _ (List.mem_map.mpr ⟨_, List.mem_filter.mpr ⟨hm, rfl⟩, rfl⟩))) (hts _ (mtW_min _ (by simp))) (hts _ (mtW_min _ (by simp))) (hts _ (mtW_min _ (by simp))) (Nat.le_trans hF hRf) (by have : 21 ≤ R.locals := Nat.le_trans hL hRl; have hcs9 : ((([] : List Value).append r).map fun v => v.category).sum ≤ 8 := hcs; omega) (by omega) (by omega) hd ?_
        rw [← hp]
        exact ih _ _ _ _ _ _ _ _ _ _ h hlh hW hS hEe (by have := hrc; simp only; omega) (by have := hrs; simp only; omega)
      · cases hC
    · simp only [decide_eq_true_eq] at hts9
      have h9 := ca_some (mc := 1) (ms := 6) h (Or.inr ⟨0, 0, hts9⟩)
      clear h
      obtain ⟨xs, r, val, S1, rfl, hlen, hcs, hrk, hb1, hb2, hC, hval, h⟩ := h9
      simp only [ClI, if_neg hu] at hC
      rw [show xs ++ r = xs.reverse.reverse ++ r by rw [List.reverse_reverse]]
      exact hx5 t p e R s m args below meth c A Q xs.reverse r S S1 val H locs cu su (tP t k) y Lc hcx hC hEe hm hF hL (fun q => ⟨by omega, by omega⟩) (by omega) (by omega) hlh.size hcs hW hS hd (fun H1 locs1 hW1 hE1 hS1 => by rw [← hp]; exact ih _ _ _ _ _ _ _ _ _ _ h hlh hW1 hS1 hE1 (by have := hrc; first | (simp only; omega) | (simp; omega)) (by have := hrs; first | (simp only; omega) | (simp; omega)))
theorem ex_invokespecial (x : Nat) {u v w z : Nat} {c : Int32} {d : Int64} {ts : List (Int32 × Nat)} {k : Nat} {ls : aL} {st : List Value} {b : aB} {S : aH} {K : aKt} {C : aC} : ex1 (.invokespecial x, (u, v, w, z), c, d, ts) k ls st b S K C = ((match w with
      | 9 => pR st fun _ r => bo_ (Nat.ble (cs_ r) 8) (K (k + 1) ls r b S)
      | _ => ca_ u v w 98 ts st b S C fun st b S => K (k + 1) ls st b S)) := rfl
theorem ck_invokespecial (x : Nat) {t : aMt} {u v w z : Nat} {c : Int32} {d : Int64} {ts : List (Int32 × Nat)} {k : Nat} : chk t k (.invokespecial x, (u, v, w, z), c, d, ts) = ((if w = 9 then decide ((tO t, x, 999, 9) ∈ mlT) && decide (1 ≤ tF t) && decide (20 ≤ tW t) else decide (u < 900) && decide (z = 99) && decide ((tO t, x, u, 2) ∈ mlT ∨ (tO t, x, u, 3) ∈ mlT ∨ (tO t, x, u, 4) ∈ mlT) && clT_ t (mG u) && rmT (mG u) ts && decide (u < metaL.length) && decide (v = tA (mG u) + 1) && decide (tR (mG u) = none) && decide ((tY (mG u)).name = "<init>")) && nx t k 3 (.invokespecial x)) := rfl
set_option maxHeartbeats 4000000 in
theorem st_invokespecial {l : Launch} {D : va_G} {cy : Nat → ClassId} {adV : Nat → Nat} {E : aEt} {lx : List Value → aH → aO} {n : Nat} (hB : Bd l D cy adV E lx n) (y : Nat) : StpI l D cy adV E lx n (Instr.invokespecial y) := by
  intro id t p e R s m args below meth c A Q v S' hcx hrt hcn0 ih k ls st b S H locs cu su Lc u w1 w z cst d ts hg9 hck h hlh hW hS hEe hrc hrs
  rw [ex_invokespecial] at h
  rw [ck_invokespecial] at hck
  have hcx0 := hcx
  obtain ⟨hx, hb, hml, hown, hts, hnm, hE, hA, hRf, hRl, hsc⟩ := hcx0
  have hK := hE.1
  simp only [nx, dc, jp, Bool.and_eq_true, decide_eq_true_eq] at hck
  obtain ⟨hbr, hd, hp⟩ := hck
  by_cases hw : w = 9
  · subst hw
    simp only [if_true, Bool.and_eq_true, decide_eq_true_eq] at hbr
    obtain ⟨⟨hm, hF⟩, hL⟩ := hbr
    have h9 := pR_some h
    clear h
    obtain ⟨a, r, rfl, h⟩ := h9
    have h9 := bo_some h
    clear h
    obtain ⟨hcs, h⟩ := h9
    rw [Nat.ble_eq, cs_sum] at hcs
    refine W.objInit hx hb hown (hts _ (obL _ (List.mem_map.mpr ⟨_, List.mem_filter.mpr ⟨hm, rfl⟩, rfl⟩))) (hts _ (obW _ (by simp))) (hts _ (obW _ (by simp))) rfl (by rw [hml]; exact hlh.size) rfl hd (Nat.le_trans hF hRf) (by show 2 * 0 + _ + 12 ≤ _; have : 20 ≤ R.locals := Nat.le_trans hL hRl; omega) ?_
    refine W.eq (g2 := F0 m (tP t (k + 1)) Lc r) (by rw [hp]) ?_
    exact ih _ _ _ _ _ _ _ _ _ _ h hlh hW hS hEe hrc hrs
  · rw [if_neg hw] at hbr
    simp only [clT_, Bool.and_eq_true, decide_eq_true_eq] at hbr
    obtain ⟨⟨⟨⟨⟨⟨⟨⟨hu, hz⟩, hm⟩, hF, hL⟩, hrm⟩, hul⟩, hv9⟩, hrt9⟩, hin9⟩ := hbr
    have h : ca_ u w1 w 98 ts st b S (ClI lx n) (fun st b S => am aCode aML aMb (xtF lx) n id (k + 1) ls st b S) = some (v, S') := by
      split at h
      · exact absurd rfl hw
      · exact h
    have h9 := ca_some h (rm_of hrm)
    clear h
    obtain ⟨xs, r, val, S1, rfl, hlen, hcs, hrk, hb1, hb2, hC, hval, h⟩ := h9
    simp only [ClI, if_pos hu] at hC
    obtain ⟨hcs2, ham⟩ := bo_some hC
    rw [Nat.ble_eq] at hcs2
    have hsp : u ∈ wInst_L ∧ u ∈ wCode_L ∧ u ∈ wIni_L := by
      rcases hm with hm | hm | hm
      · exact specL _ hm (Or.inl rfl)
      · exact specL _ hm (Or.inr (Or.inl rfl))
      · exact specL _ hm (Or.inr (Or.inr rfl))
    obtain ⟨v2, v3, v4⟩ := hsp
    have hM := metX_of hB hul (cO14 u v3) hcs2 hval ham
    have hlk : Cond.methodLink (cnm (tO t)) y (tY (mG u)) ∈ wsG ∨ ∃ host, va_Nw (Cond.methodLinkNest (cnm (tO t)) y (tY (mG u)) host) s := by
      rcases hm with hm | hm | hm
      · exact Or.inl (mlI hm rfl hu)
      · exact Or.inr ⟨_, (hE.2.2.1 _ hm).1 rfl⟩
      · exact Or.inr ⟨_, (hE.2.2.1 _ hm).2 rfl⟩
    obtain ⟨a, As, hxr, -⟩ := hrk.resolve_left (by omega)
    have hn : As.length = tA (mG u) := by have := congrArg List.length hxr; simp at this; omega
    rw [show xs ++ r = xs.reverse.reverse ++ r by rw [List.reverse_reverse]]
    exact x_callI hcx (mG_ok hul) hM hval hEe hlk (wInst v2) (wIni v4) (wCode v3) hrt9 hin9 hxr hn hF hL hlh.size hcs hW hS (by omega) (by omega) hd (fun H1 locs1 hW1 hE1 hS1 => by rw [← hp]; exact ih _ _ _ _ _ _ _ _ _ _ h hlh hW1 hS1 hE1 (by have := hrc; first | (simp only; omega) | (simp; omega)) (by have := hrs; first | (simp only; omega) | (simp; omega)))
