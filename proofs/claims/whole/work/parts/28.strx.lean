/-! String.length, String.charAt, as the abstract machine has them -/
set_option maxRecDepth 20000 in
theorem stL3 : ∀ w ∈ (mlT.filter (fun q => q.2.2.1 == 903)).map (fun q => Cond.methodLink (cnm q.1) q.2.1 yJ0_length_8abf5), w ∈ wsG := memG _ [544, 1563] (by decide +kernel) (by decide +kernel)
set_option maxRecDepth 20000 in
theorem stL4 : ∀ w ∈ (mlT.filter (fun q => q.2.2.1 == 904)).map (fun q => Cond.methodLink (cnm q.1) q.2.1 yJ0_charAt_5068e), w ∈ wsG := memG _ [554, 1564] (by decide +kernel) (by decide +kernel)
theorem strNo_some {g : Nat → Nat} {a n : Nat} (h : strNo g a = some n) : n < 13 ∧ g n = a := by
  unfold strNo at h
  have h1 := List.find?_some h
  have h2 := List.mem_of_find?_eq_some h
  exact ⟨List.mem_range.mp h2, by simpa using h1⟩
theorem stLen_lt : ∀ n, n < 13 → stLenL.getD n 0 < 2 ^ 31 := by decide +kernel
theorem stByt_ok : ∀ n, n < 13 → ∀ j, j < stLenL.getD n 0 → ((stBytL.getD n []).getD j 0) &&& 255 = (stBytL.getD n []).getD j 0 := by decide +kernel
theorem Ev.sp {D : va_G} {cy : Nat → ClassId} {g adV : Nat → Nat} {A : Nat → Prop} {s : State} (h : Ev D cy g adV A s) {n : Nat} (hn : n < 13) : SP (g n) (adV n) (stLenL.getD n 0) (fun j => .int ((stBytL.getD n []).getD j 0)) A s := by
  obtain ⟨-, -, -, -, -, h6, h7, h8⟩ := h
  obtain ⟨a1, a2, a3, a4⟩ := h6.1 n hn
  exact ⟨a1, a2, a3, a4, h7, h8⟩
set_option maxHeartbeats 4000000 in
theorem xs_903 {l : Launch} {D : va_G} {cy : Nat → ClassId} {adV : Nat → Nat} {E : aEt} {lx : List Value → aH → aO} : Xs l D cy adV E lx 903 := by
  intro t p e R s m args below meth c A Q as rest S S' v H locs cu su pc x Lc hcx hxt hEe hm hF hL _ hcu hsu hsz hcs hW hS hd kk
  obtain ⟨hx, hb, hml, hown, hts, hnm, hE, hA, hRf, hRl, hsc⟩ := hcx
  simp only [xtF] at hxt
  split at hxt
  · next a =>
    obtain ⟨n, hn, hxt⟩ := nR_some hxt
    cases hxt
    obtain ⟨hn13, hga⟩ := strNo_some hn
    have hsp := hE.sp hn13
    have hga : E.1 n = a := by rw [← hEe]; exact hga
    rw [hga] at hsp
    have hd : decode (tB t) pc = .ok (.invokevirtual x, 3) := hd
    have hF : 5 ≤ tF t := hF
    have hL : 120 ≤ tW t := hL
    refine vp_callSi (W.runV (As := []) (rest := rest) (b := a) ⟨hx, hb, hml, hown, hts⟩ (c_length l (stLen_lt n hn13)) (cwV 0 hts (goodX (fun w hw => ?_)) rfl rfl rfl ⟨rfl, by decide, by decide, by decide +kernel⟩ ⟨by show 1 + 1 ≤ _; omega, by show 8 + (1 + 11) + 20 ≤ _; omega⟩) ⟨SP.blind, hsp.recv hS, fun U hU hW9 => ⟨rfl, hsp.call hS (fun _ h => h) hU hW9⟩⟩ rfl rfl hsz rfl (lv_room hcs) hd ⟨hcu, hsu⟩) (fun r9 hr9 => ?_)
    · simp only [wsV, List.mem_append, List.mem_cons, List.not_mem_nil, or_false] at hw
      rcases hw with (rfl | rfl | rfl | rfl) | rfl | hw
      · exact stL3 _ (List.mem_map.mpr ⟨_, List.mem_filter.mpr ⟨hm, rfl⟩, rfl⟩)
      · exact sW_in _ (List.mem_of_getElem? (i := 3) rfl)
      · exact sW_in _ (List.mem_of_getElem? (i := 4) rfl)
      · exact sW_in _ (List.mem_of_getElem? (i := 0) rfl)
      · exact sW_in _ (List.mem_of_getElem? (i := 5) rfl)
      · exact hw
    · rw [hr9]
      exact kk H locs hW hEe hS
  · cases hxt
set_option maxHeartbeats 4000000 in
theorem xs_904 {l : Launch} {D : va_G} {cy : Nat → ClassId} {adV : Nat → Nat} {E : aEt} {lx : List Value → aH → aO} : Xs l D cy adV E lx 904 := by
  intro t p e R s m args below meth c A Q as rest S S' v H locs cu su pc x Lc hcx hxt hEe hm hF hL _ hcu hsu hsz hcs hW hS hd kk
  obtain ⟨hx, hb, hml, hown, hts, hnm, hE, hA, hRf, hRl, hsc⟩ := hcx
  simp only [xtF] at hxt
  split at hxt
  · next a i =>
    obtain ⟨n, hn, hxt⟩ := nR_some hxt
    obtain ⟨hi, hxt⟩ := gd_some hxt
    cases hxt
    obtain ⟨hn13, hga⟩ := strNo_some hn
    have hsp := hE.sp hn13
    have hga : E.1 n = a := by rw [← hEe]; exact hga
    rw [hga] at hsp
    have hd : decode (tB t) pc = .ok (.invokevirtual x, 3) := hd
    have hF : 6 ≤ tF t := hF
    have hL : 200 ≤ tW t := hL
    refine vp_callSi (W.runV (As := [.int i]) (rest := rest) (b := a) ⟨hx, hb, hml, hown, hts⟩ (c_charAt0 l (stLen_lt n hn13) hi rfl) (cwV 1 hts (goodX (fun w hw => ?_)) rfl rfl rfl ⟨rfl, by decide, by decide, by decide +kernel⟩ ⟨by show 3 + 1 ≤ _; omega, by show 8 + (2 + 11) + 64 ≤ _; omega⟩) ⟨SP.blind, hsp.recv hS, fun U hU hW9 => ⟨rfl, hsp.call hS (fun _ h => h) hU hW9⟩⟩ rfl rfl hsz rfl (lv_room hcs) hd ⟨hcu, hsu⟩) (fun r9 hr9 => ?_)
    · simp only [wsV, List.mem_append, List.mem_cons, List.not_mem_nil, or_false] at hw
      rcases hw with (rfl | rfl | rfl | rfl) | rfl | hw
      · exact stL4 _ (List.mem_map.mpr ⟨_, List.mem_filter.mpr ⟨hm, rfl⟩, rfl⟩)
      · exact sW_in _ (List.mem_of_getElem? (i := 11) rfl)
      · exact sW_in _ (List.mem_of_getElem? (i := 12) rfl)
      · exact sW_in _ (List.mem_of_getElem? (i := 0) rfl)
      · exact sW_in _ (List.mem_of_getElem? (i := 13) rfl)
      · exact hw
    · have hlt : i.toNatClampNeg < stLenL.getD n 0 := Nat.not_le.mp fun q => hi (Or.inr q)
      rw [hr9, stByt_ok n hn13 _ hlt]
      exact kk H locs hW hEe hS
  · cases hxt
