/-! CounterMine.led, that may throw; CounterMineLaw.led, that catches it -/
def lx0 : List Value → aH → aO := fun _ _ => none
def bmp (S : aH) : aH := (S.1, S.2.1, S.2.2.1, S.2.2.2.1, S.2.2.2.2.1, aZ S + 1, S.2.2.2.2.2.2)
def lx2 (o : Nat) (q : aO) : aO := match q with
  | some (some (.int g), S1) => gd (aK S1 o = 14 ∧ 0 < aN S1 o) (some (some (.int 0), wJ S1 o 0 g.toInt64))
  | some (some (.retAddr 7), S1) => some (some (.int 1), bmp S1)
  | _ => none
noncomputable def lx_ : List Value → aH → aO := fun as S => match as with
  | [.ref x, .int i, .ref o] => gd (aK S x = 9) (lx2 o (Cag aCode aML aMb (xtF lx0) 316 [.ref x, .int i] S))
  | _ => none
theorem Wd.bump {D : va_G} {cy : Nat → ClassId} {A : Nat → Prop} {S : aH} {H H1 : Heap} (h : Wd D cy A S H) (hz : H1.size = H.size + 1) (hq : ∀ q : Nat, q < H.size → H1[q]? = H[q]?) : Wd D cy A (bmp S) H1 := by
  obtain ⟨L, h1, h2, h3, h4⟩ := h
  have e : pF cy (bmp S) = pF cy S := funext fun a => pF_same rfl rfl rfl rfl rfl
  exact ⟨L, h1, by rw [e]; exact va_P.kept h2 (fun k q hk => hq q.1 (h2 k q hk).lt), by rw [e]; exact h3, by rw [hz, h4]; rfl⟩
def ldL : List Cond := vz_atS RX10 358 nse "java/lang/RuntimeException" 13 prog_28_method_4_code ["java/lang/Exception"]
set_option maxRecDepth 20000 in
theorem ldW : ∀ w ∈ ldL.filter goodWord, w ∈ wsG := memG _ [131, 1274, 1283, 1285, 1288, 1290, 1275, 1276, 141, 142, 1277, 1282, 1286, 1306, 1264, 1307, 1266, 1308, 1268, 1278, 1280, 1270, 1302, 1303, 1305, 1270, 1293, 1294, 1295, 1296, 1296, 1297, 1298, 1299, 1299, 1300, 1301, 1302, 1292, 1253, 1261, 1262, 1263, 1265, 1267, 1269, 1273, 1272, 1271] (by decide +kernel) (by decide +kernel)
set_option maxRecDepth 20000 in
theorem ldB : ldL.filter (fun w => !goodWord w) = [.declares (Bundle.initS "java/lang/RuntimeException"), .declares (Bundle.initS "java/lang/Exception"), .declares (Bundle.initS Bundle.tN), .castable nse nse] := by decide +kernel
set_option maxRecDepth 20000 in
theorem ldG : (Cond.classLink RX10 354 nse :: Cond.initialized nse :: ldL).all vx_ot = true := by decide +kernel
set_option maxRecDepth 20000 in
theorem ldC : ∀ w ∈ [Cond.classLink RX10 354 nse, Cond.initialized nse, Cond.classLink RL 13 nse, Cond.methodLink RL 7 yX10_led, Cond.instanceMethod yX10_led, Cond.selects RX10 yX10_led yX10_led, Cond.initialized RX10, Cond.code yX10_led cX10_led 4 (some .int), Cond.methodLink RL 209 yL_led, Cond.static yL_led, Cond.codeWith yL_led cL_led 4 (some .int) [(0, 9, 12, 13)], Cond.initialized RL], w ∈ wsG := memG _ [1252, 134, 1247, 1248, 1249, 1250, 112, 1251, 1244, 1245, 1246, 111] (by decide +kernel) (by decide +kernel)
def PreL (D : va_G) (cy : Nat → ClassId) (adV : Nat → Nat) (E : aEt) (S : aH) (U : State) : Prop := PreX D cy adV E S U ∧ Ex (A_of S) U
theorem PreL.blind {D : va_G} {cy : Nat → ClassId} {adV : Nat → Nat} {E : aEt} {S : aH} {as : List Value} : FrameBlind (va_Pc as (PreL D cy adV E S)) := by
  intro a U gf mk h
  obtain ⟨h0, ⟨h1, h2, h3⟩, h4⟩ := h
  exact ⟨h0, ⟨h1, Ev.same (u := U) (U := U.calling gf mk a) rfl rfl h2, h3⟩, Ex.same (u := U) (U := U.calling gf mk a) rfl rfl h4⟩
def PostL (D : va_G) (cy : Nat → ClassId) (E : aEt) (A : Nat → Prop) (v : Option Value) (S1 : aH) : Array Value → State → Outcome → State → Prop := va_Qi (fun r (u : aH) => v = some (.int r) ∧ u = S1) (fun u t => Wd D cy A u t.heap ∧ aE u = E) A
def XCl (D : va_G) (cy : Nat → ClassId) (E : aEt) (A : Nat → Prop) (v : Option Value) (S1 : aH) : String → State → State → Prop := vx_X (fun u : aH => v = some (.retAddr 7) ∧ u = bmp S1) (fun (n : String) (u : aH) (t : State) => n = nse ∧ Wd D cy A u t.heap ∧ aE u = E) A
theorem nop7 : ∀ k, k < 25 → ((cg_ k_316 k).any (fun i => decide (i.1 = Instr.nop) && decide (i.2.1.1 = 7))) = true → tP m_316 k = 42 := by decide +kernel
theorem cg_lt : ∀ (l : List aM) (k : Nat) (i : aM), cg_ l k = some i → k < l.length
  | [], k, i, h => by cases h
  | x :: t, 0, i, h => by simp
  | x :: t, k + 1, i, h => by have := cg_lt t k i h; simp; omega
theorem xs905_no {l : Launch} {D : va_G} {cy : Nat → ClassId} {adV : Nat → Nat} {E : aEt} : Xs l D cy adV E lx0 905 := by
  intro t p e R s m args below meth c A Q as rest S S' v H locs cu su pc x Lc hcx hxt
  cases hxt
set_option maxHeartbeats 4000000 in
set_option maxRecDepth 100000 in
theorem c_led {l : Launch} (hlt : l.stackTraces = false) {D : va_G} {cy : Nat → ClassId} {adV : Nat → Nat} {E : aEt} {as : List Value} {S S1 : aH} {v : Option Value} (h : Cag aCode aML aMb (xtF lx0) 316 as S = some (v, S1)) : vx_Met l (tY (mGx 316)) (wsX (mGx 316)) (rmX (mGx 316)) (va_Pc as (PreL D cy adV E S)) (PostL D cy E (A_of S) v S1) (XCl D cy E (A_of S) v S1) 1 6 (A_of S) := by
  have hid : 316 < 317 := by decide
  unfold Cag at h
  rw [if_pos (by decide)] at h
  obtain ⟨hcs, h⟩ := bo_some h
  rw [Nat.ble_eq] at hcs
  obtain ⟨n, hn⟩ := (Amg_iff aCode aML aMb (xtF lx0)).mp h
  have h := hn n (Nat.le_refl n)
  have hB : Bd l D cy adV E lx0 n := bd_all xs_903 xs_904 xs905_no n
  have hck := mGx_ok hid
  unfold chkT at hck
  simp only [Bool.and_eq_true, decide_eq_true_eq] at hck
  obtain ⟨⟨⟨⟨hpl, hcn⟩, har⟩, hmh⟩, hcl⟩ := hck
  refine vx_ofW (cc := tB (mGx 316)) (maxL := tL (mGx 316)) (ret := tR (mGx 316)) hpl rfl ?_
  intro p e s m args below meth c s₁ B hml hex hv0
  obtain ⟨rfl, ⟨hWd, hE, hEe⟩, hX⟩ := hv0
  have hts := atoms_spec (ws := wsX (mGx 316)) B.pre
  have hts : ∀ w ∈ wsG, w.before as.toArray s = true := fun w hw => hts w (List.mem_cons_of_mem _ hw)
  have hown : s.vm.findClass (tY (mGx 316)).cls = some m.cls := findClass_of_methodNamed B.named
  have hr := B.returns
  have hb := B.bytes
  have hx := B.exec
  have hlocks := B.notSynchronized
  obtain ⟨L, w1, w2, w3, w4⟩ := hWd
  have hW : Wd D cy (A_of S) S s.heap := ⟨L, w1, w2, ⟨w3.1, fun k q hq => by
    obtain ⟨a, ha, he⟩ := List.mem_map.mp (List.mem_of_getElem? hq)
    rw [← he]
    exact Or.inl ((w1 a).mp ha)⟩, w4⟩
  have hS0 : va_S (A_of S) s.heap s.heap [] := va_S.rf
  have hlv := lv_entry as (n := tL (mGx 316)) (by rw [lg_sl_len]; exact hcs)
  rw [lg_entry_eq]
  have hcx : Cx l D cy adV E (mGx 316) p (rmX (mGx 316)) s m as.toArray meth c (A_of S) := ⟨hx, hb, hml, by rw [← hcn]; exact hown, hts, fun hn => (name_of_methodNamed B.named B.method).1.trans hn, hE, fun q hq => Or.inr (by rw [← w4]; exact hq), Nat.le_refl _, Nat.le_refl _, fun q => absurd q (by decide)⟩
  have key := hB 316 hid p e (rmX (mGx 316)) s m as.toArray below meth c (A_of S) (vx_MQ below (PostL D cy E (A_of S) v S1) (XCl D cy E (A_of S) v S1) as.toArray s 1 6 (A_of S)) v S1 hcx ?_ 0 (pd_ (ea_ as) (aML 316)) [] (aMb 316) S s.heap [] 0 0 _ h ⟨_, hlv, fun i w hw => by have := ea_lh as 0 _ i w hw; rwa [Nat.zero_add] at this⟩ hW hS0 hEe (by rw [Nat.zero_add]; exact Nat.le_refl _) (by rw [Nat.zero_add]; exact Nat.le_refl _)
  · exact key
  · intro pc Lc H locs cu su hcu hsu hLc hWe hEe' hSe q0 q1 q2 q3 hvv
    rcases hvv with rfl | ⟨x, rfl⟩ | ⟨x, rfl⟩ | rfl
    · exact absurd (q0 rfl).1 (by decide)
    · obtain ⟨r0, r1⟩ := q1 x rfl
      refine vx_ret ?_
      refine W.widen (k := 1) (n := 6) hcu hsu ?_
      exact W.iret (v := x) hx hb (by rw [hr]; rfl) (fun t ht hW9 => ⟨⟨x, S1, rfl, ⟨rfl, rfl⟩, by rw [ht]; exact hWe, hEe'⟩, hSe.F ht⟩) hSe.2.2 r1
    · exact absurd (q2 x rfl).1 (by decide)
    · obtain ⟨⟨k, i, k1, k2, k3, k4⟩, g1, g2⟩ := q3 rfl
      have hk : k < 25 := Nat.lt_of_lt_of_le (cg_lt _ k i k1) (by decide)
      have hpc : pc = 42 := by
        rw [k4]
        refine nop7 k hk ?_
        have k1' : cg_ k_316 k = some i := k1
        rw [k1']
        simp [k2, k3]
      subst hpc
      obtain ⟨e1, e2, e3, e4, e5, e6, sa, e7⟩ := hX
      exact vz_throw (cc := tB (mGx 316)) (pc := 42) hx hb hlt (own := RX10) (cls := nse) (Y0 := "java/lang/RuntimeException") (text := "no such gallery") (names := ["java/lang/Exception"]) (ik := 354) (is := 356) (ic := 358) (ip := 13) (bs := prog_28_method_4_code) (A := A_of S) (by decide +kernel) (by decide +kernel) (by decide +kernel) (by decide +kernel) hown (by decide +kernel) (by decide +kernel)
        (hts _ (ldC _ (List.mem_of_getElem? (i := 0) rfl))) (hts _ (ldC _ (List.mem_of_getElem? (i := 1) rfl))) e7
        (vx_hat (L := ldL) (B := [.declares (Bundle.initS "java/lang/RuntimeException"), .declares (Bundle.initS "java/lang/Exception"), .declares (Bundle.initS Bundle.tN), .castable nse nse]) (fun w hw => hts w (ldW w hw)) (fun w hw => by rw [ldB] at hw; exact hw) (vx_c (va_Nw.use rfl e1) (vx_c (va_Nw.use rfl e2) (vx_c (va_Nw.use rfl e3) (vx_c (va_Nw.use rfl e4) vx_n)))))
        (fun w hw => List.all_eq_true.mp ldG w hw) e5 e6 hSe (by rw [hml]; exact hLc)
        (by decide +kernel) (by decide +kernel) (by decide +kernel) (by decide +kernel) (by decide +kernel) (fun x hx9 => (hex x hx9).elim) (by decide) (by decide) g1 g2 hlocks
        (fun t ha hz hq => ⟨bmp S1, ⟨rfl, rfl⟩, ⟨rfl, hWe.bump hz hq, hEe'⟩, ⟨Nat.le_trans hSe.1 (by rw [hz]; omega), fun q h1 h2 => (hq q (Nat.lt_of_lt_of_le h1 hSe.1)).trans (hSe.2.1 q h1 h2)⟩⟩)
        hSe.2.2 g1 g2
def rmL : Room := { frames := 9, cells := 1, slots := 6, locals := 373 }
theorem dL0 : decode cL_led 0 = .ok (.aload_n 2, 1) := by decide +kernel
theorem dL1 : decode cL_led 1 = .ok (.iconst 0, 1) := by decide +kernel
theorem dL2 : decode cL_led 2 = .ok (.aload_n 0, 1) := by decide +kernel
theorem dL3 : decode cL_led 3 = .ok (.iload_n 1, 1) := by decide +kernel
theorem dL4 : decode cL_led 4 = .ok (.invokevirtual 7, 3) := by decide +kernel
theorem dL7 : decode cL_led 7 = .ok (.i2l, 1) := by decide +kernel
theorem dL8 : decode cL_led 8 = .ok (.lastore, 1) := by decide +kernel
theorem dL9 : decode cL_led 9 = .ok (.goto 6, 3) := by decide +kernel
theorem dL12 : decode cL_led 12 = .ok (.astore_n 3, 1) := by decide +kernel
theorem dL13 : decode cL_led 13 = .ok (.iconst 1, 1) := by decide +kernel
theorem dL14 : decode cL_led 14 = .ok (.ireturn, 1) := by decide +kernel
theorem dL15 : decode cL_led 15 = .ok (.iconst 0, 1) := by decide +kernel
theorem dL16 : decode cL_led 16 = .ok (.ireturn, 1) := by decide +kernel
set_option maxHeartbeats 4000000 in
set_option maxRecDepth 100000 in
theorem c_Lled {l : Launch} (hlt : l.stackTraces = false) {D : va_G} {cy : Nat → ClassId} {adV : Nat → Nat} {E : aEt} {x o : Nat} {i : Int32} {S S' : aH} {v : Option Value} (h : lx_ [.ref x, .int i, .ref o] S = some (v, S')) : Met l yL_led (Cond.codeWith yL_led cL_led 4 (some .int) [(0, 9, 12, 13)] :: wsG) rmL (va_Pc [.ref x, .int i, .ref o] (PreL D cy adV E S)) (PostX D cy E (A_of S) v S') 1 6 (A_of S) := by
  obtain ⟨hxk, h⟩ := gd_some (show gd (aK S x = 9) (lx2 o (Cag aCode aML aMb (xtF lx0) 316 [.ref x, .int i] S)) = some (v, S') from h)
  cases hq : Cag aCode aML aMb (xtF lx0) 316 [.ref x, .int i] S with
  | none => rw [hq] at h; cases h
  | some q =>
  obtain ⟨v1, S1⟩ := q
  rw [hq] at h
  have hled := c_led hlt (D := D) (cy := cy) (adV := adV) (E := E) hq
  refine va_MetW (cc := cL_led) (maxL := 4) (ret := some .int) (hh := [(0, 9, 12, 13)]) (by decide) rfl ?_
  intro p e s m args below meth c s₁ B hml hv0
  obtain ⟨rfl, ⟨hWd, hE, hEe⟩, hX⟩ := hv0
  have hts0 := atoms_spec (ws := Cond.codeWith yL_led cL_led 4 (some .int) [(0, 9, 12, 13)] :: wsG) B.pre
  have htab := vx_table (x := yL_led) B (hts0 _ List.mem_cons_self)
  have hts : ∀ w ∈ wsG, w.before [Value.ref x, .int i, .ref o].toArray s = true := fun w hw => hts0 w (List.mem_cons_of_mem _ hw)
  have hown : s.vm.findClass RL = some m.cls := findClass_of_methodNamed B.named
  have hr := B.returns
  have hb := B.bytes
  have hx := B.exec
  have hlocks := B.notSynchronized
  obtain ⟨L, w1, w2, w3, w4⟩ := hWd
  have hW : Wd D cy (A_of S) S s.heap := ⟨L, w1, w2, ⟨w3.1, fun k q hq => by
    obtain ⟨a, ha, he⟩ := List.mem_map.mp (List.mem_of_getElem? hq)
    rw [← he]
    exact Or.inl ((w1 a).mp ha)⟩, w4⟩
  have hS : va_S (A_of S) s.heap s.heap [] := va_S.rf
  have hl := lv_entry [Value.ref x, .int i, .ref o] (n := 4) (Nat.le_of_ble_eq_true rfl)
  rw [lg_entry_eq]
  generalize (lg_sl [Value.ref x, .int i, .ref o] ++ List.replicate (4 - (lg_sl [Value.ref x, .int i, .ref o]).length) Slot.unset).toArray = ls at hl ⊢
  have hl : lv_has ls 4 [(0, .ref x), (1, .int i), (2, .ref o)] := hl
  refine lv_aload_n hx hb dL0 rfl (lv_at hl 2 rfl) ?_
  refine lv_iconst (v := 0) hx hb dL1 rfl ?_
  refine lv_aload_n hx hb dL2 rfl (lv_at hl 0 rfl) ?_
  refine lv_iload_n hx hb dL3 rfl (lv_at hl 1 rfl) ?_
  have hrecv : ∃ cellB : Cell, s.heap[x]? = some cellB ∧ cellB.vm.isStatics = false ∧ s.vm.findClass RX10 = some cellB.cls := by
    obtain ⟨L, h1, hP, hD, hz0⟩ := id hW
    obtain ⟨k, hk⟩ := Wd.at (D := D) (A := A_of S) (H := s.heap) (cy := cy) h1 (a := x) (by omega)
    rw [pF_obj hxk (by decide)] at hk
    exact va_recv hE.1 hP (clX_at (by decide)) hk
  have hrun := vx_runV (As := [.int i]) (rest := [.int 0, .ref o]) (b := x) (C := RX10) (H := s.heap) (locs := []) (cells := 0) (slots := 0) (g := F0 m 4 ls [.int i, .ref x, .int 0, .ref o]) (R := rmL) (below := below) (meth := meth) (e := e) ⟨hx, hb, hml, hown, hts⟩ hled (cwV 1 hts (goodX (fun w hw => by
      simp only [wsV, wsX, List.mem_append, List.mem_cons, List.not_mem_nil, or_false] at hw
      rcases hw with (rfl | rfl | rfl | rfl) | rfl | hw
      · exact ldC _ (List.mem_of_getElem? (i := 3) rfl)
      · exact ldC _ (List.mem_of_getElem? (i := 4) rfl)
      · exact ldC _ (List.mem_of_getElem? (i := 5) rfl)
      · exact ldC _ (List.mem_of_getElem? (i := 6) rfl)
      · exact ldC _ (List.mem_of_getElem? (i := 7) rfl)
      · exact hw)) rfl rfl rfl ⟨rfl, by decide, by decide, by decide +kernel⟩ ⟨by decide, by decide⟩) ⟨PreL.blind, hrecv, fun U hU hw => ⟨rfl, ⟨by rw [hU]; exact hW.any, hE.call hS (fun _ z => z) hU hw, hEe⟩, hX.call hS (fun _ z => z) hU hw⟩⟩ rfl rfl hl.1 rfl (lv_room (Nat.le_of_ble_eq_true rfl)) dL4 ⟨by decide, by decide⟩
  have hr4 : meth.sig.returnType = some .int := hr
  refine vx_calli (a := [Value.ref x, .int i].toArray) hrun hS (fun _ _ z => z) (fun _ z => z) (fun _ _ z => z) ?_ ?_
  · intro E9 ce q9 u t H1 locs1 ht hal hpx hBX hz hk1 hS1 hcell hcv hcl9
    obtain ⟨hv7, rfl⟩ := hpx
    obtain ⟨rfl, hW1, hE1⟩ := hBX
    subst hv7
    cases h
    rw [ht] at hW1
    refine vx_catch (own := RL) (name := nse) hown ⟨0, 9, 12, 13⟩ [] htab (by decide) (by decide) (hts _ (ldC _ (List.mem_of_getElem? (i := 2) rfl))) (va_Nw.use rfl hX.2.2.2.1) hcell hcv hcl9 ?_
    refine lv_astore_n hx hb dL12 rfl hl (by decide) rfl (fun ls' hl' => ?_)
    refine lv_iconst (v := 1) hx hb dL13 rfl ?_
    exact W.iret (v := 1) hx hb hr4 (fun t ht hW9 => ⟨⟨1, _, rfl, ⟨rfl, rfl⟩, by rw [ht]; exact hW1, hE1⟩, hS1.F ht⟩) hS1.2.2 dL14
  · intro r u t H1 locs1 ht hal hp hB1 hz hk1 hS1
    obtain ⟨rfl, rfl⟩ := hp
    obtain ⟨hW1, hE1⟩ := hB1
    rw [ht] at hW1
    obtain ⟨⟨ho, hn⟩, h⟩ := gd_some (show gd (aK u o = 14 ∧ 0 < aN u o) (some (some (.int 0), wJ u o 0 r.toInt64)) = some (v, S') from h)
    cases h
    refine lv_i2l hx hb dL7 rfl ?_
    refine x_last (i := 0) hx hb hE.1 hW1 hS1 ho (fun z => z.elim (fun z => absurd z (by decide)) (fun z => absurd (Nat.lt_of_lt_of_le hn z) (by decide))) dL8 (fun H2 locs2 hW2 hS2 => ?_)
    refine lv_goto (tgt := 15) hx hb dL9 (by decide) ?_
    refine lv_iconst (v := 0) hx hb dL15 rfl ?_
    exact W.iret (v := 0) hx hb hr4 (fun t ht hW9 => ⟨⟨0, _, rfl, ⟨rfl, rfl⟩, by rw [ht]; exact hW2, hE1⟩, hS2.F ht⟩) hS2.2.2 dL16
set_option maxRecDepth 20000 in
theorem ml905 : ∀ q ∈ mlT, q.2.2.1 = 905 → q.1 = 14 ∧ q.2.1 = 209 := by decide +kernel
theorem lx_as {as : List Value} {S S' : aH} {v : Option Value} (h : lx_ as S = some (v, S')) : (∃ x i o, as = [.ref x, .int i, .ref o]) ∧ ∃ r, v = some (.int r) := by
  unfold lx_ at h
  split at h
  · next x i o =>
    refine ⟨⟨x, i, o, rfl⟩, ?_⟩
    obtain ⟨-, h⟩ := gd_some h
    unfold lx2 at h
    split at h
    · obtain ⟨-, h⟩ := gd_some h
      cases h; exact ⟨_, rfl⟩
    · cases h; exact ⟨_, rfl⟩
    · cases h
  · cases h
set_option maxHeartbeats 4000000 in
set_option maxRecDepth 100000 in
theorem xs_905 {l : Launch} (hlt : l.stackTraces = false) {D : va_G} {cy : Nat → ClassId} {adV : Nat → Nat} {E : aEt} : Xs l D cy adV E lx_ 905 := by
  intro t p e R s m args below meth c A Q as rest S S' v H locs cu su pc x Lc hcx hxt hEe hm hF hL hroom hcu hsu hsz hcs hW hS hd kk
  have hxt : lx_ as S = some (v, S') := hxt
  obtain ⟨hx, hb, hml, hown, hts, hnm, hE, hA, hRf, hRl, hsc⟩ := hcx
  obtain ⟨h14, rfl⟩ := ml905 _ hm rfl
  have h14 : tO t = 14 := h14
  obtain ⟨s1, s2, s3, hX⟩ := hsc h14
  rw [h14] at hown
  obtain ⟨⟨a, i, o, rfl⟩, r, rfl⟩ := lx_as hxt
  have hAo := hW.out hS hA
  have hF : 10 ≤ tF t := hF
  have hL : 400 ≤ tW t := hL
  obtain ⟨g1, g2⟩ := hroom rfl
  refine x_back (t' := m_316) (ar := [Value.ref a, .int i, .ref o].toArray) (st0 := [Value.ref a, .int i, .ref o].reverse ++ rest) (Or.inr (Or.inl ⟨r, rfl⟩)) ?_ hS hAo kk
  refine vx_runSW (hh := [(0, 9, 12, 13)]) (As := [.ref a, .int i, .ref o]) (rest := rest) (own := RL) ⟨hx, hb, hml, hown, hts⟩ (c_Lled hlt hxt) (vx_cwSW 3 hts (goodX (fun w hw => ?_)) rfl rfl rfl ⟨by decide, by decide, by decide +kernel⟩ ⟨by show 9 + 1 ≤ _; omega, by show 8 + (4 + 11) + 373 ≤ _; omega⟩) ⟨PreL.blind, fun U hU hw => ⟨rfl, ⟨by rw [hU]; exact hW.any, hE.call hS hAo hU hw, hEe⟩, hX.call hS hAo hU hw⟩⟩ rfl rfl hsz rfl (lv_room hcs) hd ⟨g1, g2⟩
  simp only [va_wsS, List.mem_append, List.mem_cons, List.not_mem_nil, or_false] at hw
  rcases hw with hw | rfl | hw
  · rcases hw with rfl | rfl | rfl
    · exact ldC _ (List.mem_of_getElem? (i := 8) rfl)
    · exact ldC _ (List.mem_of_getElem? (i := 9) rfl)
    · exact ldC _ (List.mem_of_getElem? (i := 11) rfl)
  · exact ldC _ (List.mem_of_getElem? (i := 10) rfl)
  · exact hw
/-- every run, with CounterMineLaw.led too -/
theorem bd_law {l : Launch} (hlt : l.stackTraces = false) {D : va_G} {cy : Nat → ClassId} {adV : Nat → Nat} {E : aEt} (n : Nat) : Bd l D cy adV E lx_ n := bd_all xs_903 xs_904 (xs_905 hlt) n
