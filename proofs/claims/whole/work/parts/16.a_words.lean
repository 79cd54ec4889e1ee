def wsG : List Cond := lw_tbl.filter goodWord
theorem memG (L : List Cond) (ps : List Nat) (hp : L = ps.filterMap (fun i => lw_tbl[i]?)) (hg : L.all goodWord = true) : ∀ w ∈ L, w ∈ wsG := by
  intro w hw
  have h1 := List.all_eq_true.mp hg w hw
  rw [hp] at hw
  obtain ⟨i, -, hi⟩ := List.mem_filterMap.mp hw
  exact List.mem_filter.mpr ⟨List.mem_of_getElem? hi, h1⟩
theorem wsG_good : ∀ w ∈ wsG, goodWord w = true := fun w h => (List.mem_filter.mp h).2
theorem wsG_tbl : ∀ w ∈ wsG, w ∈ lw_tbl := fun w h => (List.mem_filter.mp h).1
set_option maxRecDepth 20000 in
theorem clI_0 : ∀ w ∈ u_ws (clX 0).1 (clX 0).2.1 (clX 0).2.2, w ∈ wsG := memG _ [402, 404, 406, 408, 410] (by decide +kernel) (by decide +kernel)
set_option maxRecDepth 20000 in
theorem clI_1 : ∀ w ∈ u_ws (clX 1).1 (clX 1).2.1 (clX 1).2.2, w ∈ wsG := memG _ [367, 369, 371, 373, 375] (by decide +kernel) (by decide +kernel)
set_option maxRecDepth 20000 in
theorem clI_2 : ∀ w ∈ u_ws (clX 2).1 (clX 2).2.1 (clX 2).2.2, w ∈ wsG := memG _ [245, 247, 249, 251, 253, 255, 257, 259, 261, 263, 265, 267, 269, 271, 273, 275, 277, 279, 281] (by decide +kernel) (by decide +kernel)
set_option maxRecDepth 20000 in
theorem clI_3 : ∀ w ∈ u_ws (clX 3).1 (clX 3).2.1 (clX 3).2.2, w ∈ wsG := memG _ [296, 298, 300, 302, 304, 306, 308, 310, 312] (by decide +kernel) (by decide +kernel)
set_option maxRecDepth 20000 in
theorem clI_4 : ∀ w ∈ u_ws (clX 4).1 (clX 4).2.1 (clX 4).2.2, w ∈ wsG := memG _ [427, 429, 431, 433, 435] (by decide +kernel) (by decide +kernel)
set_option maxRecDepth 20000 in
theorem clI_5 : ∀ w ∈ u_ws (clX 5).1 (clX 5).2.1 (clX 5).2.2, w ∈ wsG := memG _ [448, 450] (by decide +kernel) (by decide +kernel)
set_option maxRecDepth 20000 in
theorem clI_6 : ∀ w ∈ u_ws (clX 6).1 (clX 6).2.1 (clX 6).2.2, w ∈ wsG := memG _ [165, 167, 169, 171, 173, 175] (by decide +kernel) (by decide +kernel)
set_option maxRecDepth 20000 in
theorem clI_7 : ∀ w ∈ u_ws (clX 7).1 (clX 7).2.1 (clX 7).2.2, w ∈ wsG := memG _ [386, 388] (by decide +kernel) (by decide +kernel)
set_option maxRecDepth 20000 in
theorem clI_8 : ∀ w ∈ u_ws (clX 8).1 (clX 8).2.1 (clX 8).2.2, w ∈ wsG := memG _ [336, 338, 340, 342, 344, 346, 348] (by decide +kernel) (by decide +kernel)
set_option maxRecDepth 20000 in
theorem clI_9 : ∀ w ∈ u_ws (clX 9).1 (clX 9).2.1 (clX 9).2.2, w ∈ wsG := memG _ [467, 469, 471, 473, 475, 477, 479, 481, 483, 485, 487, 489] (by decide +kernel) (by decide +kernel)
set_option maxRecDepth 20000 in
theorem clI_10 : ∀ w ∈ u_ws (clX 10).1 (clX 10).2.1 (clX 10).2.2, w ∈ wsG := memG _ [1485, 1487, 1489, 1491, 1493, 1495, 1497, 1499, 1501, 1503, 1505, 1507, 1509, 1511, 1513, 1515, 1517, 1519, 1521, 1523, 1525, 1527, 1529] (by decide +kernel) (by decide +kernel)
set_option maxRecDepth 20000 in
theorem clI_11 : ∀ w ∈ u_ws (clX 11).1 (clX 11).2.1 (clX 11).2.2, w ∈ wsG := memG _ [1356, 1358, 1360, 1362, 1364, 1366, 1368, 1370, 1372, 1374, 1376, 1378, 1380, 1382, 1384, 1386, 1388, 1390, 1392, 1394, 1396, 1398, 1400, 1402, 1404, 1406, 1408, 1410, 1412, 1414, 1416, 1418, 1420] (by decide +kernel) (by decide +kernel)
theorem clIn : ∀ u, u < 12 → ∀ w ∈ u_ws (clX u).1 (clX u).2.1 (clX u).2.2, w ∈ wsG := by
  intro u hu
  rcases (show u = 0 ∨ u = 1 ∨ u = 2 ∨ u = 3 ∨ u = 4 ∨ u = 5 ∨ u = 6 ∨ u = 7 ∨ u = 8 ∨ u = 9 ∨ u = 10 ∨ u = 11 by omega) with rfl | rfl | rfl | rfl | rfl | rfl | rfl | rfl | rfl | rfl | rfl | rfl
  · exact clI_0
  · exact clI_1
  · exact clI_2
  · exact clI_3
  · exact clI_4
  · exact clI_5
  · exact clI_6
  · exact clI_7
  · exact clI_8
  · exact clI_9
  · exact clI_10
  · exact clI_11
def flC (q : Nat × Nat × Nat × Nat × Nat) : Cond := Cond.fieldLink (cnm q.1) q.2.1 ((clX q.2.2.1).2.1 q.2.2.2.1).1 ((clX q.2.2.1).2.1 q.2.2.2.1).2.1 ((clX q.2.2.1).2.1 q.2.2.2.1).2.2.1
def flN (q : Nat × Nat × Nat × Nat × Nat) : Cond := Cond.fieldLinkNest (cnm q.1) q.2.1 ((clX q.2.2.1).2.1 q.2.2.2.1).1 ((clX q.2.2.1).2.1 q.2.2.2.1).2.1 ((clX q.2.2.1).2.1 q.2.2.2.1).2.2.1 RX12
def mlC (q : Nat × Nat × Nat × Nat) : Cond := Cond.methodLink (cnm q.1) q.2.1 (tY (mG q.2.2.1))
def mlN (h : String) (q : Nat × Nat × Nat × Nat) : Cond := Cond.methodLinkNest (cnm q.1) q.2.1 (tY (mG q.2.2.1)) h
def stx (u : Nat) : String := stxL.getD u ""
