theorem flW {q : Nat × Nat × Nat × Nat × Nat} (h : q ∈ flT) (h0 : q.2.2.2.2 = 0) : flC q ∈ wsG := flW0 _ (List.mem_map.mpr ⟨q, List.mem_filter.mpr ⟨h, by simp [h0]⟩, rfl⟩)
set_option maxRecDepth 20000 in
theorem flNt : (flT.filter (fun q => q.2.2.2.2 == 1)).map flN = ([1453, 1462, 1480, 1461, 1482, 1484, 1451, 1455, 1446, 1447, 1448, 1449, 1464, 1456, 1466, 1472, 1457, 1468, 1470, 1459, 1474, 1476, 1478] : List Nat).filterMap (fun i => lw_tbl[i]?) := by decide +kernel
theorem mlV {q : Nat × Nat × Nat × Nat} (h : q ∈ mlT) (h0 : q.2.2.2 = 0) (h9 : q.2.2.1 < 900) : mlC q ∈ wsG := mlV0 _ (List.mem_map.mpr ⟨q, List.mem_filter.mpr ⟨h, by rw [h0]; simp [Nat.blt_eq, h9]⟩, rfl⟩)
theorem mlS {q : Nat × Nat × Nat × Nat} (h : q ∈ mlT) (h0 : q.2.2.2 = 1) (h9 : q.2.2.1 < 900) : mlC q ∈ wsG := mlS0 _ (List.mem_map.mpr ⟨q, List.mem_filter.mpr ⟨h, by rw [h0]; simp [Nat.blt_eq, h9]⟩, rfl⟩)
theorem mlI {q : Nat × Nat × Nat × Nat} (h : q ∈ mlT) (h0 : q.2.2.2 = 2) (h9 : q.2.2.1 < 900) : mlC q ∈ wsG := mlI0 _ (List.mem_map.mpr ⟨q, List.mem_filter.mpr ⟨h, by rw [h0]; simp [Nat.blt_eq, h9]⟩, rfl⟩)
set_option maxRecDepth 20000 in
theorem mlNt3 : (mlT.filter (fun q => q.2.2.2 == 3)).map (mlN "CounterMine") = ([359, 151, 181, 145, 318, 380, 393, 415, 440, 454] : List Nat).filterMap (fun i => lw_tbl[i]?) := by decide +kernel
set_option maxRecDepth 20000 in
theorem mlNt4 : (mlT.filter (fun q => q.2.2.2 == 4)).map (mlN "CounterMineModel") = ([1442] : List Nat).filterMap (fun i => lw_tbl[i]?) := by decide +kernel
def wCode_L : List Nat := ([0, 1, 2, 3, 4, 5, 6, 7, 8, 9, 10, 11, 12, 13, 14, 15, 16, 17, 18, 19, 20, 21, 22, 23, 24, 25, 26, 27, 28, 29, 30, 31, 32, 33, 34, 35, 36, 37, 38, 39] : List Nat) ++ (([40, 41, 42, 43, 44, 45, 46, 47, 48, 49, 50, 51, 52, 53, 54, 55, 56, 57, 58, 59, 60, 61, 62, 63, 64, 65, 66, 67, 68, 69, 70, 71, 72, 73, 74, 75, 76, 77, 78, 79] : List Nat) ++ (([80, 81, 82, 83, 84, 85, 86, 87, 88, 89, 90, 91, 92, 93, 94, 95, 96, 97, 98, 99, 100, 101, 102, 103, 104, 105, 106, 107, 108, 109, 110, 111, 112, 113, 114, 115, 116, 117, 118, 119] : List Nat) ++ (([120, 121, 122, 123, 124, 125, 126, 127, 128, 129, 130, 131, 132, 133, 134, 135, 136, 137, 138, 139, 140, 141, 142, 143, 144, 145, 146, 147, 148, 149, 150, 151, 152, 153, 154, 155, 156, 157, 158, 159] : List Nat) ++ (([160, 161, 162, 163, 164, 165, 166, 167, 168, 169, 170, 171, 172, 173, 174, 175, 176, 177, 178, 179, 180, 181, 182, 183, 184, 185, 186, 187, 188, 189, 190, 191, 192, 193, 194, 195, 196, 197, 198, 199] : List Nat) ++ (([200, 201, 202, 203, 204, 205, 206, 207, 208, 209, 210, 211, 212, 213, 214, 215, 216, 217, 218, 219, 220, 221, 222, 223, 224, 225, 226, 227, 228, 229, 230, 231, 232, 233, 234, 235, 236, 237, 238, 239] : List Nat) ++ (([240, 241, 242, 243, 244, 245, 246, 247, 248, 249, 250, 251, 252, 253, 254, 255, 256, 257, 258, 259, 260, 261, 262, 263, 264, 265, 266, 267, 268, 269, 270, 271, 272, 273, 274, 275, 276, 277, 278, 279] : List Nat) ++ (([280, 281, 282, 283, 284, 285, 286, 287, 288, 289, 290, 291, 292, 293, 294, 295, 296, 297, 298, 299, 300, 301, 302, 303, 304, 305, 306, 307, 308, 309, 310, 311, 312, 313, 314] : List Nat))))))))
theorem wCode {u : Nat} (h : u ∈ wCode_L) : Cond.code (tY (mG u)) (tB (mG u)) (tL (mG u)) (tR (mG u)) ∈ wsG := by
  unfold wCode_L at h
  rcases List.mem_append.mp h with h | h
  · exact wCode_0 _ (List.mem_map.mpr ⟨u, h, rfl⟩)
  rcases List.mem_append.mp h with h | h
  · exact wCode_1 _ (List.mem_map.mpr ⟨u, h, rfl⟩)
  rcases List.mem_append.mp h with h | h
  · exact wCode_2 _ (List.mem_map.mpr ⟨u, h, rfl⟩)
  rcases List.mem_append.mp h with h | h
  · exact wCode_3 _ (List.mem_map.mpr ⟨u, h, rfl⟩)
  rcases List.mem_append.mp h with h | h
  · exact wCode_4 _ (List.mem_map.mpr ⟨u, h, rfl⟩)
  rcases List.mem_append.mp h with h | h
  · exact wCode_5 _ (List.mem_map.mpr ⟨u, h, rfl⟩)
  rcases List.mem_append.mp h with h | h
  · exact wCode_6 _ (List.mem_map.mpr ⟨u, h, rfl⟩)
  exact wCode_7 _ (List.mem_map.mpr ⟨u, h, rfl⟩)
def wInst_L : List Nat := ([8, 9, 10, 11, 12, 13, 14, 16, 17, 18, 19, 20, 21, 22, 23, 24, 25, 26, 27, 28, 29, 30, 31, 32, 33, 34, 35, 36, 37, 38, 39, 40, 41, 42, 43, 44, 45, 46, 47, 48] : List Nat) ++ (([49, 50, 51, 52, 53, 54, 58, 59, 60, 61, 64, 65, 66, 67, 68, 69, 70, 71, 72, 73, 76, 77, 78, 79, 80, 81, 82, 83, 84, 85, 87, 88, 89, 90, 91, 92, 93, 94, 95, 96] : List Nat) ++ (([97, 98, 99, 100, 101, 102, 103, 104, 105, 106, 107, 108, 109, 110, 111, 112, 113, 114, 115, 116, 117, 118, 119, 120, 121, 122, 123, 124, 125, 126, 127, 128, 129, 130, 131, 132, 133, 134, 135, 136] : List Nat) ++ (([137, 138, 139, 140, 141, 142, 143, 144, 145, 146, 147, 148, 149, 150, 151, 152, 153, 154, 155, 156, 157, 158, 159, 160, 161, 162, 163, 164, 165, 169, 170, 171, 174, 175, 176, 177, 178, 179, 180, 181] : List Nat) ++ (([182, 183, 184, 185, 186, 190, 192, 196, 197, 198, 199, 200, 201, 202, 203, 204, 205, 206, 207, 208, 209, 210, 211, 212, 214, 215, 216, 217, 219, 220, 221, 222, 223, 224, 225, 226, 227, 228, 231, 232] : List Nat) ++ (([233, 234, 235, 236, 237, 238, 239, 240, 241, 242, 243, 244, 245, 246, 247, 248, 249, 250, 251, 252, 253, 254, 255, 256, 257, 258, 259, 260, 261, 262, 263, 264, 265, 266, 267, 268, 269, 270, 272, 273] : List Nat) ++ (([274, 275, 276, 277, 278, 279, 280, 281, 282, 283, 284, 285, 286, 287, 288, 289, 290, 291, 292, 294, 295, 297, 298, 300, 301, 302, 303, 304, 305, 306, 307, 308, 309, 310, 311, 312, 313] : List Nat)))))))
theorem wInst {u : Nat} (h : u ∈ wInst_L) : Cond.instanceMethod (tY (mG u)) ∈ wsG := by
  unfold wInst_L at h
  rcases List.mem_append.mp h with h | h
  · exact wInst_0 _ (List.mem_map.mpr ⟨u, h, rfl⟩)
  rcases List.mem_append.mp h with h | h
  · exact wInst_1 _ (List.mem_map.mpr ⟨u, h, rfl⟩)
  rcases List.mem_append.mp h with h | h
  · exact wInst_2 _ (List.mem_map.mpr ⟨u, h, rfl⟩)
  rcases List.mem_append.mp h with h | h
  · exact wInst_3 _ (List.mem_map.mpr ⟨u, h, rfl⟩)
  rcases List.mem_append.mp h with h | h
  · exact wInst_4 _ (List.mem_map.mpr ⟨u, h, rfl⟩)
  rcases List.mem_append.mp h with h | h
  · exact wInst_5 _ (List.mem_map.mpr ⟨u, h, rfl⟩)
  exact wInst_6 _ (List.mem_map.mpr ⟨u, h, rfl⟩)
def wSel_L : List Nat := ([9, 10, 11, 12, 13, 14, 17, 18, 19, 20, 21, 23, 24, 25, 26, 27, 28, 29, 30, 31, 32, 33, 35, 36, 37, 38, 39, 40, 41, 42, 43, 44, 45, 46, 47, 48, 49, 50, 51, 52] : List Nat) ++ (([53, 54, 58, 59, 61, 64, 65, 66, 67, 68, 69, 71, 72, 73, 77, 78, 79, 80, 81, 82, 83, 84, 85, 88, 89, 90, 91, 92, 94, 95, 96, 97, 98, 99, 100, 101, 102, 103, 104, 105] : List Nat) ++ (([106, 107, 108, 109, 110, 112, 113, 114, 115, 116, 117, 118, 119, 120, 121, 122, 123, 124, 125, 126, 127, 128, 129, 130, 131, 132, 133, 134, 135, 136, 137, 138, 139, 140, 141, 142, 143, 144, 145, 146] : List Nat) ++ (([147, 148, 149, 150, 151, 152, 153, 154, 155, 156, 157, 158, 159, 160, 161, 162, 163, 164, 165, 169, 170, 171, 175, 176, 177, 178, 179, 181, 182, 183, 184, 185, 186, 190, 192, 196, 197, 198, 199, 200] : List Nat) ++ (([201, 202, 203, 204, 205, 206, 207, 208, 209, 210, 211, 212, 214, 215, 216, 217, 219, 220, 221, 222, 223, 224, 225, 226, 227, 228, 231, 232, 233, 234, 235, 236, 237, 238, 239, 240, 241, 242, 243, 244] : List Nat) ++ (([245, 246, 247, 248, 249, 250, 251, 252, 253, 254, 255, 256, 257, 258, 259, 260, 261, 262, 263, 264, 265, 266, 267, 268, 269, 270, 272, 273, 274, 275, 276, 277, 278, 279, 280, 281, 282, 283, 284, 285] : List Nat) ++ (([286, 287, 288, 289, 290, 291, 292, 294, 295, 297, 298, 300, 301, 302, 303, 304, 305, 306, 307, 308, 309, 310, 311, 312, 313] : List Nat)))))))
theorem wSel {u : Nat} (h : u ∈ wSel_L) : Cond.selects (tY (mG u)).cls (tY (mG u)) (tY (mG u)) ∈ wsG := by
  unfold wSel_L at h
  rcases List.mem_append.mp h with h | h
  · exact wSel_0 _ (List.mem_map.mpr ⟨u, h, rfl⟩)
  rcases List.mem_append.mp h with h | h
  · exact wSel_1 _ (List.mem_map.mpr ⟨u, h, rfl⟩)
  rcases List.mem_append.mp h with h | h
  · exact wSel_2 _ (List.mem_map.mpr ⟨u, h, rfl⟩)
  rcases List.mem_append.mp h with h | h
  · exact wSel_3 _ (List.mem_map.mpr ⟨u, h, rfl⟩)
  rcases List.mem_append.mp h with h | h
  · exact wSel_4 _ (List.mem_map.mpr ⟨u, h, rfl⟩)
  rcases List.mem_append.mp h with h | h
  · exact wSel_5 _ (List.mem_map.mpr ⟨u, h, rfl⟩)
  exact wSel_6 _ (List.mem_map.mpr ⟨u, h, rfl⟩)
def wStat_L : List Nat := ([0, 1, 2, 3, 4, 5, 6, 7, 15, 55, 56, 57, 62, 63, 74, 75, 86, 166, 167, 168, 172, 173, 187, 188, 189, 191, 193, 194, 195, 213, 218, 229, 230, 271, 293, 296, 299, 314] : List Nat)
theorem wStat {u : Nat} (h : u ∈ wStat_L) : Cond.static (tY (mG u)) ∈ wsG := by
  unfold wStat_L at h
  exact wStat_0 _ (List.mem_map.mpr ⟨u, h, rfl⟩)
def wIni_L : List Nat := ([0, 1, 2, 3, 4, 5, 6, 7, 8, 9, 10, 11, 12, 13, 14, 15, 16, 17, 18, 19, 20, 21, 22, 23, 24, 25, 26, 27, 28, 29, 30, 31, 32, 33, 34, 35, 36, 37, 38, 39] : List Nat) ++ (([40, 41, 42, 43, 44, 45, 46, 47, 48, 49, 50, 51, 52, 53, 54, 55, 56, 57, 58, 59, 60, 61, 62, 63, 64, 65, 66, 67, 68, 69, 70, 71, 72, 73, 74, 75, 76, 77, 78, 79] : List Nat) ++ (([80, 81, 82, 83, 84, 85, 86, 87, 88, 89, 90, 91, 92, 93, 94, 95, 96, 97, 98, 99, 100, 101, 102, 103, 104, 105, 106, 107, 108, 109, 110, 111, 112, 113, 114, 115, 116, 117, 118, 119] : List Nat) ++ (([120, 121, 122, 123, 124, 125, 126, 127, 128, 129, 130, 131, 132, 133, 134, 135, 136, 137, 138, 139, 140, 141, 142, 143, 144, 145, 146, 147, 148, 149, 150, 151, 152, 153, 154, 155, 156, 157, 158, 159] : List Nat) ++ (([160, 161, 162, 163, 164, 165, 166, 167, 168, 169, 170, 171, 172, 173, 174, 175, 176, 177, 178, 179, 180, 181, 182, 183, 184, 185, 186, 187, 188, 189, 190, 191, 192, 193, 194, 195, 196, 197, 198, 199] : List Nat) ++ (([200, 201, 202, 203, 204, 205, 206, 207, 208, 209, 210, 211, 212, 213, 214, 215, 216, 217, 218, 219, 220, 221, 222, 223, 224, 225, 226, 227, 228, 229, 230, 231, 232, 233, 234, 235, 236, 237, 238, 239] : List Nat) ++ (([240, 241, 242, 243, 244, 245, 246, 247, 248, 249, 250, 251, 252, 253, 254, 255, 256, 257, 258, 259, 260, 261, 262, 263, 264, 265, 266, 267, 268, 269, 270, 271, 272, 273, 274, 275, 276, 277, 278, 279] : List Nat) ++ (([280, 281, 282, 283, 284, 285, 286, 287, 288, 289, 290, 291, 292, 293, 294, 295, 296, 297, 298, 299, 300, 301, 302, 303, 304, 305, 306, 307, 308, 309, 310, 311, 312, 313, 314] : List Nat))))))))
theorem wIni {u : Nat} (h : u ∈ wIni_L) : Cond.initialized (tY (mG u)).cls ∈ wsG := by
  unfold wIni_L at h
  rcases List.mem_append.mp h with h | h
  · exact wIni_0 _ (List.mem_map.mpr ⟨u, h, rfl⟩)
  rcases List.mem_append.mp h with h | h
  · exact wIni_1 _ (List.mem_map.mpr ⟨u, h, rfl⟩)
  rcases List.mem_append.mp h with h | h
  · exact wIni_2 _ (List.mem_map.mpr ⟨u, h, rfl⟩)
  rcases List.mem_append.mp h with h | h
  · exact wIni_3 _ (List.mem_map.mpr ⟨u, h, rfl⟩)
  rcases List.mem_append.mp h with h | h
  · exact wIni_4 _ (List.mem_map.mpr ⟨u, h, rfl⟩)
  rcases List.mem_append.mp h with h | h
  · exact wIni_5 _ (List.mem_map.mpr ⟨u, h, rfl⟩)
  rcases List.mem_append.mp h with h | h
  · exact wIni_6 _ (List.mem_map.mpr ⟨u, h, rfl⟩)
  exact wIni_7 _ (List.mem_map.mpr ⟨u, h, rfl⟩)
set_option maxRecDepth 20000 in
theorem virtL : ∀ q ∈ mlT, q.2.2.2 = 0 → q.2.2.1 < 900 → q.2.2.1 ∈ wSel_L ∧ q.2.2.1 ∈ wInst_L ∧ q.2.2.1 ∈ wCode_L ∧ q.2.2.1 ∈ wIni_L := by decide +kernel
set_option maxRecDepth 20000 in
theorem statL : ∀ q ∈ mlT, q.2.2.2 = 1 → q.2.2.1 < 900 → q.2.2.1 ∈ wStat_L ∧ q.2.2.1 ∈ wCode_L ∧ q.2.2.1 ∈ wIni_L := by decide +kernel
set_option maxRecDepth 20000 in
theorem specL : ∀ q ∈ mlT, q.2.2.2 = 2 ∨ q.2.2.2 = 3 ∨ q.2.2.2 = 4 → q.2.2.1 ∈ wInst_L ∧ q.2.2.1 ∈ wCode_L ∧ q.2.2.1 ∈ wIni_L := by decide +kernel
set_option maxRecDepth 20000 in
theorem ciW0 : ∀ w ∈ ciT.map (fun q => Cond.constant (cnm q.1) q.2.1 q.2.2), w ∈ wsG := memG _ [1184, 2019] (by decide +kernel) (by decide +kernel)
set_option maxRecDepth 20000 in
theorem clW0 : ∀ w ∈ clT.map (fun q => Cond.constantLong (cnm q.1) q.2.1 q.2.2), w ∈ wsG := memG _ [1039, 1159, 972, 1207, 1154, 1543, 1609, 2003, 2020, 2021, 2022, 864, 865, 866] (by decide +kernel) (by decide +kernel)
set_option maxRecDepth 20000 in
theorem nlW0 : ∀ w ∈ nlT.map (fun q => Cond.classLink (cnm q.1) q.2.1 (clX q.2.2.1).1), w ∈ wsG := memG _ [357, 357, 149, 179, 143, 316, 351, 378, 391, 413, 438, 453, 1440, 135, 1317] (by decide +kernel) (by decide +kernel)
set_option maxRecDepth 20000 in
theorem insW0 : ∀ w ∈ (List.range 12).map (fun u => Cond.instantiable (clX u).1 (clX u).2.2), w ∈ wsG := memG _ [392, 352, 180, 144, 414, 439, 150, 379, 317, 136, 1441, 1318] (by decide +kernel) (by decide +kernel)
set_option maxRecDepth 20000 in
theorem iniW0 : ∀ w ∈ (List.range 12).map (fun u => Cond.initialized (clX u).1), w ∈ wsG := memG _ [119, 117, 115, 113, 120, 121, 114, 118, 116, 112, 129, 122] (by decide +kernel) (by decide +kernel)
set_option maxRecDepth 20000 in
theorem arrW0 : ∀ w ∈ ([Cond.arrayClass .int, Cond.arrayClass .long, Cond.arrayClass .boolean, Cond.arrayClass .byte] : List Cond), w ∈ wsG := memG _ [178, 315, 1423, 794] (by decide +kernel) (by decide +kernel)
set_option maxRecDepth 20000 in
theorem mtL_abs : ∀ w ∈ (mlT.filter (fun q => q.2.2.1 == 900)).map (fun q => Cond.methodLink (cnm q.1) q.2.1 Lib.Math.abs.name), w ∈ wsG := memG _ [790, 793] (by decide +kernel) (by decide +kernel)
set_option maxRecDepth 20000 in
theorem mtW_abs : ∀ w ∈ ([Cond.static Lib.Math.abs.name, Cond.initialized "java/lang/Math", Cond.code Lib.Math.abs.name Lib.Math.abs.code 1 (some .int)] : List Cond), w ∈ wsG := memG _ [791, 128, 792] (by decide +kernel) (by decide +kernel)
set_option maxRecDepth 20000 in
theorem mtL_max : ∀ w ∈ (mlT.filter (fun q => q.2.2.1 == 901)).map (fun q => Cond.methodLink (cnm q.1) q.2.1 Lib.Math.max.name), w ∈ wsG := memG _ [1118, 1179, 768] (by decide +kernel) (by decide +kernel)
set_option maxRecDepth 20000 in
theorem mtW_max : ∀ w ∈ ([Cond.static Lib.Math.max.name, Cond.initialized "java/lang/Math", Cond.code Lib.Math.max.name Lib.Math.max.code 2 (some .int)] : List Cond), w ∈ wsG := memG _ [769, 128, 770] (by decide +kernel) (by decide +kernel)
set_option maxRecDepth 20000 in
theorem mtL_min : ∀ w ∈ (mlT.filter (fun q => q.2.2.1 == 902)).map (fun q => Cond.methodLink (cnm q.1) q.2.1 Lib.Math.min.name), w ∈ wsG := memG _ [1195] (by decide +kernel) (by decide +kernel)
set_option maxRecDepth 20000 in
theorem mtW_min : ∀ w ∈ ([Cond.static Lib.Math.min.name, Cond.initialized "java/lang/Math", Cond.code Lib.Math.min.name Lib.Math.min.code 2 (some .int)] : List Cond), w ∈ wsG := memG _ [1196, 128, 1197] (by decide +kernel) (by decide +kernel)
set_option maxRecDepth 20000 in
theorem obL : ∀ w ∈ (mlT.filter (fun q => q.2.2.1 == 999)).map (fun q => Cond.methodLink (cnm q.1) q.2.1 objectInit), w ∈ wsG := memG _ [396, 356, 184, 148, 418, 443, 154, 383, 321, 140, 1445, 1322] (by decide +kernel) (by decide +kernel)
set_option maxRecDepth 20000 in
theorem obW : ∀ w ∈ ([Cond.instanceMethod objectInit, Cond.code objectInit ⟨#[0xb1]⟩ 1 none] : List Cond), w ∈ wsG := memG _ [141, 142] (by decide +kernel) (by decide +kernel)
set_option maxRecDepth 20000 in
theorem slWt : slT.map (fun q => Cond.stringRef (cnm q.1) q.2.1 (stx q.2.2)) = ([539, 621, 651, 671, 684, 685, 605, 618, 619, 620, 705, 706, 1555, 1596, 1613, 1630, 1643, 1644, 1573, 1593, 1594, 1595, 1657, 1658] : List Nat).filterMap (fun i => lw_tbl[i]?) := by decide +kernel
theorem aoWt : lw_tbl[358]? = some (Cond.arrayOver (.object RX9)) := by decide +kernel
