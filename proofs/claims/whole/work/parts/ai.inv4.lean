/-! every call keeps what holds -/
theorem b_bI {b : Int32} (h : b = 0 ∨ b = 1) : ∃ a : Bool, b = bI a := by
  rcases h with h | h
  · exact ⟨false, h⟩
  · exact ⟨true, h⟩
section INV4
variable {z : Nat} {E : aEt} {n : Nat} {K N : Nat → Nat} {R : Nat → Nat → Option Nat} {I : Nat → Nat → Int32} {J : Nat → Nat → Int64} {lx : List Value → aH → aO} {p s f t t' hd nn m : Nat} {T : Nat → Nat} {F : Nat → Nat → Nat} {ρ : Nat → Nat} {cnt img : Nat} {H M : Nat → Nat → Nat}
theorem un_h (hC : Cm K N R I J n p s t hd T) (hu : Uw R I p) : K 0 = 9 ∧ K 132 = 11 ∧ R 0 8 = some p ∧ K p = 2 ∧ R 0 6 = some 108 ∧ K 108 = 4 ∧ R 132 3 = none ∧ I 0 10 = 0 ∧ I p 4 = 0 ∧ I p 7 = 0 ∧ I p 8 = 0 ∧ I 108 2 = 0 ∧ R 0 3 = some 23 ∧ R 0 1 = some 15 ∧ K 23 = 1 ∧ I 23 3 = 0 ∧ I 23 4 = 0 := by
  obtain ⟨c0, c1, c2, c3, c4, c5, c6, c7, c8, c9, c10, c11, c12, c13, c14, c15, c16, c17, c18, c19, c20, c21, c22, c23, c24, c25, c26, c27, c28, c29, c30, c31, c32, c33, c34, c35, c36, c37, c38, c39, c40, c41, c42, c43, c44, _⟩ := hC.1
  obtain ⟨u1, u2', u3, u4, u5, u6, u7⟩ := hu
  exact ⟨c0, hC.2.2.1.1, c9, hC.2.1.2.2.1.1, c7, c44, u1, u2', u3 4 (by decide), u3 7 (by decide), u3 8 (by decide), u7, c4, c2, c23, u5, u6⟩
theorem p_116 (v1 v2 v3 : Int32) : OpI z E (Iv z E) (Iv z E) 116 241 [.int v1, .int v2, .int v3] :=
  op_I (fun n K N R I J p s f F ρ cnt img H M h hS => OQ_T h (o_116 h.1 v1 v2 v3)) (fun n K N R I J p s t hd T hC hu => by
    obtain ⟨k0, km, rp, kp, rs, ks, fn, t0, w4, w7, w8, w2, r3, r1, k23, w23, w24⟩ := un_h hC hu
    exact ⟨1, -1, by decide, by decide, u_116 k0 km rp kp rs ks fn t0 w4 w7 w8 w2 v1 v2 v3, fun I2 J2 => u_241 km fn v1 v2 v3⟩)
theorem p_117 (v1 v2 : Int32) : OpI z E (Iv z E) (Iv z E) 117 242 [.int v1, .int v2] :=
  op_I (fun n K N R I J p s f F ρ cnt img H M h hS => OQ_T h (o_117 h.1 v1 v2)) (fun n K N R I J p s t hd T hC hu => by
    obtain ⟨k0, km, rp, kp, rs, ks, fn, t0, w4, w7, w8, w2, r3, r1, k23, w23, w24⟩ := un_h hC hu
    exact ⟨1, -1, by decide, by decide, u_117 k0 km rp kp rs ks fn t0 w4 w7 w8 w2 v1 v2, fun I2 J2 => u_242 km fn v1 v2⟩)
theorem p_118 (v1 : Int32) : OpI z E (Iv z E) (Iv z E) 118 243 [.int v1] :=
  op_I (fun n K N R I J p s f F ρ cnt img H M h hS => OQ_T h (o_118 h.1 v1)) (fun n K N R I J p s t hd T hC hu => by
    obtain ⟨k0, km, rp, kp, rs, ks, fn, t0, w4, w7, w8, w2, r3, r1, k23, w23, w24⟩ := un_h hC hu
    exact ⟨1, -1, by decide, by decide, u_118 k0 km rp kp rs ks fn t0 w4 w7 w8 w2 v1, fun I2 J2 => u_243 km fn v1⟩)
theorem p_119 : OpI z E (Iv z E) (Iv z E) 119 245 [] :=
  op_I (fun n K N R I J p s f F ρ cnt img H M h hS => OQ_T h (o_119 h.1 )) (fun n K N R I J p s t hd T hC hu => by
    obtain ⟨k0, km, rp, kp, rs, ks, fn, t0, w4, w7, w8, w2, r3, r1, k23, w23, w24⟩ := un_h hC hu
    exact ⟨1, -1, by decide, by decide, u_119 k0 km rp kp rs ks fn t0 w4 w7 w8 w2 , fun I2 J2 => u_245 km fn ⟩)
theorem p_120 (v1 v2 v3 v4 : Int32) : OpI z E (Iv z E) (Iv z E) 120 246 [.int v1, .int v2, .int v3, .int v4] :=
  op_I (fun n K N R I J p s f F ρ cnt img H M h hS => OQ_T h (o_120 h.1 v1 v2 v3 v4)) (fun n K N R I J p s t hd T hC hu => by
    obtain ⟨k0, km, rp, kp, rs, ks, fn, t0, w4, w7, w8, w2, r3, r1, k23, w23, w24⟩ := un_h hC hu
    exact ⟨1, -1, by decide, by decide, u_120 k0 km rp kp rs ks fn t0 w4 w7 w8 w2 v1 v2 v3 v4, fun I2 J2 => u_246 km fn v1 v2 v3 v4⟩)
theorem p_121 (v1 v2 : Int32) : OpI z E (Iv z E) (Iv z E) 121 247 [.int v1, .int v2] :=
  op_I (fun n K N R I J p s f F ρ cnt img H M h hS => OQ_T h (o_121 h.1 v1 v2)) (fun n K N R I J p s t hd T hC hu => by
    obtain ⟨k0, km, rp, kp, rs, ks, fn, t0, w4, w7, w8, w2, r3, r1, k23, w23, w24⟩ := un_h hC hu
    exact ⟨1, -1, by decide, by decide, u_121 k0 km rp kp rs ks fn t0 w4 w7 w8 w2 v1 v2, fun I2 J2 => u_247 km fn v1 v2⟩)
theorem p_122 (v1 : Int32) : OpI z E (Iv z E) (Iv z E) 122 248 [.int v1] :=
  op_I (fun n K N R I J p s f F ρ cnt img H M h hS => OQ_T h (o_122 h.1 v1)) (fun n K N R I J p s t hd T hC hu => by
    obtain ⟨k0, km, rp, kp, rs, ks, fn, t0, w4, w7, w8, w2, r3, r1, k23, w23, w24⟩ := un_h hC hu
    exact ⟨1, -1, by decide, by decide, u_122 k0 km rp kp rs ks fn t0 w4 w7 w8 w2 v1, fun I2 J2 => u_248 km fn v1⟩)
theorem p_123 (v1 : Int32) : OpI z E (Iv z E) (Iv z E) 123 249 [.int v1] :=
  op_I (fun n K N R I J p s f F ρ cnt img H M h hS => OQ_T h (o_123 h.1 v1)) (fun n K N R I J p s t hd T hC hu => by
    obtain ⟨k0, km, rp, kp, rs, ks, fn, t0, w4, w7, w8, w2, r3, r1, k23, w23, w24⟩ := un_h hC hu
    exact ⟨1, -1, by decide, by decide, u_123 k0 km rp kp rs ks fn t0 w4 w7 w8 w2 v1, fun I2 J2 => u_249 km fn v1⟩)
theorem p_124 (v1 v2 : Int32) : OpI z E (Iv z E) (Iv z E) 124 251 [.int v1, .int v2] :=
  op_I (fun n K N R I J p s f F ρ cnt img H M h hS => OQ_T h (o_124 h.1 v1 v2)) (fun n K N R I J p s t hd T hC hu => by
    obtain ⟨k0, km, rp, kp, rs, ks, fn, t0, w4, w7, w8, w2, r3, r1, k23, w23, w24⟩ := un_h hC hu
    exact ⟨1, -1, by decide, by decide, u_124 k0 km rp kp rs ks fn t0 w4 w7 w8 w2 v1 v2, fun I2 J2 => u_251 km fn v1 v2⟩)
theorem p_125 : OpI z E (Iv z E) (Iv z E) 125 254 [] :=
  op_I (fun n K N R I J p s f F ρ cnt img H M h hS => OQ_T h (o_125 h.1 )) (fun n K N R I J p s t hd T hC hu => by
    obtain ⟨k0, km, rp, kp, rs, ks, fn, t0, w4, w7, w8, w2, r3, r1, k23, w23, w24⟩ := un_h hC hu
    exact ⟨1, -1, by decide, by decide, u_125 k0 km rp kp rs ks fn t0 w4 w7 w8 w2 , fun I2 J2 => u_254 km fn ⟩)
theorem p_126 : OpI z E (Iv z E) (Iv z E) 126 255 [] :=
  op_I (fun n K N R I J p s f F ρ cnt img H M h hS => OQ_T h (o_126 h.1 )) (fun n K N R I J p s t hd T hC hu => by
    obtain ⟨k0, km, rp, kp, rs, ks, fn, t0, w4, w7, w8, w2, r3, r1, k23, w23, w24⟩ := un_h hC hu
    exact ⟨1, -1, by decide, by decide, u_126 k0 km rp kp rs ks fn t0 w4 w7 w8 w2 , fun I2 J2 => u_255 km fn ⟩)
theorem p_127 (v1 v2 : Int32) : OpI z E (Iv z E) (Iv z E) 127 257 [.int v1, .int v2] :=
  op_I (fun n K N R I J p s f F ρ cnt img H M h hS => OQ_T h (o_127 h.1 v1 v2)) (fun n K N R I J p s t hd T hC hu => by
    obtain ⟨k0, km, rp, kp, rs, ks, fn, t0, w4, w7, w8, w2, r3, r1, k23, w23, w24⟩ := un_h hC hu
    exact ⟨1, -1, by decide, by decide, u_127 k0 km rp kp rs ks fn t0 w4 w7 w8 w2 v1 v2, fun I2 J2 => u_257 km fn v1 v2⟩)
theorem p_128 (v1 : Int32) : OpI z E (Iv z E) (Iv z E) 128 258 [.int v1] :=
  op_I (fun n K N R I J p s f F ρ cnt img H M h hS => OQ_T h (o_128 h.1 v1)) (fun n K N R I J p s t hd T hC hu => by
    obtain ⟨k0, km, rp, kp, rs, ks, fn, t0, w4, w7, w8, w2, r3, r1, k23, w23, w24⟩ := un_h hC hu
    exact ⟨1, -1, by decide, by decide, u_128 k0 km rp kp rs ks fn t0 w4 w7 w8 w2 v1, fun I2 J2 => u_258 km fn v1⟩)
theorem p_129 (v1 v2 v3 v4 : Int32) : OpI z E (Iv z E) (Iv z E) 129 262 [.int v1, .int v2, .int v3, .int v4] :=
  op_I (fun n K N R I J p s f F ρ cnt img H M h hS => OQ_T h (o_129 h.1 v1 v2 v3 v4)) (fun n K N R I J p s t hd T hC hu => by
    obtain ⟨k0, km, rp, kp, rs, ks, fn, t0, w4, w7, w8, w2, r3, r1, k23, w23, w24⟩ := un_h hC hu
    exact ⟨1, -1, by decide, by decide, u_129 k0 km rp kp rs ks fn t0 w4 w7 w8 w2 v1 v2 v3 v4, fun I2 J2 => u_262 km fn v1 v2 v3 v4⟩)
theorem p_130 (v1 v2 v3 v4 : Int32) : OpI z E (Iv z E) (Iv z E) 130 263 [.int v1, .int v2, .int v3, .int v4] :=
  op_I (fun n K N R I J p s f F ρ cnt img H M h hS => OQ_T h (o_130 h.1 v1 v2 v3 v4)) (fun n K N R I J p s t hd T hC hu => by
    obtain ⟨k0, km, rp, kp, rs, ks, fn, t0, w4, w7, w8, w2, r3, r1, k23, w23, w24⟩ := un_h hC hu
    exact ⟨1, -1, by decide, by decide, u_130 k0 km rp kp rs ks fn t0 w4 w7 w8 w2 v1 v2 v3 v4, fun I2 J2 => u_263 km fn v1 v2 v3 v4⟩)
theorem p_131 (v1 : Int32) : OpI z E (Iv z E) (Iv z E) 131 264 [.int v1] :=
  op_I (fun n K N R I J p s f F ρ cnt img H M h hS => OQ_T h (o_131 h.1 v1)) (fun n K N R I J p s t hd T hC hu => by
    obtain ⟨k0, km, rp, kp, rs, ks, fn, t0, w4, w7, w8, w2, r3, r1, k23, w23, w24⟩ := un_h hC hu
    exact ⟨1, -1, by decide, by decide, u_131 k0 km rp kp rs ks fn t0 w4 w7 w8 w2 v1, fun I2 J2 => u_264 km fn v1⟩)
theorem p_132 (v1 v2 v3 : Int32) : OpI z E (Iv z E) (Iv z E) 132 265 [.int v1, .int v2, .int v3] :=
  op_I (fun n K N R I J p s f F ρ cnt img H M h hS => OQ_T h (o_132 h.1 v1 v2 v3)) (fun n K N R I J p s t hd T hC hu => by
    obtain ⟨k0, km, rp, kp, rs, ks, fn, t0, w4, w7, w8, w2, r3, r1, k23, w23, w24⟩ := un_h hC hu
    exact ⟨1, -1, by decide, by decide, u_132 k0 km rp kp rs ks fn t0 w4 w7 w8 w2 v1 v2 v3, fun I2 J2 => u_265 km fn v1 v2 v3⟩)
theorem p_133 : OpI z E (Iv z E) (Iv z E) 133 268 [] :=
  op_I (fun n K N R I J p s f F ρ cnt img H M h hS => OQ_T h (o_133 h.1 )) (fun n K N R I J p s t hd T hC hu => by
    obtain ⟨k0, km, rp, kp, rs, ks, fn, t0, w4, w7, w8, w2, r3, r1, k23, w23, w24⟩ := un_h hC hu
    exact ⟨1, -1, by decide, by decide, u_133 k0 km rp kp rs ks fn t0 w4 w7 w8 w2 , fun I2 J2 => u_268 km fn ⟩)
theorem p_134 (hc : ∀ (n : Nat) (K N : Nat → Nat) (R : Nat → Nat → Option Nat) (I : Nat → Nat → Int32) (J : Nat → Nat → Int64) (p s f : Nat) (F : Nat → Nat → Nat) (ρ : Nat → Nat), CW K N R I J p s F ρ → ∀ x : Int32, OQ lx_ z E n K N R I J f F ρ 134 274 [.int x]) (v1 : Int32) : OpI z E (Iv z E) (Iv z E) 134 274 [.int v1] :=
  op_I (fun n K N R I J p s f F ρ cnt img H M h hS => OQ_T h (hc n K N R I J p s f F ρ h.1 v1)) (fun n K N R I J p s t hd T hC hu => by
    obtain ⟨k0, km, rp, kp, rs, ks, fn, t0, w4, w7, w8, w2, r3, r1, k23, w23, w24⟩ := un_h hC hu
    exact ⟨1, -1, by decide, by decide, u_134 k0 km rp kp rs ks fn t0 w4 w7 w8 w2 v1, fun I2 J2 => u_274 km fn v1⟩)
theorem p_135 (v1 v2 v3 : Int32) : OpI z E (Iv z E) (Iv z E) 135 277 [.int v1, .int v2, .int v3] :=
  op_I (fun n K N R I J p s f F ρ cnt img H M h hS => OQ_T h (o_135 h.1 v1 v2 v3)) (fun n K N R I J p s t hd T hC hu => by
    obtain ⟨k0, km, rp, kp, rs, ks, fn, t0, w4, w7, w8, w2, r3, r1, k23, w23, w24⟩ := un_h hC hu
    exact ⟨1, -1, by decide, by decide, u_135 k0 km rp kp rs ks fn t0 w4 w7 w8 w2 v1 v2 v3, fun I2 J2 => u_277 km fn v1 v2 v3⟩)
theorem p_136 (v1 : Int32) : OpI z E (Iv z E) (Iv z E) 136 278 [.int v1] :=
  op_I (fun n K N R I J p s f F ρ cnt img H M h hS => OQ_T h (o_136 h.1 v1)) (fun n K N R I J p s t hd T hC hu => by
    obtain ⟨k0, km, rp, kp, rs, ks, fn, t0, w4, w7, w8, w2, r3, r1, k23, w23, w24⟩ := un_h hC hu
    exact ⟨1, -1, by decide, by decide, u_136 k0 km rp kp rs ks fn t0 w4 w7 w8 w2 v1, fun I2 J2 => u_278 km fn v1⟩)
theorem p_137 : OpI z E (Iv z E) (Iv z E) 137 282 [] :=
  op_I (fun n K N R I J p s f F ρ cnt img H M h hS => OQ_T h (o_137 h.1 hS )) (fun n K N R I J p s t hd T hC hu => by
    obtain ⟨k0, km, rp, kp, rs, ks, fn, t0, w4, w7, w8, w2, r3, r1, k23, w23, w24⟩ := un_h hC hu
    exact ⟨1, -1, by decide, by decide, u_137 k0 km rp kp rs ks fn t0 w4 w7 w8 w2 , fun I2 J2 => u_282 km fn ⟩)
theorem p_138 (v1 : Int32) : OpI z E (Iv z E) (Iv z E) 138 284 [.int v1] :=
  op_I (fun n K N R I J p s f F ρ cnt img H M h hS => OQ_T h (o_138 h.1 hS v1)) (fun n K N R I J p s t hd T hC hu => by
    obtain ⟨k0, km, rp, kp, rs, ks, fn, t0, w4, w7, w8, w2, r3, r1, k23, w23, w24⟩ := un_h hC hu
    exact ⟨1, -1, by decide, by decide, u_138 k0 km rp kp rs ks fn t0 w4 w7 w8 w2 v1, fun I2 J2 => u_284 km fn v1⟩)
theorem p_139 (v1 : Int32) : OpI z E (Iv z E) (Iv z E) 139 285 [.int v1] :=
  op_I (fun n K N R I J p s f F ρ cnt img H M h hS => OQ_T h (o_139 h.1 hS v1)) (fun n K N R I J p s t hd T hC hu => by
    obtain ⟨k0, km, rp, kp, rs, ks, fn, t0, w4, w7, w8, w2, r3, r1, k23, w23, w24⟩ := un_h hC hu
    exact ⟨1, -1, by decide, by decide, u_139 k0 km rp kp rs ks fn t0 w4 w7 w8 w2 v1, fun I2 J2 => u_285 km fn v1⟩)
theorem p_140 (v1 v2 v3 : Int32) : OpI z E (Iv z E) (Iv z E) 140 287 [.int v1, .int v2, .int v3] :=
  op_I (fun n K N R I J p s f F ρ cnt img H M h hS => OQ_T h (o_140 h.1 hS v1 v2 v3)) (fun n K N R I J p s t hd T hC hu => by
    obtain ⟨k0, km, rp, kp, rs, ks, fn, t0, w4, w7, w8, w2, r3, r1, k23, w23, w24⟩ := un_h hC hu
    exact ⟨1, -1, by decide, by decide, u_140 k0 km rp kp rs ks fn t0 w4 w7 w8 w2 v1 v2 v3, fun I2 J2 => u_287 km fn v1 v2 v3⟩)
theorem p_141 (v1 : Int32) : OpI z E (Iv z E) (Iv z E) 141 288 [.int v1] :=
  op_I (fun n K N R I J p s f F ρ cnt img H M h hS => OQ_T h (o_141 h.1 hS v1)) (fun n K N R I J p s t hd T hC hu => by
    obtain ⟨k0, km, rp, kp, rs, ks, fn, t0, w4, w7, w8, w2, r3, r1, k23, w23, w24⟩ := un_h hC hu
    exact ⟨1, -1, by decide, by decide, u_141 k0 km rp kp rs ks fn t0 w4 w7 w8 w2 v1, fun I2 J2 => u_288 km fn v1⟩)
theorem p_142 (v1 : Int32) : OpI z E (Iv z E) (Iv z E) 142 290 [.int v1] :=
  op_I (fun n K N R I J p s f F ρ cnt img H M h hS => OQ_T h (o_142 h.1 hS v1)) (fun n K N R I J p s t hd T hC hu => by
    obtain ⟨k0, km, rp, kp, rs, ks, fn, t0, w4, w7, w8, w2, r3, r1, k23, w23, w24⟩ := un_h hC hu
    exact ⟨1, -1, by decide, by decide, u_142 k0 km rp kp rs ks fn t0 w4 w7 w8 w2 v1, fun I2 J2 => u_290 km fn v1⟩)
theorem p_143 (v1 : Int32) : OpI z E (Iv z E) (Iv z E) 143 291 [.int v1] :=
  op_I (fun n K N R I J p s f F ρ cnt img H M h hS => OQ_T h (o_143 h.1 hS v1)) (fun n K N R I J p s t hd T hC hu => by
    obtain ⟨k0, km, rp, kp, rs, ks, fn, t0, w4, w7, w8, w2, r3, r1, k23, w23, w24⟩ := un_h hC hu
    exact ⟨1, -1, by decide, by decide, u_143 k0 km rp kp rs ks fn t0 w4 w7 w8 w2 v1, fun I2 J2 => u_291 km fn v1⟩)
theorem p_144 (v1 v2 : Int32) : OpI z E (Iv z E) (Iv z E) 144 292 [.int v1, .int v2] :=
  op_I (fun n K N R I J p s f F ρ cnt img H M h hS => OQ_T h (o_144 h.1 hS v1 v2)) (fun n K N R I J p s t hd T hC hu => by
    obtain ⟨k0, km, rp, kp, rs, ks, fn, t0, w4, w7, w8, w2, r3, r1, k23, w23, w24⟩ := un_h hC hu
    exact ⟨1, -1, by decide, by decide, u_144 k0 km rp kp rs ks fn t0 w4 w7 w8 w2 v1 v2, fun I2 J2 => u_292 km fn v1 v2⟩)
theorem p_146 (v1 : Int32) : OpI z E (Iv z E) (Iv z E) 146 297 [.int v1] :=
  op_I (fun n K N R I J p s f F ρ cnt img H M h hS => OQ_T h (o_146 h.1 v1)) (fun n K N R I J p s t hd T hC hu => by
    obtain ⟨k0, km, rp, kp, rs, ks, fn, t0, w4, w7, w8, w2, r3, r1, k23, w23, w24⟩ := un_h hC hu
    exact ⟨1, -1, by decide, by decide, u_146 k0 km rp kp rs ks fn t0 w4 w7 w8 w2 v1, fun I2 J2 => u_297 km fn v1⟩)
theorem p_147 (v1 : Int32) : OpI z E (Iv z E) (Iv z E) 147 298 [.int v1] :=
  op_I (fun n K N R I J p s f F ρ cnt img H M h hS => OQ_T h (o_147 h.1 v1)) (fun n K N R I J p s t hd T hC hu => by
    obtain ⟨k0, km, rp, kp, rs, ks, fn, t0, w4, w7, w8, w2, r3, r1, k23, w23, w24⟩ := un_h hC hu
    exact ⟨1, -1, by decide, by decide, u_147 k0 km rp kp rs ks fn t0 w4 w7 w8 w2 v1, fun I2 J2 => u_298 km fn v1⟩)
theorem p_150 (v1 : Int32) : OpI z E (Iv z E) (Iv z E) 150 302 [.int v1] :=
  op_I (fun n K N R I J p s f F ρ cnt img H M h hS => OQ_T h (o_150 h.1 v1)) (fun n K N R I J p s t hd T hC hu => by
    obtain ⟨k0, km, rp, kp, rs, ks, fn, t0, w4, w7, w8, w2, r3, r1, k23, w23, w24⟩ := un_h hC hu
    exact ⟨1, -1, by decide, by decide, u_150 k0 km rp kp rs ks fn t0 w4 w7 w8 w2 v1, fun I2 J2 => u_302 km fn v1⟩)
theorem p_151 : OpI z E (Iv z E) (Iv z E) 151 305 [] :=
  op_I (fun n K N R I J p s f F ρ cnt img H M h hS => o_151 h) (fun n K N R I J p s t hd T hC hu => by
    obtain ⟨k0, km, rp, kp, rs, ks, fn, t0, w4, w7, w8, w2, r3, r1, k23, w23, w24⟩ := un_h hC hu
    exact ⟨1, -1, by decide, by decide, u_151 k0 km rp kp rs ks fn t0 w4 w7 w8 w2 , fun I2 J2 => u_305 km fn ⟩)
theorem p_152 (v1 v2 v3 : Int32) : OpI z E (Iv z E) (Iv z E) 152 306 [.int v1, .int v2, .int v3] :=
  op_I (fun n K N R I J p s f F ρ cnt img H M h hS => o_152 h v1 v2 v3) (fun n K N R I J p s t hd T hC hu => by
    obtain ⟨k0, km, rp, kp, rs, ks, fn, t0, w4, w7, w8, w2, r3, r1, k23, w23, w24⟩ := un_h hC hu
    exact ⟨1, -1, by decide, by decide, u_152 k0 km rp kp rs ks fn t0 w4 w7 w8 w2 v1 v2 v3, fun I2 J2 => u_306 km fn v1 v2 v3⟩)
theorem p_153 (v1 v2 v3 : Int32) : OpI z E (Iv z E) (Iv z E) 153 307 [.int v1, .int v2, .int v3] :=
  op_I (fun n K N R I J p s f F ρ cnt img H M h hS => o_153 h v1 v2 v3) (fun n K N R I J p s t hd T hC hu => by
    obtain ⟨k0, km, rp, kp, rs, ks, fn, t0, w4, w7, w8, w2, r3, r1, k23, w23, w24⟩ := un_h hC hu
    exact ⟨1, -1, by decide, by decide, u_153 k0 km rp kp rs ks fn t0 w4 w7 w8 w2 v1 v2 v3, fun I2 J2 => u_307 km fn v1 v2 v3⟩)
theorem p_154 : OpI z E (Iv z E) (Iv z E) 154 308 [] :=
  op_I (fun n K N R I J p s f F ρ cnt img H M h hS => o_154 h) (fun n K N R I J p s t hd T hC hu => by
    obtain ⟨k0, km, rp, kp, rs, ks, fn, t0, w4, w7, w8, w2, r3, r1, k23, w23, w24⟩ := un_h hC hu
    exact ⟨6, 0, by decide, by decide, u_154 k0 r3 r1 k23 w23, fun I2 J2 => u_308 km fn⟩)
theorem p_155 : OpI z E (Iv z E) (Iv z E) 155 309 [] :=
  op_I (fun n K N R I J p s f F ρ cnt img H M h hS => o_155 h) (fun n K N R I J p s t hd T hC hu => by
    obtain ⟨k0, km, rp, kp, rs, ks, fn, t0, w4, w7, w8, w2, r3, r1, k23, w23, w24⟩ := un_h hC hu
    exact ⟨1, -1, by decide, by decide, u_155 k0 km rp kp rs ks fn t0 w4 w7 w8 w2 , fun I2 J2 => u_309 km fn ⟩)
theorem p_156 (v1 : Int32) : OpI z E (Iv z E) (Iv z E) 156 310 [.int v1] :=
  op_I (fun n K N R I J p s f F ρ cnt img H M h hS => o_156 h v1) (fun n K N R I J p s t hd T hC hu => by
    obtain ⟨k0, km, rp, kp, rs, ks, fn, t0, w4, w7, w8, w2, r3, r1, k23, w23, w24⟩ := un_h hC hu
    exact ⟨1, 0, by decide, by decide, u_156 k0 r3 r1 k23 w24 v1, fun I2 J2 => u_310 km fn v1⟩)
theorem p_145 (x : Int32) (a b c : Bool) : OpI z E (Iv z E) (Iv z E) 145 295 [.int x, .int (bI a), .int (bI b), .int (bI c)] :=
  op_I (fun n K N R I J p s f F ρ cnt img H M h hS => OQ_T h (o_145 h.1 x a b c)) (fun n K N R I J p s t hd T hC hu => by
    obtain ⟨k0, km, rp, kp, rs, ks, fn, t0, w4, w7, w8, w2, r3, r1, k23, w23, w24⟩ := un_h hC hu
    exact ⟨1, -100, by decide, by decide, u_145 k0 km rp kp rs ks fn t0 w4 w7 w8 w2 x (bI a) (bI b) (bI c), fun I2 J2 => u_295 km fn x (bI a) (bI b) (bI c)⟩)
theorem p_148 (x : Int32) (a : Bool) : OpJ z E (Iv z E) (Iv z E) 148 300 [.int x, .int (bI a)] :=
  op_J (fun n K N R I J p s f F ρ cnt img H M h hS => OJ_T h (o_148 h.1 x a)) (fun n K N R I J p s t hd T hC hu => by
    obtain ⟨k0, km, rp, kp, rs, ks, fn, t0, w4, w7, w8, w2, r3, r1, k23, w23, w24⟩ := un_h hC hu
    exact ⟨1, -1, by decide, by decide, u_148 k0 km rp kp rs ks fn t0 w4 w7 w8 w2 x (bI a), fun I2 J2 => u_300 km fn x (bI a)⟩)
theorem p_149 (a : Bool) : OpJ z E (Iv z E) (Iv z E) 149 301 [.int (bI a)] :=
  op_J (fun n K N R I J p s f F ρ cnt img H M h hS => OJ_T h (o_149 h.1 a)) (fun n K N R I J p s t hd T hC hu => by
    obtain ⟨k0, km, rp, kp, rs, ks, fn, t0, w4, w7, w8, w2, r3, r1, k23, w23, w24⟩ := un_h hC hu
    exact ⟨1, -1, by decide, by decide, u_149 k0 km rp kp rs ks fn t0 w4 w7 w8 w2 (bI a), fun I2 J2 => u_301 km fn (bI a)⟩)
theorem ops_ok (hE : EOk E) (hc : ∀ (n : Nat) (K N : Nat → Nat) (R : Nat → Nat → Option Nat) (I : Nat → Nat → Int32) (J : Nat → Nat → Int64) (p s f : Nat) (F : Nat → Nat → Nat) (ρ : Nat → Nat), CW K N R I J p s F ρ → ∀ x : Int32, OQ lx_ z E n K N R I J f F ρ 134 274 [.int x]) : Ops z E (Iv z E) (Iv z E) := fun v1 v2 v3 v4 v5 =>
  ⟨p_112 v1 v2 v3 v4 v5, p_113 hE v1, p_114, p_115, p_116 v1 v2 v3, p_117 v1 v2, p_118 v1, p_119, p_120 v1 v2 v3 v4, p_121 v1 v2, p_122 v1, p_123 v1, p_124 v1 v2, p_125, p_126, p_127 v1 v2, p_128 v1, p_129 v1 v2 v3 v4, p_130 v1 v2 v3 v4, p_131 v1, p_132 v1 v2 v3, p_133, p_134 hc v1, p_135 v1 v2 v3, p_136 v1, p_137, p_138 v1, p_139 v1, p_140 v1 v2 v3, p_141 v1, p_142 v1, p_143 v1, p_144 v1 v2, p_146 v1, p_147 v1, p_150 v1, p_151, p_152 v1 v2 v3, p_153 v1 v2 v3, p_154, p_155, p_156 v1, p_157 v1, p_158, fun b1 b2 b3 x1 x2 x3 => by
    obtain ⟨a, rfl⟩ := b_bI x1
    obtain ⟨b, rfl⟩ := b_bI x2
    obtain ⟨c, rfl⟩ := b_bI x3
    exact p_145 v1 a b c, fun b1 x1 => by
    obtain ⟨a, rfl⟩ := b_bI x1
    exact p_148 v1 a, fun b1 x1 => by
    obtain ⟨a, rfl⟩ := b_bI x1
    exact p_149 a, p_led v1, fun S h => h⟩
end INV4
theorem cl_0 : CL K0_ N0_ R0_ 114 123 := by
  unfold CL
  (repeat' apply And.intro) <;> decide +kernel
theorem wk_0 : ∀ i, i < 16 → R0_ 24 i = some (26 + 4 * i) ∧ Wk K0_ N0_ R0_ (26 + 4 * i) := by unfold Wk; decide +kernel
theorem wk_1 : ∀ i, i < 3 → R0_ 25 i = some (90 + 4 * i) ∧ Wk K0_ N0_ R0_ (90 + 4 * i) := by unfold Wk; decide +kernel
theorem wk_2 : Wk K0_ N0_ R0_ 15 := by unfold Wk; decide +kernel
theorem wk_3 : Wk K0_ N0_ R0_ 19 := by unfold Wk; decide +kernel
theorem pl_0 : Pl K0_ N0_ R0_ 114 := by
  unfold Pl
  (repeat' apply And.intro) <;> decide +kernel
theorem pl_1 : Pl K0_ N0_ R0_ 123 := by
  unfold Pl
  (repeat' apply And.intro) <;> decide +kernel
theorem clw_0 : CLw K0_ N0_ R0_ 114 123 := ⟨wk_2, wk_3, pl_0, pl_1, Or.inl ⟨rfl, rfl⟩, wk_0, wk_1⟩
theorem mo_0 : Mo K0_ N0_ R0_ := by
  unfold Mo
  (repeat' apply And.intro) <;> decide +kernel
theorem Iv_ini (z : Nat) (E : aEt) : Iv z E (St z E 147 K0_ N0_ R0_ I0_ (fun _ _ => 0)) := by
  refine ⟨147, K0_, N0_, R0_, I0_, fun _ _ => 0, 114, 123, 0, 0, fun _ => 0, rfl, ⟨cl_0, clw_0, mo_0, by decide +kernel, by decide, fr_0.s, ⟨0, by decide, rfl⟩, by decide, rfl, rfl, fun h => absurd h (by decide), fun _ => rfl, rfl, by decide, rfl, rfl, fun k hk => by omega⟩, Or.inr ⟨by decide +kernel, rfl, fun j hj => rfl, rfl, rfl, rfl, rfl⟩⟩
theorem law_of (hc : ∀ (z : Nat) (E : aEt) (n : Nat) (K N : Nat → Nat) (R : Nat → Nat → Option Nat) (I : Nat → Nat → Int32) (J : Nat → Nat → Int64) (p s f : Nat) (F : Nat → Nat → Nat) (ρ : Nat → Nat), CW K N R I J p s F ρ → ∀ x : Int32, OQ lx_ z E n K N R I J f F ρ 134 274 [.int x]) : LawOk := by
  intro z g b L xs hL hg
  have hE : EOk (g, b, L, xs) := hg
  obtain ⟨S2, h⟩ := law_loop (z := z) (g := g) (b0 := b) (L := L) (xs := xs) (Iv := fun _ => Iv z (g, b, L, xs)) (fun i S h => Iv_B h) (M := 512) (fun i hi => ops_ok hE (hc z (g, b, L, xs))) hL (by omega) 512 0 (600877, 7285489) (St z (g, b, L, xs) 147 K0_ N0_ R0_ I0_ (fun _ _ => 0)) (by omega) (by decide) (by decide) (by decide) (Iv_ini z _)
  refine ⟨S2, ?_⟩
  rw [S0_St]
  exact pre_law (lx := lx_) (z := z) (l0 := b) (r := (some (.int 1), S2)) h
