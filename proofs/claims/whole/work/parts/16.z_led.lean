def k_316 : List aM := [(.iconst 0, (0, 0, 0, 0), 0, 0, []),
  (.istore_n 2, (2, 0, 0, 0), 0, 0, []),
  (.iconst 0, (0, 0, 0, 0), 0, 0, []),
  (.istore_n 3, (3, 0, 0, 0), 0, 0, []),
  (.nop, (0, 0, 0, 0), 0, 0, [(0, 1), (0, 1), (0, 1), (0, 1)]),
  (.iload_n 3, (3, 0, 0, 0), 0, 0, []),
  (.aload_n 0, (0, 0, 0, 0), 0, 0, []),
  (.getfield 64, (9, 8, 2, 0), 0, 0, []),
  (.getfield 120, (2, 8, 0, 0), 0, 0, []),
  (.if_icmp .ge 30, (23, 0, 0, 0), 0, 0, []),
  (.aload_n 0, (0, 0, 0, 0), 0, 0, []),
  (.getfield 19, (9, 1, 2, 0), 0, 0, []),
  (.iload_n 3, (3, 0, 0, 0), 0, 0, []),
  (.invokevirtual 351, (102, 2, 1, 8), 0, 0, []),
  (.ifCond .ne 13, (21, 0, 0, 0), 0, 0, []),
  (.iload_n 2, (2, 0, 0, 0), 0, 0, []),
  (.iload_n 1, (1, 0, 0, 0), 0, 0, []),
  (.if_icmp .ne 5, (20, 0, 0, 0), 0, 0, []),
  (.iload_n 3, (3, 0, 0, 0), 0, 0, []),
  (.ireturn, (0, 0, 0, 0), 0, 0, []),
  (.iinc 2 1, (2, 0, 0, 0), 1, 0, []),
  (.iinc 3 1, (3, 0, 0, 0), 1, 0, []),
  (.goto (-35), (4, 0, 0, 0), 0, 0, []),
  (.nop, (7, 0, 0, 0), 0, 0, [])]
def q_316 : List Nat := [0, 1, 2, 3, 4, 4, 5, 6, 9, 12, 15, 16, 19, 20, 23, 26, 27, 28, 31, 32, 33, 36, 39, 42, 42]
def m_316 : aMt := (yX10_led, cX10_led, 4, (some .int), 10, 8, 350, (1, 6), 1, k_316, q_316)
set_option maxRecDepth 100000 in
theorem ok_316 : chkT m_316 = true := by decide +kernel
theorem metaL_len : metaL.length = 316 := by decide +kernel
def mGx (id : Nat) : aMt := if id = 316 then m_316 else mG id
theorem mGx_of {id : Nat} (h : id < metaL.length) : mGx id = mG id := by
  unfold mGx; rw [if_neg (by rw [metaL_len] at h; omega)]
theorem mGx_ok {id : Nat} (h : id < 317) : chkT (mGx id) = true := by
  by_cases h6 : id = 316
  · subst h6; exact ok_316
  · rw [mGx_of (by rw [metaL_len]; omega)]; exact mG_ok (by rw [metaL_len]; omega)
