set_option maxHeartbeats 4000000 in
theorem bd_step {l : Launch} {D : va_G} {cy : Nat → ClassId} {adV : Nat → Nat} {E : aEt} {lx : List Value → aH → aO} (hx3 : Xs l D cy adV E lx 903) (hx4 : Xs l D cy adV E lx 904) (hx5 : Xs l D cy adV E lx 905) {n : Nat} (hB : Bd l D cy adV E lx n) : Bd l D cy adV E lx (n + 1) := by
  intro id hid p e R s m args below meth c A Q v S' hcx hrt k ls st b S H locs cu su Lc h hlh hW hS hEe hrc hrs
  have ih : IhI l D cy E lx n id (mGx id) p e R s m args below meth c A Q v S' := hB id hid p e R s m args below meth c A Q v S' hcx hrt
  have hok := mGx_ok hid
  unfold chkT at hok
  simp only [Bool.and_eq_true, decide_eq_true_eq] at hok
  obtain ⟨⟨⟨⟨-, hcn⟩, -⟩, -⟩, hcl⟩ := hok
  simp only [am] at h
  cases hi : cg_ (aCode id) k with
  | none => rw [hi] at h; cases h
  | some i =>
  rw [hi] at h
  have hck := chkL_get (mGx id) (tC (mGx id)) 0 k i hcl hi
  rw [Nat.zero_add] at hck
  have hi9 : cg_ (tC (mGx id)) k = some i := hi
  have h : ex1 i k ls st b S (am aCode aML aMb (xtF lx) n id) (ClI lx n) = some (v, S') := h
  obtain ⟨ins, ⟨u, w1, w, z⟩, cst, d, ts⟩ := i
  cases ins with
  | iload_n j => exact st_iload_n j id (mGx id) p e R s m args below meth c A Q v S' hcx hrt hcn ih k ls st b S H locs cu su Lc u w1 w z cst d ts hi9 hck h hlh hW hS hEe hrc hrs
  | lload_n j => exact st_lload_n j id (mGx id) p e R s m args below meth c A Q v S' hcx hrt hcn ih k ls st b S H locs cu su Lc u w1 w z cst d ts hi9 hck h hlh hW hS hEe hrc hrs
  | aload_n j => exact st_aload_n j id (mGx id) p e R s m args below meth c A Q v S' hcx hrt hcn ih k ls st b S H locs cu su Lc u w1 w z cst d ts hi9 hck h hlh hW hS hEe hrc hrs
  | iload j => exact st_iload j id (mGx id) p e R s m args below meth c A Q v S' hcx hrt hcn ih k ls st b S H locs cu su Lc u w1 w z cst d ts hi9 hck h hlh hW hS hEe hrc hrs
  | lload j => exact st_lload j id (mGx id) p e R s m args below meth c A Q v S' hcx hrt hcn ih k ls st b S H locs cu su Lc u w1 w z cst d ts hi9 hck h hlh hW hS hEe hrc hrs
  | aload j => exact st_aload j id (mGx id) p e R s m args below meth c A Q v S' hcx hrt hcn ih k ls st b S H locs cu su Lc u w1 w z cst d ts hi9 hck h hlh hW hS hEe hrc hrs
  | istore_n j => exact st_istore_n j id (mGx id) p e R s m args below meth c A Q v S' hcx hrt hcn ih k ls st b S H locs cu su Lc u w1 w z cst d ts hi9 hck h hlh hW hS hEe hrc hrs
  | lstore_n j => exact st_lstore_n j id (mGx id) p e R s m args below meth c A Q v S' hcx hrt hcn ih k ls st b S H locs cu su Lc u w1 w z cst d ts hi9 hck h hlh hW hS hEe hrc hrs
  | astore_n j => exact st_astore_n j id (mGx id) p e R s m args below meth c A Q v S' hcx hrt hcn ih k ls st b S H locs cu su Lc u w1 w z cst d ts hi9 hck h hlh hW hS hEe hrc hrs
  | istore j => exact st_istore j id (mGx id) p e R s m args below meth c A Q v S' hcx hrt hcn ih k ls st b S H locs cu su Lc u w1 w z cst d ts hi9 hck h hlh hW hS hEe hrc hrs
  | lstore j => exact st_lstore j id (mGx id) p e R s m args below meth c A Q v S' hcx hrt hcn ih k ls st b S H locs cu su Lc u w1 w z cst d ts hi9 hck h hlh hW hS hEe hrc hrs
  | astore j => exact st_astore j id (mGx id) p e R s m args below meth c A Q v S' hcx hrt hcn ih k ls st b S H locs cu su Lc u w1 w z cst d ts hi9 hck h hlh hW hS hEe hrc hrs
  | iinc j y => exact st_iinc j y id (mGx id) p e R s m args below meth c A Q v S' hcx hrt hcn ih k ls st b S H locs cu su Lc u w1 w z cst d ts hi9 hck h hlh hW hS hEe hrc hrs
  | iconst y => exact st_iconst y id (mGx id) p e R s m args below meth c A Q v S' hcx hrt hcn ih k ls st b S H locs cu su Lc u w1 w z cst d ts hi9 hck h hlh hW hS hEe hrc hrs
  | bipush y => exact st_bipush y id (mGx id) p e R s m args below meth c A Q v S' hcx hrt hcn ih k ls st b S H locs cu su Lc u w1 w z cst d ts hi9 hck h hlh hW hS hEe hrc hrs
  | sipush y => exact st_sipush y id (mGx id) p e R s m args below meth c A Q v S' hcx hrt hcn ih k ls st b S H locs cu su Lc u w1 w z cst d ts hi9 hck h hlh hW hS hEe hrc hrs
  | lconst y => exact st_lconst y id (mGx id) p e R s m args below meth c A Q v S' hcx hrt hcn ih k ls st b S H locs cu su Lc u w1 w z cst d ts hi9 hck h hlh hW hS hEe hrc hrs
  | ldc y => exact st_ldc y id (mGx id) p e R s m args below meth c A Q v S' hcx hrt hcn ih k ls st b S H locs cu su Lc u w1 w z cst d ts hi9 hck h hlh hW hS hEe hrc hrs
  | ldc_w y => exact st_ldc_w y id (mGx id) p e R s m args below meth c A Q v S' hcx hrt hcn ih k ls st b S H locs cu su Lc u w1 w z cst d ts hi9 hck h hlh hW hS hEe hrc hrs
  | ldc2_w y => exact st_ldc2_w y id (mGx id) p e R s m args below meth c A Q v S' hcx hrt hcn ih k ls st b S H locs cu su Lc u w1 w z cst d ts hi9 hck h hlh hW hS hEe hrc hrs
  | iadd  => exact st_iadd  id (mGx id) p e R s m args below meth c A Q v S' hcx hrt hcn ih k ls st b S H locs cu su Lc u w1 w z cst d ts hi9 hck h hlh hW hS hEe hrc hrs
  | isub  => exact st_isub  id (mGx id) p e R s m args below meth c A Q v S' hcx hrt hcn ih k ls st b S H locs cu su Lc u w1 w z cst d ts hi9 hck h hlh hW hS hEe hrc hrs
  | imul  => exact st_imul  id (mGx id) p e R s m args below meth c A Q v S' hcx hrt hcn ih k ls st b S H locs cu su Lc u w1 w z cst d ts hi9 hck h hlh hW hS hEe hrc hrs
  | iand  => exact st_iand  id (mGx id) p e R s m args below meth c A Q v S' hcx hrt hcn ih k ls st b S H locs cu su Lc u w1 w z cst d ts hi9 hck h hlh hW hS hEe hrc hrs
  | ior  => exact st_ior  id (mGx id) p e R s m args below meth c A Q v S' hcx hrt hcn ih k ls st b S H locs cu su Lc u w1 w z cst d ts hi9 hck h hlh hW hS hEe hrc hrs
  | ixor  => exact st_ixor  id (mGx id) p e R s m args below meth c A Q v S' hcx hrt hcn ih k ls st b S H locs cu su Lc u w1 w z cst d ts hi9 hck h hlh hW hS hEe hrc hrs
  | ishl  => exact st_ishl  id (mGx id) p e R s m args below meth c A Q v S' hcx hrt hcn ih k ls st b S H locs cu su Lc u w1 w z cst d ts hi9 hck h hlh hW hS hEe hrc hrs
  | ishr  => exact st_ishr  id (mGx id) p e R s m args below meth c A Q v S' hcx hrt hcn ih k ls st b S H locs cu su Lc u w1 w z cst d ts hi9 hck h hlh hW hS hEe hrc hrs
  | idiv  => exact st_idiv  id (mGx id) p e R s m args below meth c A Q v S' hcx hrt hcn ih k ls st b S H locs cu su Lc u w1 w z cst d ts hi9 hck h hlh hW hS hEe hrc hrs
  | irem  => exact st_irem  id (mGx id) p e R s m args below meth c A Q v S' hcx hrt hcn ih k ls st b S H locs cu su Lc u w1 w z cst d ts hi9 hck h hlh hW hS hEe hrc hrs
  | iushr  => exact st_iushr  id (mGx id) p e R s m args below meth c A Q v S' hcx hrt hcn ih k ls st b S H locs cu su Lc u w1 w z cst d ts hi9 hck h hlh hW hS hEe hrc hrs
  | ladd  => exact st_ladd  id (mGx id) p e R s m args below meth c A Q v S' hcx hrt hcn ih k ls st b S H locs cu su Lc u w1 w z cst d ts hi9 hck h hlh hW hS hEe hrc hrs
  | lsub  => exact st_lsub  id (mGx id) p e R s m args below meth c A Q v S' hcx hrt hcn ih k ls st b S H locs cu su Lc u w1 w z cst d ts hi9 hck h hlh hW hS hEe hrc hrs
  | lmul  => exact st_lmul  id (mGx id) p e R s m args below meth c A Q v S' hcx hrt hcn ih k ls st b S H locs cu su Lc u w1 w z cst d ts hi9 hck h hlh hW hS hEe hrc hrs
  | land  => exact st_land  id (mGx id) p e R s m args below meth c A Q v S' hcx hrt hcn ih k ls st b S H locs cu su Lc u w1 w z cst d ts hi9 hck h hlh hW hS hEe hrc hrs
  | lor  => exact st_lor  id (mGx id) p e R s m args below meth c A Q v S' hcx hrt hcn ih k ls st b S H locs cu su Lc u w1 w z cst d ts hi9 hck h hlh hW hS hEe hrc hrs
  | lxor  => exact st_lxor  id (mGx id) p e R s m args below meth c A Q v S' hcx hrt hcn ih k ls st b S H locs cu su Lc u w1 w z cst d ts hi9 hck h hlh hW hS hEe hrc hrs
  | ldiv  => exact st_ldiv  id (mGx id) p e R s m args below meth c A Q v S' hcx hrt hcn ih k ls st b S H locs cu su Lc u w1 w z cst d ts hi9 hck h hlh hW hS hEe hrc hrs
  | lrem  => exact st_lrem  id (mGx id) p e R s m args below meth c A Q v S' hcx hrt hcn ih k ls st b S H locs cu su Lc u w1 w z cst d ts hi9 hck h hlh hW hS hEe hrc hrs
  | lshl  => exact st_lshl  id (mGx id) p e R s m args below meth c A Q v S' hcx hrt hcn ih k ls st b S H locs cu su Lc u w1 w z cst d ts hi9 hck h hlh hW hS hEe hrc hrs
  | lshr  => exact st_lshr  id (mGx id) p e R s m args below meth c A Q v S' hcx hrt hcn ih k ls st b S H locs cu su Lc u w1 w z cst d ts hi9 hck h hlh hW hS hEe hrc hrs
  | lushr  => exact st_lushr  id (mGx id) p e R s m args below meth c A Q v S' hcx hrt hcn ih k ls st b S H locs cu su Lc u w1 w z cst d ts hi9 hck h hlh hW hS hEe hrc hrs
  | lcmp  => exact st_lcmp  id (mGx id) p e R s m args below meth c A Q v S' hcx hrt hcn ih k ls st b S H locs cu su Lc u w1 w z cst d ts hi9 hck h hlh hW hS hEe hrc hrs
  | ineg  => exact st_ineg  id (mGx id) p e R s m args below meth c A Q v S' hcx hrt hcn ih k ls st b S H locs cu su Lc u w1 w z cst d ts hi9 hck h hlh hW hS hEe hrc hrs
  | i2l  => exact st_i2l  id (mGx id) p e R s m args below meth c A Q v S' hcx hrt hcn ih k ls st b S H locs cu su Lc u w1 w z cst d ts hi9 hck h hlh hW hS hEe hrc hrs
  | l2i  => exact st_l2i  id (mGx id) p e R s m args below meth c A Q v S' hcx hrt hcn ih k ls st b S H locs cu su Lc u w1 w z cst d ts hi9 hck h hlh hW hS hEe hrc hrs
  | i2b  => exact st_i2b  id (mGx id) p e R s m args below meth c A Q v S' hcx hrt hcn ih k ls st b S H locs cu su Lc u w1 w z cst d ts hi9 hck h hlh hW hS hEe hrc hrs
  | dup  => exact st_dup  id (mGx id) p e R s m args below meth c A Q v S' hcx hrt hcn ih k ls st b S H locs cu su Lc u w1 w z cst d ts hi9 hck h hlh hW hS hEe hrc hrs
  | dup2  => exact st_dup2  id (mGx id) p e R s m args below meth c A Q v S' hcx hrt hcn ih k ls st b S H locs cu su Lc u w1 w z cst d ts hi9 hck h hlh hW hS hEe hrc hrs
  | pop  => exact st_pop  id (mGx id) p e R s m args below meth c A Q v S' hcx hrt hcn ih k ls st b S H locs cu su Lc u w1 w z cst d ts hi9 hck h hlh hW hS hEe hrc hrs
  | getfield y => exact st_getfield y id (mGx id) p e R s m args below meth c A Q v S' hcx hrt hcn ih k ls st b S H locs cu su Lc u w1 w z cst d ts hi9 hck h hlh hW hS hEe hrc hrs
  | putfield y => exact st_putfield y id (mGx id) p e R s m args below meth c A Q v S' hcx hrt hcn ih k ls st b S H locs cu su Lc u w1 w z cst d ts hi9 hck h hlh hW hS hEe hrc hrs
  | iaload  => exact st_iaload  id (mGx id) p e R s m args below meth c A Q v S' hcx hrt hcn ih k ls st b S H locs cu su Lc u w1 w z cst d ts hi9 hck h hlh hW hS hEe hrc hrs
  | baload  => exact st_baload  id (mGx id) p e R s m args below meth c A Q v S' hcx hrt hcn ih k ls st b S H locs cu su Lc u w1 w z cst d ts hi9 hck h hlh hW hS hEe hrc hrs
  | laload  => exact st_laload  id (mGx id) p e R s m args below meth c A Q v S' hcx hrt hcn ih k ls st b S H locs cu su Lc u w1 w z cst d ts hi9 hck h hlh hW hS hEe hrc hrs
  | aaload  => exact st_aaload  id (mGx id) p e R s m args below meth c A Q v S' hcx hrt hcn ih k ls st b S H locs cu su Lc u w1 w z cst d ts hi9 hck h hlh hW hS hEe hrc hrs
  | iastore  => exact st_iastore  id (mGx id) p e R s m args below meth c A Q v S' hcx hrt hcn ih k ls st b S H locs cu su Lc u w1 w z cst d ts hi9 hck h hlh hW hS hEe hrc hrs
  | lastore  => exact st_lastore  id (mGx id) p e R s m args below meth c A Q v S' hcx hrt hcn ih k ls st b S H locs cu su Lc u w1 w z cst d ts hi9 hck h hlh hW hS hEe hrc hrs
  | aastore  => exact st_aastore  id (mGx id) p e R s m args below meth c A Q v S' hcx hrt hcn ih k ls st b S H locs cu su Lc u w1 w z cst d ts hi9 hck h hlh hW hS hEe hrc hrs
  | bastore  => exact st_bastore  id (mGx id) p e R s m args below meth c A Q v S' hcx hrt hcn ih k ls st b S H locs cu su Lc u w1 w z cst d ts hi9 hck h hlh hW hS hEe hrc hrs
  | arraylength  => exact st_arraylength  id (mGx id) p e R s m args below meth c A Q v S' hcx hrt hcn ih k ls st b S H locs cu su Lc u w1 w z cst d ts hi9 hck h hlh hW hS hEe hrc hrs
  | newarray y => exact st_newarray y id (mGx id) p e R s m args below meth c A Q v S' hcx hrt hcn ih k ls st b S H locs cu su Lc u w1 w z cst d ts hi9 hck h hlh hW hS hEe hrc hrs
  | anewarray y => exact st_anewarray y id (mGx id) p e R s m args below meth c A Q v S' hcx hrt hcn ih k ls st b S H locs cu su Lc u w1 w z cst d ts hi9 hck h hlh hW hS hEe hrc hrs
  | new y => exact st_new y id (mGx id) p e R s m args below meth c A Q v S' hcx hrt hcn ih k ls st b S H locs cu su Lc u w1 w z cst d ts hi9 hck h hlh hW hS hEe hrc hrs
  | if_icmp cd o => exact st_if_icmp cd o id (mGx id) p e R s m args below meth c A Q v S' hcx hrt hcn ih k ls st b S H locs cu su Lc u w1 w z cst d ts hi9 hck h hlh hW hS hEe hrc hrs
  | ifCond cd o => exact st_ifCond cd o id (mGx id) p e R s m args below meth c A Q v S' hcx hrt hcn ih k ls st b S H locs cu su Lc u w1 w z cst d ts hi9 hck h hlh hW hS hEe hrc hrs
  | ifnull o => exact st_ifnull o id (mGx id) p e R s m args below meth c A Q v S' hcx hrt hcn ih k ls st b S H locs cu su Lc u w1 w z cst d ts hi9 hck h hlh hW hS hEe hrc hrs
  | ifnonnull o => exact st_ifnonnull o id (mGx id) p e R s m args below meth c A Q v S' hcx hrt hcn ih k ls st b S H locs cu su Lc u w1 w z cst d ts hi9 hck h hlh hW hS hEe hrc hrs
  | goto o => exact st_goto o id (mGx id) p e R s m args below meth c A Q v S' hcx hrt hcn ih k ls st b S H locs cu su Lc u w1 w z cst d ts hi9 hck h hlh hW hS hEe hrc hrs
  | tableswitch df lo h6 os => exact st_tableswitch df lo h6 os id (mGx id) p e R s m args below meth c A Q v S' hcx hrt hcn ih k ls st b S H locs cu su Lc u w1 w z cst d ts hi9 hck h hlh hW hS hEe hrc hrs
  | lookupswitch df ps => exact st_lookupswitch df ps id (mGx id) p e R s m args below meth c A Q v S' hcx hrt hcn ih k ls st b S H locs cu su Lc u w1 w z cst d ts hi9 hck h hlh hW hS hEe hrc hrs
  | invokevirtual y => exact st_invokevirtual hB hx3 hx4 y id (mGx id) p e R s m args below meth c A Q v S' hcx hrt hcn ih k ls st b S H locs cu su Lc u w1 w z cst d ts hi9 hck h hlh hW hS hEe hrc hrs
  | invokestatic y => exact st_invokestatic hB hx5 y id (mGx id) p e R s m args below meth c A Q v S' hcx hrt hcn ih k ls st b S H locs cu su Lc u w1 w z cst d ts hi9 hck h hlh hW hS hEe hrc hrs
  | invokespecial y => exact st_invokespecial hB y id (mGx id) p e R s m args below meth c A Q v S' hcx hrt hcn ih k ls st b S H locs cu su Lc u w1 w z cst d ts hi9 hck h hlh hW hS hEe hrc hrs
  | ireturn  => exact st_ireturn  id (mGx id) p e R s m args below meth c A Q v S' hcx hrt hcn ih k ls st b S H locs cu su Lc u w1 w z cst d ts hi9 hck h hlh hW hS hEe hrc hrs
  | lreturn  => exact st_lreturn  id (mGx id) p e R s m args below meth c A Q v S' hcx hrt hcn ih k ls st b S H locs cu su Lc u w1 w z cst d ts hi9 hck h hlh hW hS hEe hrc hrs
  | return_  => exact st_return_  id (mGx id) p e R s m args below meth c A Q v S' hcx hrt hcn ih k ls st b S H locs cu su Lc u w1 w z cst d ts hi9 hck h hlh hW hS hEe hrc hrs
  | nop  => exact st_nop  id (mGx id) p e R s m args below meth c A Q v S' hcx hrt hcn ih k ls st b S H locs cu su Lc u w1 w z cst d ts hi9 hck h hlh hW hS hEe hrc hrs
  | _ => cases h
theorem bd_all {l : Launch} {D : va_G} {cy : Nat → ClassId} {adV : Nat → Nat} {E : aEt} {lx : List Value → aH → aO} (hx3 : Xs l D cy adV E lx 903) (hx4 : Xs l D cy adV E lx 904) (hx5 : Xs l D cy adV E lx 905) : ∀ n, Bd l D cy adV E lx n
  | 0 => fun id hid p e R s m args below meth c A Q v S' hcx hrt k ls st b S H locs cu su Lc h => by cases h
  | n + 1 => bd_step hx3 hx4 hx5 (bd_all hx3 hx4 hx5 n)
