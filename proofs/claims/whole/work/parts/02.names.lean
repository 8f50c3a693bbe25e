/-! names: classes, fields, codes, methods; a row that decodes each instruction (by gen_names.py) -/
def R_X : String := "ParityDisks"
def T_X : u_T := fun k => match k with
  | 0 => ("ParityDisks", "cells", "[J", true)
  | _ => ("ParityDisks", "usedUpTo", "[I", true)
def ty_X : Nat → FieldType := fun k => match k with
  | 0 => .array .long
  | _ => .array .int
theorem nd_X : ∀ a, a < 2 → ∀ b, b < 2 → a ≠ b → (T_X a).2.1 ≠ (T_X b).2.1 := by decide +kernel
theorem ty_X_ok : ∀ k, k < 2 → parseFieldDescriptor (T_X k).2.2.1 = some (ty_X k) := by decide +kernel
def R_M : String := "ParityDisksModel"
def T_M : u_T := fun k => match k with
  | 0 => ("ParityDisksModel", "err", "I", false)
  | 1 => ("ParityDisksModel", "stands", "[J", true)
  | _ => ("ParityDisksModel", "up", "[I", true)
def ty_M : Nat → FieldType := fun k => match k with
  | 0 => .int
  | 1 => .array .long
  | _ => .array .int
theorem nd_M : ∀ a, a < 3 → ∀ b, b < 3 → a ≠ b → (T_M a).2.1 ≠ (T_M b).2.1 := by decide +kernel
theorem ty_M_ok : ∀ k, k < 3 → parseFieldDescriptor (T_M k).2.2.1 = some (ty_M k) := by decide +kernel
def R_L : String := "ParityDisksLaw"
abbrev cX_init : ByteArray := prog_1_method_1_code
def yX_init : MethodName := ⟨R_X, "<init>", "()V"⟩
abbrev cX_read : ByteArray := prog_1_method_2_code
def yX_read : MethodName := ⟨R_X, "read", "(II)J"⟩
abbrev cX_write : ByteArray := prog_1_method_3_code
def yX_write : MethodName := ⟨R_X, "write", "(IIJ)V"⟩
abbrev cX_fail : ByteArray := prog_1_method_4_code
def yX_fail : MethodName := ⟨R_X, "fail", "(I)V"⟩
abbrev cX_replace : ByteArray := prog_1_method_5_code
def yX_replace : MethodName := ⟨R_X, "replace", "(I)V"⟩
abbrev cX_rebuild : ByteArray := prog_1_method_6_code
def yX_rebuild : MethodName := ⟨R_X, "rebuild", "(II)I"⟩
abbrev cX_flip : ByteArray := prog_1_method_7_code
def yX_flip : MethodName := ⟨R_X, "flip", "(IIIJ)V"⟩
abbrev cX_block : ByteArray := prog_1_method_8_code
def yX_block : MethodName := ⟨R_X, "block", "(III)J"⟩
abbrev cX_scrub : ByteArray := prog_1_method_9_code
def yX_scrub : MethodName := ⟨R_X, "scrub", "()I"⟩
abbrev cX_state : ByteArray := prog_1_method_10_code
def yX_state : MethodName := ⟨R_X, "state", "(I)I"⟩
abbrev cX_lost : ByteArray := prog_1_method_11_code
def yX_lost : MethodName := ⟨R_X, "lost", "()I"⟩
abbrev cX_checkDisk : ByteArray := prog_1_method_12_code
def yX_checkDisk : MethodName := ⟨R_X, "checkDisk", "(I)V"⟩
abbrev cX_checkPlace : ByteArray := prog_1_method_13_code
def yX_checkPlace : MethodName := ⟨R_X, "checkPlace", "(I)V"⟩
abbrev cX_checkHalf : ByteArray := prog_1_method_14_code
def yX_checkHalf : MethodName := ⟨R_X, "checkHalf", "(I)V"⟩
abbrev cX_checkBlock : ByteArray := prog_1_method_15_code
def yX_checkBlock : MethodName := ⟨R_X, "checkBlock", "(I)V"⟩
abbrev cX_checkStanding : ByteArray := prog_1_method_16_code
def yX_checkStanding : MethodName := ⟨R_X, "checkStanding", "(III)V"⟩
abbrev cX_stripeOf : ByteArray := prog_1_method_17_code
def yX_stripeOf : MethodName := ⟨R_X, "stripeOf", "(I)I"⟩
abbrev cX_parityDiskOf : ByteArray := prog_1_method_18_code
def yX_parityDiskOf : MethodName := ⟨R_X, "parityDiskOf", "(I)I"⟩
abbrev cX_diskOf : ByteArray := prog_1_method_19_code
def yX_diskOf : MethodName := ⟨R_X, "diskOf", "(I)I"⟩
abbrev cX_cellOf : ByteArray := prog_1_method_20_code
def yX_cellOf : MethodName := ⟨R_X, "cellOf", "(III)I"⟩
abbrev cX_canBeUsed : ByteArray := prog_1_method_21_code
def yX_canBeUsed : MethodName := ⟨R_X, "canBeUsed", "(II)Z"⟩
abbrev cX_othersCanBeUsed : ByteArray := prog_1_method_22_code
def yX_othersCanBeUsed : MethodName := ⟨R_X, "othersCanBeUsed", "(II)Z"⟩
abbrev cX_allCanBeUsed : ByteArray := prog_1_method_23_code
def yX_allCanBeUsed : MethodName := ⟨R_X, "allCanBeUsed", "(I)Z"⟩
abbrev cX_isLost : ByteArray := prog_1_method_24_code
def yX_isLost : MethodName := ⟨R_X, "isLost", "(II)Z"⟩
abbrev cX_whatItHas : ByteArray := prog_1_method_25_code
def yX_whatItHas : MethodName := ⟨R_X, "whatItHas", "(III)J"⟩
abbrev cX_xorOfOthers : ByteArray := prog_1_method_26_code
def yX_xorOfOthers : MethodName := ⟨R_X, "xorOfOthers", "(III)J"⟩
abbrev cX_rebuildBlock : ByteArray := prog_1_method_27_code
def yX_rebuildBlock : MethodName := ⟨R_X, "rebuildBlock", "(II)V"⟩
abbrev cX_mendParity : ByteArray := prog_1_method_28_code
def yX_mendParity : MethodName := ⟨R_X, "mendParity", "(I)Z"⟩
abbrev cM_init : ByteArray := prog_3_method_1_code
def yM_init : MethodName := ⟨R_M, "<init>", "()V"⟩
abbrev cM_thrown : ByteArray := prog_3_method_2_code
def yM_thrown : MethodName := ⟨R_M, "thrown", "()I"⟩
abbrev cM_fails : ByteArray := prog_3_method_3_code
def yM_fails : MethodName := ⟨R_M, "fails", "(ZI)Z"⟩
abbrev cM_at : ByteArray := prog_3_method_4_code
def yM_at : MethodName := ⟨R_M, "at", "(III)I"⟩
abbrev cM_usable : ByteArray := prog_3_method_5_code
def yM_usable : MethodName := ⟨R_M, "usable", "(II)Z"⟩
abbrev cM_gone : ByteArray := prog_3_method_6_code
def yM_gone : MethodName := ⟨R_M, "gone", "(II)Z"⟩
abbrev cM_others : ByteArray := prog_3_method_7_code
def yM_others : MethodName := ⟨R_M, "others", "(III)J"⟩
abbrev cM_has : ByteArray := prog_3_method_8_code
def yM_has : MethodName := ⟨R_M, "has", "(III)J"⟩
abbrev cM_disk : ByteArray := prog_3_method_9_code
def yM_disk : MethodName := ⟨R_M, "disk", "(I)I"⟩
abbrev cM_noPlace : ByteArray := prog_3_method_10_code
def yM_noPlace : MethodName := ⟨R_M, "noPlace", "(II)Z"⟩
abbrev cM_read : ByteArray := prog_3_method_11_code
def yM_read : MethodName := ⟨R_M, "read", "(II)J"⟩
abbrev cM_write : ByteArray := prog_3_method_12_code
def yM_write : MethodName := ⟨R_M, "write", "(IIJ)V"⟩
abbrev cM_none : ByteArray := prog_3_method_13_code
def yM_none : MethodName := ⟨R_M, "none", "(I)Z"⟩
abbrev cM_fail : ByteArray := prog_3_method_14_code
def yM_fail : MethodName := ⟨R_M, "fail", "(I)V"⟩
abbrev cM_replace : ByteArray := prog_3_method_15_code
def yM_replace : MethodName := ⟨R_M, "replace", "(I)V"⟩
abbrev cM_rebuild : ByteArray := prog_3_method_16_code
def yM_rebuild : MethodName := ⟨R_M, "rebuild", "(II)I"⟩
abbrev cM_noBlock : ByteArray := prog_3_method_17_code
def yM_noBlock : MethodName := ⟨R_M, "noBlock", "(III)Z"⟩
abbrev cM_flip : ByteArray := prog_3_method_18_code
def yM_flip : MethodName := ⟨R_M, "flip", "(IIIJ)V"⟩
abbrev cM_block : ByteArray := prog_3_method_19_code
def yM_block : MethodName := ⟨R_M, "block", "(III)J"⟩
abbrev cM_scrub : ByteArray := prog_3_method_20_code
def yM_scrub : MethodName := ⟨R_M, "scrub", "()I"⟩
abbrev cM_state : ByteArray := prog_3_method_21_code
def yM_state : MethodName := ⟨R_M, "state", "(I)I"⟩
abbrev cM_lost : ByteArray := prog_3_method_22_code
def yM_lost : MethodName := ⟨R_M, "lost", "()I"⟩
abbrev cL_law : ByteArray := code
def yL_law : MethodName := ⟨R_L, "law", "([I)Z"⟩
abbrev cL_read : ByteArray := method_3_code
def yL_read : MethodName := ⟨R_L, "read", "(LParityDisks;II[J)I"⟩
abbrev cL_write : ByteArray := method_4_code
def yL_write : MethodName := ⟨R_L, "write", "(LParityDisks;IIJ)I"⟩
abbrev cL_fail : ByteArray := method_5_code
def yL_fail : MethodName := ⟨R_L, "fail", "(LParityDisks;I)I"⟩
abbrev cL_replace : ByteArray := method_6_code
def yL_replace : MethodName := ⟨R_L, "replace", "(LParityDisks;I)I"⟩
abbrev cL_rebuild : ByteArray := method_7_code
def yL_rebuild : MethodName := ⟨R_L, "rebuild", "(LParityDisks;II[J)I"⟩
abbrev cL_flip : ByteArray := method_8_code
def yL_flip : MethodName := ⟨R_L, "flip", "(LParityDisks;IIIJ)I"⟩
abbrev cL_block : ByteArray := method_9_code
def yL_block : MethodName := ⟨R_L, "block", "(LParityDisks;III[J)I"⟩
abbrev cL_state : ByteArray := method_10_code
def yL_state : MethodName := ⟨R_L, "state", "(LParityDisks;I[J)I"⟩
theorem dX_init_0 : decode cX_init 0 = .ok (.aload_n 0, 1) := by decide +kernel
theorem dX_init_1 : decode cX_init 1 = .ok (.invokespecial 3, 3) := by decide +kernel
theorem dX_init_4 : decode cX_init 4 = .ok (.aload_n 0, 1) := by decide +kernel
theorem dX_init_5 : decode cX_init 5 = .ok (.sipush 1000, 3) := by decide +kernel
theorem dX_init_8 : decode cX_init 8 = .ok (.newarray .long, 2) := by decide +kernel
theorem dX_init_10 : decode cX_init 10 = .ok (.putfield 9, 3) := by decide +kernel
theorem dX_init_13 : decode cX_init 13 = .ok (.aload_n 0, 1) := by decide +kernel
theorem dX_init_14 : decode cX_init 14 = .ok (.iconst 5, 1) := by decide +kernel
theorem dX_init_15 : decode cX_init 15 = .ok (.newarray .int, 2) := by decide +kernel
theorem dX_init_17 : decode cX_init 17 = .ok (.putfield 13, 3) := by decide +kernel
theorem dX_init_20 : decode cX_init 20 = .ok (.iconst 0, 1) := by decide +kernel
theorem dX_init_21 : decode cX_init 21 = .ok (.istore_n 1, 1) := by decide +kernel
theorem dX_init_22 : decode cX_init 22 = .ok (.iload_n 1, 1) := by decide +kernel
theorem dX_init_23 : decode cX_init 23 = .ok (.iconst 5, 1) := by decide +kernel
theorem dX_init_24 : decode cX_init 24 = .ok (.if_icmp .ge 17, 3) := by decide +kernel
theorem dX_init_27 : decode cX_init 27 = .ok (.aload_n 0, 1) := by decide +kernel
theorem dX_init_28 : decode cX_init 28 = .ok (.getfield 13, 3) := by decide +kernel
theorem dX_init_31 : decode cX_init 31 = .ok (.iload_n 1, 1) := by decide +kernel
theorem dX_init_32 : decode cX_init 32 = .ok (.bipush 100, 2) := by decide +kernel
theorem dX_init_34 : decode cX_init 34 = .ok (.iastore, 1) := by decide +kernel
theorem dX_init_35 : decode cX_init 35 = .ok (.iinc 1 1, 3) := by decide +kernel
theorem dX_init_38 : decode cX_init 38 = .ok (.goto (-16), 3) := by decide +kernel
theorem dX_init_41 : decode cX_init 41 = .ok (.return_, 1) := by decide +kernel
theorem dX_read_0 : decode cX_read 0 = .ok (.iload_n 1, 1) := by decide +kernel
theorem dX_read_1 : decode cX_read 1 = .ok (.invokestatic 17, 3) := by decide +kernel
theorem dX_read_4 : decode cX_read 4 = .ok (.iload_n 2, 1) := by decide +kernel
theorem dX_read_5 : decode cX_read 5 = .ok (.invokestatic 21, 3) := by decide +kernel
theorem dX_read_8 : decode cX_read 8 = .ok (.iload_n 1, 1) := by decide +kernel
theorem dX_read_9 : decode cX_read 9 = .ok (.invokestatic 24, 3) := by decide +kernel
theorem dX_read_12 : decode cX_read 12 = .ok (.istore_n 3, 1) := by decide +kernel
theorem dX_read_13 : decode cX_read 13 = .ok (.iload_n 1, 1) := by decide +kernel
theorem dX_read_14 : decode cX_read 14 = .ok (.invokestatic 28, 3) := by decide +kernel
theorem dX_read_17 : decode cX_read 17 = .ok (.istore 4, 2) := by decide +kernel
theorem dX_read_19 : decode cX_read 19 = .ok (.aload_n 0, 1) := by decide +kernel
theorem dX_read_20 : decode cX_read 20 = .ok (.iload 4, 2) := by decide +kernel
theorem dX_read_22 : decode cX_read 22 = .ok (.iload_n 3, 1) := by decide +kernel
theorem dX_read_23 : decode cX_read 23 = .ok (.invokevirtual 31, 3) := by decide +kernel
theorem dX_read_26 : decode cX_read 26 = .ok (.ifCond .eq 13, 3) := by decide +kernel
theorem dX_read_29 : decode cX_read 29 = .ok (.new 35, 3) := by decide +kernel
theorem dX_read_32 : decode cX_read 32 = .ok (.dup, 1) := by decide +kernel
theorem dX_read_33 : decode cX_read 33 = .ok (.ldc 37, 2) := by decide +kernel
theorem dX_read_35 : decode cX_read 35 = .ok (.invokespecial 39, 3) := by decide +kernel
theorem dX_read_38 : decode cX_read 38 = .ok (.athrow, 1) := by decide +kernel
theorem dX_read_39 : decode cX_read 39 = .ok (.aload_n 0, 1) := by decide +kernel
theorem dX_read_40 : decode cX_read 40 = .ok (.iload 4, 2) := by decide +kernel
theorem dX_read_42 : decode cX_read 42 = .ok (.iload_n 3, 1) := by decide +kernel
theorem dX_read_43 : decode cX_read 43 = .ok (.iload_n 2, 1) := by decide +kernel
theorem dX_read_44 : decode cX_read 44 = .ok (.invokevirtual 42, 3) := by decide +kernel
theorem dX_read_47 : decode cX_read 47 = .ok (.lreturn, 1) := by decide +kernel
theorem dX_write_0 : decode cX_write 0 = .ok (.iload_n 1, 1) := by decide +kernel
theorem dX_write_1 : decode cX_write 1 = .ok (.invokestatic 17, 3) := by decide +kernel
theorem dX_write_4 : decode cX_write 4 = .ok (.iload_n 2, 1) := by decide +kernel
theorem dX_write_5 : decode cX_write 5 = .ok (.invokestatic 21, 3) := by decide +kernel
theorem dX_write_8 : decode cX_write 8 = .ok (.iload_n 1, 1) := by decide +kernel
theorem dX_write_9 : decode cX_write 9 = .ok (.invokestatic 24, 3) := by decide +kernel
theorem dX_write_12 : decode cX_write 12 = .ok (.istore 5, 2) := by decide +kernel
theorem dX_write_14 : decode cX_write 14 = .ok (.iload_n 1, 1) := by decide +kernel
theorem dX_write_15 : decode cX_write 15 = .ok (.invokestatic 28, 3) := by decide +kernel
theorem dX_write_18 : decode cX_write 18 = .ok (.istore 6, 2) := by decide +kernel
theorem dX_write_20 : decode cX_write 20 = .ok (.aload_n 0, 1) := by decide +kernel
theorem dX_write_21 : decode cX_write 21 = .ok (.iload 6, 2) := by decide +kernel
theorem dX_write_23 : decode cX_write 23 = .ok (.iload 5, 2) := by decide +kernel
theorem dX_write_25 : decode cX_write 25 = .ok (.invokevirtual 31, 3) := by decide +kernel
theorem dX_write_28 : decode cX_write 28 = .ok (.ifCond .eq 13, 3) := by decide +kernel
theorem dX_write_31 : decode cX_write 31 = .ok (.new 35, 3) := by decide +kernel
theorem dX_write_34 : decode cX_write 34 = .ok (.dup, 1) := by decide +kernel
theorem dX_write_35 : decode cX_write 35 = .ok (.ldc 46, 2) := by decide +kernel
theorem dX_write_37 : decode cX_write 37 = .ok (.invokespecial 39, 3) := by decide +kernel
theorem dX_write_40 : decode cX_write 40 = .ok (.athrow, 1) := by decide +kernel
theorem dX_write_41 : decode cX_write 41 = .ok (.aload_n 0, 1) := by decide +kernel
theorem dX_write_42 : decode cX_write 42 = .ok (.iload 6, 2) := by decide +kernel
theorem dX_write_44 : decode cX_write 44 = .ok (.iload 5, 2) := by decide +kernel
theorem dX_write_46 : decode cX_write 46 = .ok (.iload_n 2, 1) := by decide +kernel
theorem dX_write_47 : decode cX_write 47 = .ok (.invokevirtual 42, 3) := by decide +kernel
theorem dX_write_50 : decode cX_write 50 = .ok (.lstore 7, 2) := by decide +kernel
theorem dX_write_52 : decode cX_write 52 = .ok (.iload 5, 2) := by decide +kernel
theorem dX_write_54 : decode cX_write 54 = .ok (.invokestatic 48, 3) := by decide +kernel
theorem dX_write_57 : decode cX_write 57 = .ok (.istore 9, 2) := by decide +kernel
theorem dX_write_59 : decode cX_write 59 = .ok (.aload_n 0, 1) := by decide +kernel
theorem dX_write_60 : decode cX_write 60 = .ok (.iload 9, 2) := by decide +kernel
theorem dX_write_62 : decode cX_write 62 = .ok (.iload 5, 2) := by decide +kernel
theorem dX_write_64 : decode cX_write 64 = .ok (.invokevirtual 51, 3) := by decide +kernel
theorem dX_write_67 : decode cX_write 67 = .ok (.ifCond .eq 23, 3) := by decide +kernel
theorem dX_write_70 : decode cX_write 70 = .ok (.aload_n 0, 1) := by decide +kernel
theorem dX_write_71 : decode cX_write 71 = .ok (.getfield 9, 3) := by decide +kernel
theorem dX_write_74 : decode cX_write 74 = .ok (.iload 9, 2) := by decide +kernel
theorem dX_write_76 : decode cX_write 76 = .ok (.iload 5, 2) := by decide +kernel
theorem dX_write_78 : decode cX_write 78 = .ok (.iload_n 2, 1) := by decide +kernel
theorem dX_write_79 : decode cX_write 79 = .ok (.invokestatic 54, 3) := by decide +kernel
theorem dX_write_82 : decode cX_write 82 = .ok (.dup2, 1) := by decide +kernel
theorem dX_write_83 : decode cX_write 83 = .ok (.laload, 1) := by decide +kernel
theorem dX_write_84 : decode cX_write 84 = .ok (.lload 7, 2) := by decide +kernel
theorem dX_write_86 : decode cX_write 86 = .ok (.lload_n 3, 1) := by decide +kernel
theorem dX_write_87 : decode cX_write 87 = .ok (.lxor, 1) := by decide +kernel
theorem dX_write_88 : decode cX_write 88 = .ok (.lxor, 1) := by decide +kernel
theorem dX_write_89 : decode cX_write 89 = .ok (.lastore, 1) := by decide +kernel
theorem dX_write_90 : decode cX_write 90 = .ok (.aload_n 0, 1) := by decide +kernel
theorem dX_write_91 : decode cX_write 91 = .ok (.iload 6, 2) := by decide +kernel
theorem dX_write_93 : decode cX_write 93 = .ok (.iload 5, 2) := by decide +kernel
theorem dX_write_95 : decode cX_write 95 = .ok (.invokevirtual 51, 3) := by decide +kernel
theorem dX_write_98 : decode cX_write 98 = .ok (.ifCond .eq 17, 3) := by decide +kernel
theorem dX_write_101 : decode cX_write 101 = .ok (.aload_n 0, 1) := by decide +kernel
theorem dX_write_102 : decode cX_write 102 = .ok (.getfield 9, 3) := by decide +kernel
theorem dX_write_105 : decode cX_write 105 = .ok (.iload 6, 2) := by decide +kernel
theorem dX_write_107 : decode cX_write 107 = .ok (.iload 5, 2) := by decide +kernel
theorem dX_write_109 : decode cX_write 109 = .ok (.iload_n 2, 1) := by decide +kernel
theorem dX_write_110 : decode cX_write 110 = .ok (.invokestatic 54, 3) := by decide +kernel
theorem dX_write_113 : decode cX_write 113 = .ok (.lload_n 3, 1) := by decide +kernel
theorem dX_write_114 : decode cX_write 114 = .ok (.lastore, 1) := by decide +kernel
theorem dX_write_115 : decode cX_write 115 = .ok (.return_, 1) := by decide +kernel
theorem dX_fail_0 : decode cX_fail 0 = .ok (.iload_n 1, 1) := by decide +kernel
theorem dX_fail_1 : decode cX_fail 1 = .ok (.invokestatic 58, 3) := by decide +kernel
theorem dX_fail_4 : decode cX_fail 4 = .ok (.aload_n 0, 1) := by decide +kernel
theorem dX_fail_5 : decode cX_fail 5 = .ok (.getfield 13, 3) := by decide +kernel
theorem dX_fail_8 : decode cX_fail 8 = .ok (.iload_n 1, 1) := by decide +kernel
theorem dX_fail_9 : decode cX_fail 9 = .ok (.iconst (-1), 1) := by decide +kernel
theorem dX_fail_10 : decode cX_fail 10 = .ok (.iastore, 1) := by decide +kernel
theorem dX_fail_11 : decode cX_fail 11 = .ok (.return_, 1) := by decide +kernel
theorem dX_replace_0 : decode cX_replace 0 = .ok (.iload_n 1, 1) := by decide +kernel
theorem dX_replace_1 : decode cX_replace 1 = .ok (.invokestatic 58, 3) := by decide +kernel
theorem dX_replace_4 : decode cX_replace 4 = .ok (.aload_n 0, 1) := by decide +kernel
theorem dX_replace_5 : decode cX_replace 5 = .ok (.getfield 13, 3) := by decide +kernel
theorem dX_replace_8 : decode cX_replace 8 = .ok (.iload_n 1, 1) := by decide +kernel
theorem dX_replace_9 : decode cX_replace 9 = .ok (.iaload, 1) := by decide +kernel
theorem dX_replace_10 : decode cX_replace 10 = .ok (.iconst (-1), 1) := by decide +kernel
theorem dX_replace_11 : decode cX_replace 11 = .ok (.if_icmp .eq 13, 3) := by decide +kernel
theorem dX_replace_14 : decode cX_replace 14 = .ok (.new 61, 3) := by decide +kernel
theorem dX_replace_17 : decode cX_replace 17 = .ok (.dup, 1) := by decide +kernel
theorem dX_replace_18 : decode cX_replace 18 = .ok (.ldc 63, 2) := by decide +kernel
theorem dX_replace_20 : decode cX_replace 20 = .ok (.invokespecial 65, 3) := by decide +kernel
theorem dX_replace_23 : decode cX_replace 23 = .ok (.athrow, 1) := by decide +kernel
theorem dX_replace_24 : decode cX_replace 24 = .ok (.iconst 0, 1) := by decide +kernel
theorem dX_replace_25 : decode cX_replace 25 = .ok (.istore_n 2, 1) := by decide +kernel
theorem dX_replace_26 : decode cX_replace 26 = .ok (.iload_n 2, 1) := by decide +kernel
theorem dX_replace_27 : decode cX_replace 27 = .ok (.bipush 100, 2) := by decide +kernel
theorem dX_replace_29 : decode cX_replace 29 = .ok (.if_icmp .ge 34, 3) := by decide +kernel
theorem dX_replace_32 : decode cX_replace 32 = .ok (.iconst 0, 1) := by decide +kernel
theorem dX_replace_33 : decode cX_replace 33 = .ok (.istore_n 3, 1) := by decide +kernel
theorem dX_replace_34 : decode cX_replace 34 = .ok (.iload_n 3, 1) := by decide +kernel
theorem dX_replace_35 : decode cX_replace 35 = .ok (.iconst 2, 1) := by decide +kernel
theorem dX_replace_36 : decode cX_replace 36 = .ok (.if_icmp .ge 21, 3) := by decide +kernel
theorem dX_replace_39 : decode cX_replace 39 = .ok (.aload_n 0, 1) := by decide +kernel
theorem dX_replace_40 : decode cX_replace 40 = .ok (.getfield 9, 3) := by decide +kernel
theorem dX_replace_43 : decode cX_replace 43 = .ok (.iload_n 1, 1) := by decide +kernel
theorem dX_replace_44 : decode cX_replace 44 = .ok (.iload_n 2, 1) := by decide +kernel
theorem dX_replace_45 : decode cX_replace 45 = .ok (.iload_n 3, 1) := by decide +kernel
theorem dX_replace_46 : decode cX_replace 46 = .ok (.invokestatic 54, 3) := by decide +kernel
theorem dX_replace_49 : decode cX_replace 49 = .ok (.lconst 0, 1) := by decide +kernel
theorem dX_replace_50 : decode cX_replace 50 = .ok (.lastore, 1) := by decide +kernel
theorem dX_replace_51 : decode cX_replace 51 = .ok (.iinc 3 1, 3) := by decide +kernel
theorem dX_replace_54 : decode cX_replace 54 = .ok (.goto (-20), 3) := by decide +kernel
theorem dX_replace_57 : decode cX_replace 57 = .ok (.iinc 2 1, 3) := by decide +kernel
theorem dX_replace_60 : decode cX_replace 60 = .ok (.goto (-34), 3) := by decide +kernel
theorem dX_replace_63 : decode cX_replace 63 = .ok (.aload_n 0, 1) := by decide +kernel
theorem dX_replace_64 : decode cX_replace 64 = .ok (.getfield 13, 3) := by decide +kernel
theorem dX_replace_67 : decode cX_replace 67 = .ok (.iload_n 1, 1) := by decide +kernel
theorem dX_replace_68 : decode cX_replace 68 = .ok (.iconst 0, 1) := by decide +kernel
theorem dX_replace_69 : decode cX_replace 69 = .ok (.iastore, 1) := by decide +kernel
theorem dX_replace_70 : decode cX_replace 70 = .ok (.return_, 1) := by decide +kernel
theorem dX_rebuild_0 : decode cX_rebuild 0 = .ok (.iload_n 1, 1) := by decide +kernel
theorem dX_rebuild_1 : decode cX_rebuild 1 = .ok (.invokestatic 58, 3) := by decide +kernel
theorem dX_rebuild_4 : decode cX_rebuild 4 = .ok (.iload_n 2, 1) := by decide +kernel
theorem dX_rebuild_5 : decode cX_rebuild 5 = .ok (.ifCond .ge 13, 3) := by decide +kernel
theorem dX_rebuild_8 : decode cX_rebuild 8 = .ok (.new 66, 3) := by decide +kernel
theorem dX_rebuild_11 : decode cX_rebuild 11 = .ok (.dup, 1) := by decide +kernel
theorem dX_rebuild_12 : decode cX_rebuild 12 = .ok (.ldc 68, 2) := by decide +kernel
theorem dX_rebuild_14 : decode cX_rebuild 14 = .ok (.invokespecial 70, 3) := by decide +kernel
theorem dX_rebuild_17 : decode cX_rebuild 17 = .ok (.athrow, 1) := by decide +kernel
theorem dX_rebuild_18 : decode cX_rebuild 18 = .ok (.aload_n 0, 1) := by decide +kernel
theorem dX_rebuild_19 : decode cX_rebuild 19 = .ok (.getfield 13, 3) := by decide +kernel
theorem dX_rebuild_22 : decode cX_rebuild 22 = .ok (.iload_n 1, 1) := by decide +kernel
theorem dX_rebuild_23 : decode cX_rebuild 23 = .ok (.iaload, 1) := by decide +kernel
theorem dX_rebuild_24 : decode cX_rebuild 24 = .ok (.istore_n 3, 1) := by decide +kernel
theorem dX_rebuild_25 : decode cX_rebuild 25 = .ok (.iload_n 3, 1) := by decide +kernel
theorem dX_rebuild_26 : decode cX_rebuild 26 = .ok (.bipush 100, 2) := by decide +kernel
theorem dX_rebuild_28 : decode cX_rebuild 28 = .ok (.if_icmp .eq 8, 3) := by decide +kernel
theorem dX_rebuild_31 : decode cX_rebuild 31 = .ok (.iload_n 3, 1) := by decide +kernel
theorem dX_rebuild_32 : decode cX_rebuild 32 = .ok (.iconst (-1), 1) := by decide +kernel
theorem dX_rebuild_33 : decode cX_rebuild 33 = .ok (.if_icmp .ne 13, 3) := by decide +kernel
theorem dX_rebuild_36 : decode cX_rebuild 36 = .ok (.new 61, 3) := by decide +kernel
theorem dX_rebuild_39 : decode cX_rebuild 39 = .ok (.dup, 1) := by decide +kernel
theorem dX_rebuild_40 : decode cX_rebuild 40 = .ok (.ldc 71, 2) := by decide +kernel
theorem dX_rebuild_42 : decode cX_rebuild 42 = .ok (.invokespecial 65, 3) := by decide +kernel
theorem dX_rebuild_45 : decode cX_rebuild 45 = .ok (.athrow, 1) := by decide +kernel
theorem dX_rebuild_46 : decode cX_rebuild 46 = .ok (.iload_n 3, 1) := by decide +kernel
theorem dX_rebuild_47 : decode cX_rebuild 47 = .ok (.iload_n 2, 1) := by decide +kernel
theorem dX_rebuild_48 : decode cX_rebuild 48 = .ok (.bipush 100, 2) := by decide +kernel
theorem dX_rebuild_50 : decode cX_rebuild 50 = .ok (.iload_n 3, 1) := by decide +kernel
theorem dX_rebuild_51 : decode cX_rebuild 51 = .ok (.isub, 1) := by decide +kernel
theorem dX_rebuild_52 : decode cX_rebuild 52 = .ok (.invokestatic 73, 3) := by decide +kernel
theorem dX_rebuild_55 : decode cX_rebuild 55 = .ok (.iadd, 1) := by decide +kernel
theorem dX_rebuild_56 : decode cX_rebuild 56 = .ok (.istore 4, 2) := by decide +kernel
theorem dX_rebuild_58 : decode cX_rebuild 58 = .ok (.iload_n 3, 1) := by decide +kernel
theorem dX_rebuild_59 : decode cX_rebuild 59 = .ok (.istore 5, 2) := by decide +kernel
theorem dX_rebuild_61 : decode cX_rebuild 61 = .ok (.iload 5, 2) := by decide +kernel
theorem dX_rebuild_63 : decode cX_rebuild 63 = .ok (.iload 4, 2) := by decide +kernel
theorem dX_rebuild_65 : decode cX_rebuild 65 = .ok (.if_icmp .ge 26, 3) := by decide +kernel
theorem dX_rebuild_68 : decode cX_rebuild 68 = .ok (.aload_n 0, 1) := by decide +kernel
theorem dX_rebuild_69 : decode cX_rebuild 69 = .ok (.iload_n 1, 1) := by decide +kernel
theorem dX_rebuild_70 : decode cX_rebuild 70 = .ok (.iload 5, 2) := by decide +kernel
theorem dX_rebuild_72 : decode cX_rebuild 72 = .ok (.invokevirtual 31, 3) := by decide +kernel
theorem dX_rebuild_75 : decode cX_rebuild 75 = .ok (.ifCond .ne 16, 3) := by decide +kernel
theorem dX_rebuild_78 : decode cX_rebuild 78 = .ok (.aload_n 0, 1) := by decide +kernel
theorem dX_rebuild_79 : decode cX_rebuild 79 = .ok (.iload_n 1, 1) := by decide +kernel
theorem dX_rebuild_80 : decode cX_rebuild 80 = .ok (.iload 5, 2) := by decide +kernel
theorem dX_rebuild_82 : decode cX_rebuild 82 = .ok (.invokevirtual 79, 3) := by decide +kernel
theorem dX_rebuild_85 : decode cX_rebuild 85 = .ok (.iinc 5 1, 3) := by decide +kernel
theorem dX_rebuild_88 : decode cX_rebuild 88 = .ok (.goto (-27), 3) := by decide +kernel
theorem dX_rebuild_91 : decode cX_rebuild 91 = .ok (.aload_n 0, 1) := by decide +kernel
theorem dX_rebuild_92 : decode cX_rebuild 92 = .ok (.getfield 13, 3) := by decide +kernel
theorem dX_rebuild_95 : decode cX_rebuild 95 = .ok (.iload_n 1, 1) := by decide +kernel
theorem dX_rebuild_96 : decode cX_rebuild 96 = .ok (.iload 5, 2) := by decide +kernel
theorem dX_rebuild_98 : decode cX_rebuild 98 = .ok (.iastore, 1) := by decide +kernel
theorem dX_rebuild_99 : decode cX_rebuild 99 = .ok (.iload 5, 2) := by decide +kernel
theorem dX_rebuild_101 : decode cX_rebuild 101 = .ok (.ireturn, 1) := by decide +kernel
theorem dX_flip_0 : decode cX_flip 0 = .ok (.aload_n 0, 1) := by decide +kernel
theorem dX_flip_1 : decode cX_flip 1 = .ok (.iload_n 1, 1) := by decide +kernel
theorem dX_flip_2 : decode cX_flip 2 = .ok (.iload_n 2, 1) := by decide +kernel
theorem dX_flip_3 : decode cX_flip 3 = .ok (.iload_n 3, 1) := by decide +kernel
theorem dX_flip_4 : decode cX_flip 4 = .ok (.invokevirtual 83, 3) := by decide +kernel
theorem dX_flip_7 : decode cX_flip 7 = .ok (.aload_n 0, 1) := by decide +kernel
theorem dX_flip_8 : decode cX_flip 8 = .ok (.getfield 9, 3) := by decide +kernel
theorem dX_flip_11 : decode cX_flip 11 = .ok (.iload_n 1, 1) := by decide +kernel
theorem dX_flip_12 : decode cX_flip 12 = .ok (.iload_n 2, 1) := by decide +kernel
theorem dX_flip_13 : decode cX_flip 13 = .ok (.iload_n 3, 1) := by decide +kernel
theorem dX_flip_14 : decode cX_flip 14 = .ok (.invokestatic 54, 3) := by decide +kernel
theorem dX_flip_17 : decode cX_flip 17 = .ok (.dup2, 1) := by decide +kernel
theorem dX_flip_18 : decode cX_flip 18 = .ok (.laload, 1) := by decide +kernel
theorem dX_flip_19 : decode cX_flip 19 = .ok (.lload 4, 2) := by decide +kernel
theorem dX_flip_21 : decode cX_flip 21 = .ok (.lxor, 1) := by decide +kernel
theorem dX_flip_22 : decode cX_flip 22 = .ok (.lastore, 1) := by decide +kernel
theorem dX_flip_23 : decode cX_flip 23 = .ok (.return_, 1) := by decide +kernel
theorem dX_block_0 : decode cX_block 0 = .ok (.aload_n 0, 1) := by decide +kernel
theorem dX_block_1 : decode cX_block 1 = .ok (.iload_n 1, 1) := by decide +kernel
theorem dX_block_2 : decode cX_block 2 = .ok (.iload_n 2, 1) := by decide +kernel
theorem dX_block_3 : decode cX_block 3 = .ok (.iload_n 3, 1) := by decide +kernel
theorem dX_block_4 : decode cX_block 4 = .ok (.invokevirtual 83, 3) := by decide +kernel
theorem dX_block_7 : decode cX_block 7 = .ok (.aload_n 0, 1) := by decide +kernel
theorem dX_block_8 : decode cX_block 8 = .ok (.getfield 9, 3) := by decide +kernel
theorem dX_block_11 : decode cX_block 11 = .ok (.iload_n 1, 1) := by decide +kernel
theorem dX_block_12 : decode cX_block 12 = .ok (.iload_n 2, 1) := by decide +kernel
theorem dX_block_13 : decode cX_block 13 = .ok (.iload_n 3, 1) := by decide +kernel
theorem dX_block_14 : decode cX_block 14 = .ok (.invokestatic 54, 3) := by decide +kernel
theorem dX_block_17 : decode cX_block 17 = .ok (.laload, 1) := by decide +kernel
theorem dX_block_18 : decode cX_block 18 = .ok (.lreturn, 1) := by decide +kernel
theorem dX_scrub_0 : decode cX_scrub 0 = .ok (.iconst 0, 1) := by decide +kernel
theorem dX_scrub_1 : decode cX_scrub 1 = .ok (.istore_n 1, 1) := by decide +kernel
theorem dX_scrub_2 : decode cX_scrub 2 = .ok (.iconst 0, 1) := by decide +kernel
theorem dX_scrub_3 : decode cX_scrub 3 = .ok (.istore_n 2, 1) := by decide +kernel
theorem dX_scrub_4 : decode cX_scrub 4 = .ok (.iload_n 2, 1) := by decide +kernel
theorem dX_scrub_5 : decode cX_scrub 5 = .ok (.bipush 100, 2) := by decide +kernel
theorem dX_scrub_7 : decode cX_scrub 7 = .ok (.if_icmp .ge 28, 3) := by decide +kernel
theorem dX_scrub_10 : decode cX_scrub 10 = .ok (.aload_n 0, 1) := by decide +kernel
theorem dX_scrub_11 : decode cX_scrub 11 = .ok (.iload_n 2, 1) := by decide +kernel
theorem dX_scrub_12 : decode cX_scrub 12 = .ok (.invokevirtual 87, 3) := by decide +kernel
theorem dX_scrub_15 : decode cX_scrub 15 = .ok (.ifCond .eq 14, 3) := by decide +kernel
theorem dX_scrub_18 : decode cX_scrub 18 = .ok (.aload_n 0, 1) := by decide +kernel
theorem dX_scrub_19 : decode cX_scrub 19 = .ok (.iload_n 2, 1) := by decide +kernel
theorem dX_scrub_20 : decode cX_scrub 20 = .ok (.invokevirtual 91, 3) := by decide +kernel
theorem dX_scrub_23 : decode cX_scrub 23 = .ok (.ifCond .eq 6, 3) := by decide +kernel
theorem dX_scrub_26 : decode cX_scrub 26 = .ok (.iinc 1 1, 3) := by decide +kernel
theorem dX_scrub_29 : decode cX_scrub 29 = .ok (.iinc 2 1, 3) := by decide +kernel
theorem dX_scrub_32 : decode cX_scrub 32 = .ok (.goto (-28), 3) := by decide +kernel
theorem dX_scrub_35 : decode cX_scrub 35 = .ok (.iload_n 1, 1) := by decide +kernel
theorem dX_scrub_36 : decode cX_scrub 36 = .ok (.ireturn, 1) := by decide +kernel
theorem dX_state_0 : decode cX_state 0 = .ok (.iload_n 1, 1) := by decide +kernel
theorem dX_state_1 : decode cX_state 1 = .ok (.invokestatic 58, 3) := by decide +kernel
theorem dX_state_4 : decode cX_state 4 = .ok (.aload_n 0, 1) := by decide +kernel
theorem dX_state_5 : decode cX_state 5 = .ok (.getfield 13, 3) := by decide +kernel
theorem dX_state_8 : decode cX_state 8 = .ok (.iload_n 1, 1) := by decide +kernel
theorem dX_state_9 : decode cX_state 9 = .ok (.iaload, 1) := by decide +kernel
theorem dX_state_10 : decode cX_state 10 = .ok (.istore_n 2, 1) := by decide +kernel
theorem dX_state_11 : decode cX_state 11 = .ok (.iload_n 2, 1) := by decide +kernel
theorem dX_state_12 : decode cX_state 12 = .ok (.bipush 100, 2) := by decide +kernel
theorem dX_state_14 : decode cX_state 14 = .ok (.if_icmp .ne 5, 3) := by decide +kernel
theorem dX_state_17 : decode cX_state 17 = .ok (.iconst 0, 1) := by decide +kernel
theorem dX_state_18 : decode cX_state 18 = .ok (.ireturn, 1) := by decide +kernel
theorem dX_state_19 : decode cX_state 19 = .ok (.iload_n 2, 1) := by decide +kernel
theorem dX_state_20 : decode cX_state 20 = .ok (.iconst (-1), 1) := by decide +kernel
theorem dX_state_21 : decode cX_state 21 = .ok (.if_icmp .ne 5, 3) := by decide +kernel
theorem dX_state_24 : decode cX_state 24 = .ok (.iconst 1, 1) := by decide +kernel
theorem dX_state_25 : decode cX_state 25 = .ok (.ireturn, 1) := by decide +kernel
theorem dX_state_26 : decode cX_state 26 = .ok (.iconst 2, 1) := by decide +kernel
theorem dX_state_27 : decode cX_state 27 = .ok (.iload_n 2, 1) := by decide +kernel
theorem dX_state_28 : decode cX_state 28 = .ok (.iadd, 1) := by decide +kernel
theorem dX_state_29 : decode cX_state 29 = .ok (.ireturn, 1) := by decide +kernel
theorem dX_lost_0 : decode cX_lost 0 = .ok (.iconst 0, 1) := by decide +kernel
theorem dX_lost_1 : decode cX_lost 1 = .ok (.istore_n 1, 1) := by decide +kernel
theorem dX_lost_2 : decode cX_lost 2 = .ok (.iconst 0, 1) := by decide +kernel
theorem dX_lost_3 : decode cX_lost 3 = .ok (.istore_n 2, 1) := by decide +kernel
theorem dX_lost_4 : decode cX_lost 4 = .ok (.iload_n 2, 1) := by decide +kernel
theorem dX_lost_5 : decode cX_lost 5 = .ok (.sipush 400, 3) := by decide +kernel
theorem dX_lost_8 : decode cX_lost 8 = .ok (.if_icmp .ge 27, 3) := by decide +kernel
theorem dX_lost_11 : decode cX_lost 11 = .ok (.aload_n 0, 1) := by decide +kernel
theorem dX_lost_12 : decode cX_lost 12 = .ok (.iload_n 2, 1) := by decide +kernel
theorem dX_lost_13 : decode cX_lost 13 = .ok (.invokestatic 28, 3) := by decide +kernel
theorem dX_lost_16 : decode cX_lost 16 = .ok (.iload_n 2, 1) := by decide +kernel
theorem dX_lost_17 : decode cX_lost 17 = .ok (.invokestatic 24, 3) := by decide +kernel
theorem dX_lost_20 : decode cX_lost 20 = .ok (.invokevirtual 31, 3) := by decide +kernel
theorem dX_lost_23 : decode cX_lost 23 = .ok (.ifCond .eq 6, 3) := by decide +kernel
theorem dX_lost_26 : decode cX_lost 26 = .ok (.iinc 1 1, 3) := by decide +kernel
theorem dX_lost_29 : decode cX_lost 29 = .ok (.iinc 2 1, 3) := by decide +kernel
theorem dX_lost_32 : decode cX_lost 32 = .ok (.goto (-28), 3) := by decide +kernel
theorem dX_lost_35 : decode cX_lost 35 = .ok (.iload_n 1, 1) := by decide +kernel
theorem dX_lost_36 : decode cX_lost 36 = .ok (.ireturn, 1) := by decide +kernel
theorem dX_checkDisk_0 : decode cX_checkDisk 0 = .ok (.iload_n 0, 1) := by decide +kernel
theorem dX_checkDisk_1 : decode cX_checkDisk 1 = .ok (.ifCond .lt 8, 3) := by decide +kernel
theorem dX_checkDisk_4 : decode cX_checkDisk 4 = .ok (.iload_n 0, 1) := by decide +kernel
theorem dX_checkDisk_5 : decode cX_checkDisk 5 = .ok (.iconst 5, 1) := by decide +kernel
theorem dX_checkDisk_6 : decode cX_checkDisk 6 = .ok (.if_icmp .lt 13, 3) := by decide +kernel
theorem dX_checkDisk_9 : decode cX_checkDisk 9 = .ok (.new 66, 3) := by decide +kernel
theorem dX_checkDisk_12 : decode cX_checkDisk 12 = .ok (.dup, 1) := by decide +kernel
theorem dX_checkDisk_13 : decode cX_checkDisk 13 = .ok (.ldc 94, 2) := by decide +kernel
theorem dX_checkDisk_15 : decode cX_checkDisk 15 = .ok (.invokespecial 70, 3) := by decide +kernel
theorem dX_checkDisk_18 : decode cX_checkDisk 18 = .ok (.athrow, 1) := by decide +kernel
theorem dX_checkDisk_19 : decode cX_checkDisk 19 = .ok (.return_, 1) := by decide +kernel
theorem dX_checkPlace_0 : decode cX_checkPlace 0 = .ok (.iload_n 0, 1) := by decide +kernel
theorem dX_checkPlace_1 : decode cX_checkPlace 1 = .ok (.ifCond .lt 10, 3) := by decide +kernel
theorem dX_checkPlace_4 : decode cX_checkPlace 4 = .ok (.iload_n 0, 1) := by decide +kernel
theorem dX_checkPlace_5 : decode cX_checkPlace 5 = .ok (.sipush 400, 3) := by decide +kernel
theorem dX_checkPlace_8 : decode cX_checkPlace 8 = .ok (.if_icmp .lt 13, 3) := by decide +kernel
theorem dX_checkPlace_11 : decode cX_checkPlace 11 = .ok (.new 66, 3) := by decide +kernel
theorem dX_checkPlace_14 : decode cX_checkPlace 14 = .ok (.dup, 1) := by decide +kernel
theorem dX_checkPlace_15 : decode cX_checkPlace 15 = .ok (.ldc 96, 2) := by decide +kernel
theorem dX_checkPlace_17 : decode cX_checkPlace 17 = .ok (.invokespecial 70, 3) := by decide +kernel
theorem dX_checkPlace_20 : decode cX_checkPlace 20 = .ok (.athrow, 1) := by decide +kernel
theorem dX_checkPlace_21 : decode cX_checkPlace 21 = .ok (.return_, 1) := by decide +kernel
theorem dX_checkHalf_0 : decode cX_checkHalf 0 = .ok (.iload_n 0, 1) := by decide +kernel
theorem dX_checkHalf_1 : decode cX_checkHalf 1 = .ok (.ifCond .lt 8, 3) := by decide +kernel
theorem dX_checkHalf_4 : decode cX_checkHalf 4 = .ok (.iload_n 0, 1) := by decide +kernel
theorem dX_checkHalf_5 : decode cX_checkHalf 5 = .ok (.iconst 2, 1) := by decide +kernel
theorem dX_checkHalf_6 : decode cX_checkHalf 6 = .ok (.if_icmp .lt 13, 3) := by decide +kernel
theorem dX_checkHalf_9 : decode cX_checkHalf 9 = .ok (.new 66, 3) := by decide +kernel
theorem dX_checkHalf_12 : decode cX_checkHalf 12 = .ok (.dup, 1) := by decide +kernel
theorem dX_checkHalf_13 : decode cX_checkHalf 13 = .ok (.ldc 98, 2) := by decide +kernel
theorem dX_checkHalf_15 : decode cX_checkHalf 15 = .ok (.invokespecial 70, 3) := by decide +kernel
theorem dX_checkHalf_18 : decode cX_checkHalf 18 = .ok (.athrow, 1) := by decide +kernel
theorem dX_checkHalf_19 : decode cX_checkHalf 19 = .ok (.return_, 1) := by decide +kernel
theorem dX_checkBlock_0 : decode cX_checkBlock 0 = .ok (.iload_n 0, 1) := by decide +kernel
theorem dX_checkBlock_1 : decode cX_checkBlock 1 = .ok (.ifCond .lt 9, 3) := by decide +kernel
theorem dX_checkBlock_4 : decode cX_checkBlock 4 = .ok (.iload_n 0, 1) := by decide +kernel
theorem dX_checkBlock_5 : decode cX_checkBlock 5 = .ok (.bipush 100, 2) := by decide +kernel
theorem dX_checkBlock_7 : decode cX_checkBlock 7 = .ok (.if_icmp .lt 13, 3) := by decide +kernel
theorem dX_checkBlock_10 : decode cX_checkBlock 10 = .ok (.new 66, 3) := by decide +kernel
theorem dX_checkBlock_13 : decode cX_checkBlock 13 = .ok (.dup, 1) := by decide +kernel
theorem dX_checkBlock_14 : decode cX_checkBlock 14 = .ok (.ldc 100, 2) := by decide +kernel
theorem dX_checkBlock_16 : decode cX_checkBlock 16 = .ok (.invokespecial 70, 3) := by decide +kernel
theorem dX_checkBlock_19 : decode cX_checkBlock 19 = .ok (.athrow, 1) := by decide +kernel
theorem dX_checkBlock_20 : decode cX_checkBlock 20 = .ok (.return_, 1) := by decide +kernel
theorem dX_checkStanding_0 : decode cX_checkStanding 0 = .ok (.iload_n 1, 1) := by decide +kernel
theorem dX_checkStanding_1 : decode cX_checkStanding 1 = .ok (.invokestatic 58, 3) := by decide +kernel
theorem dX_checkStanding_4 : decode cX_checkStanding 4 = .ok (.iload_n 2, 1) := by decide +kernel
theorem dX_checkStanding_5 : decode cX_checkStanding 5 = .ok (.invokestatic 102, 3) := by decide +kernel
theorem dX_checkStanding_8 : decode cX_checkStanding 8 = .ok (.iload_n 3, 1) := by decide +kernel
theorem dX_checkStanding_9 : decode cX_checkStanding 9 = .ok (.invokestatic 21, 3) := by decide +kernel
theorem dX_checkStanding_12 : decode cX_checkStanding 12 = .ok (.aload_n 0, 1) := by decide +kernel
theorem dX_checkStanding_13 : decode cX_checkStanding 13 = .ok (.getfield 13, 3) := by decide +kernel
theorem dX_checkStanding_16 : decode cX_checkStanding 16 = .ok (.iload_n 1, 1) := by decide +kernel
theorem dX_checkStanding_17 : decode cX_checkStanding 17 = .ok (.iaload, 1) := by decide +kernel
theorem dX_checkStanding_18 : decode cX_checkStanding 18 = .ok (.iconst (-1), 1) := by decide +kernel
theorem dX_checkStanding_19 : decode cX_checkStanding 19 = .ok (.if_icmp .ne 13, 3) := by decide +kernel
theorem dX_checkStanding_22 : decode cX_checkStanding 22 = .ok (.new 61, 3) := by decide +kernel
theorem dX_checkStanding_25 : decode cX_checkStanding 25 = .ok (.dup, 1) := by decide +kernel
theorem dX_checkStanding_26 : decode cX_checkStanding 26 = .ok (.ldc 105, 2) := by decide +kernel
theorem dX_checkStanding_28 : decode cX_checkStanding 28 = .ok (.invokespecial 65, 3) := by decide +kernel
theorem dX_checkStanding_31 : decode cX_checkStanding 31 = .ok (.athrow, 1) := by decide +kernel
theorem dX_checkStanding_32 : decode cX_checkStanding 32 = .ok (.return_, 1) := by decide +kernel
theorem dX_stripeOf_0 : decode cX_stripeOf 0 = .ok (.iload_n 0, 1) := by decide +kernel
theorem dX_stripeOf_1 : decode cX_stripeOf 1 = .ok (.iconst 4, 1) := by decide +kernel
theorem dX_stripeOf_2 : decode cX_stripeOf 2 = .ok (.idiv, 1) := by decide +kernel
theorem dX_stripeOf_3 : decode cX_stripeOf 3 = .ok (.ireturn, 1) := by decide +kernel
theorem dX_parityDiskOf_0 : decode cX_parityDiskOf 0 = .ok (.iload_n 0, 1) := by decide +kernel
theorem dX_parityDiskOf_1 : decode cX_parityDiskOf 1 = .ok (.iconst 5, 1) := by decide +kernel
theorem dX_parityDiskOf_2 : decode cX_parityDiskOf 2 = .ok (.irem, 1) := by decide +kernel
theorem dX_parityDiskOf_3 : decode cX_parityDiskOf 3 = .ok (.ireturn, 1) := by decide +kernel
theorem dX_diskOf_0 : decode cX_diskOf 0 = .ok (.iload_n 0, 1) := by decide +kernel
theorem dX_diskOf_1 : decode cX_diskOf 1 = .ok (.iconst 4, 1) := by decide +kernel
theorem dX_diskOf_2 : decode cX_diskOf 2 = .ok (.irem, 1) := by decide +kernel
theorem dX_diskOf_3 : decode cX_diskOf 3 = .ok (.istore_n 1, 1) := by decide +kernel
theorem dX_diskOf_4 : decode cX_diskOf 4 = .ok (.iload_n 1, 1) := by decide +kernel
theorem dX_diskOf_5 : decode cX_diskOf 5 = .ok (.iload_n 0, 1) := by decide +kernel
theorem dX_diskOf_6 : decode cX_diskOf 6 = .ok (.invokestatic 24, 3) := by decide +kernel
theorem dX_diskOf_9 : decode cX_diskOf 9 = .ok (.invokestatic 48, 3) := by decide +kernel
theorem dX_diskOf_12 : decode cX_diskOf 12 = .ok (.if_icmp .ge 7, 3) := by decide +kernel
theorem dX_diskOf_15 : decode cX_diskOf 15 = .ok (.iload_n 1, 1) := by decide +kernel
theorem dX_diskOf_16 : decode cX_diskOf 16 = .ok (.goto 6, 3) := by decide +kernel
theorem dX_diskOf_19 : decode cX_diskOf 19 = .ok (.iload_n 1, 1) := by decide +kernel
theorem dX_diskOf_20 : decode cX_diskOf 20 = .ok (.iconst 1, 1) := by decide +kernel
theorem dX_diskOf_21 : decode cX_diskOf 21 = .ok (.iadd, 1) := by decide +kernel
theorem dX_diskOf_22 : decode cX_diskOf 22 = .ok (.ireturn, 1) := by decide +kernel
theorem dX_cellOf_0 : decode cX_cellOf 0 = .ok (.iload_n 0, 1) := by decide +kernel
theorem dX_cellOf_1 : decode cX_cellOf 1 = .ok (.bipush 100, 2) := by decide +kernel
theorem dX_cellOf_3 : decode cX_cellOf 3 = .ok (.imul, 1) := by decide +kernel
theorem dX_cellOf_4 : decode cX_cellOf 4 = .ok (.iload_n 1, 1) := by decide +kernel
theorem dX_cellOf_5 : decode cX_cellOf 5 = .ok (.iadd, 1) := by decide +kernel
theorem dX_cellOf_6 : decode cX_cellOf 6 = .ok (.iconst 2, 1) := by decide +kernel
theorem dX_cellOf_7 : decode cX_cellOf 7 = .ok (.imul, 1) := by decide +kernel
theorem dX_cellOf_8 : decode cX_cellOf 8 = .ok (.iload_n 2, 1) := by decide +kernel
theorem dX_cellOf_9 : decode cX_cellOf 9 = .ok (.iadd, 1) := by decide +kernel
theorem dX_cellOf_10 : decode cX_cellOf 10 = .ok (.ireturn, 1) := by decide +kernel
theorem dX_canBeUsed_0 : decode cX_canBeUsed 0 = .ok (.iload_n 2, 1) := by decide +kernel
theorem dX_canBeUsed_1 : decode cX_canBeUsed 1 = .ok (.aload_n 0, 1) := by decide +kernel
theorem dX_canBeUsed_2 : decode cX_canBeUsed 2 = .ok (.getfield 13, 3) := by decide +kernel
theorem dX_canBeUsed_5 : decode cX_canBeUsed 5 = .ok (.iload_n 1, 1) := by decide +kernel
theorem dX_canBeUsed_6 : decode cX_canBeUsed 6 = .ok (.iaload, 1) := by decide +kernel
theorem dX_canBeUsed_7 : decode cX_canBeUsed 7 = .ok (.if_icmp .ge 7, 3) := by decide +kernel
theorem dX_canBeUsed_10 : decode cX_canBeUsed 10 = .ok (.iconst 1, 1) := by decide +kernel
theorem dX_canBeUsed_11 : decode cX_canBeUsed 11 = .ok (.goto 4, 3) := by decide +kernel
theorem dX_canBeUsed_14 : decode cX_canBeUsed 14 = .ok (.iconst 0, 1) := by decide +kernel
theorem dX_canBeUsed_15 : decode cX_canBeUsed 15 = .ok (.ireturn, 1) := by decide +kernel
theorem dX_othersCanBeUsed_0 : decode cX_othersCanBeUsed 0 = .ok (.iconst 0, 1) := by decide +kernel
theorem dX_othersCanBeUsed_1 : decode cX_othersCanBeUsed 1 = .ok (.istore_n 3, 1) := by decide +kernel
theorem dX_othersCanBeUsed_2 : decode cX_othersCanBeUsed 2 = .ok (.iload_n 3, 1) := by decide +kernel
theorem dX_othersCanBeUsed_3 : decode cX_othersCanBeUsed 3 = .ok (.iconst 5, 1) := by decide +kernel
theorem dX_othersCanBeUsed_4 : decode cX_othersCanBeUsed 4 = .ok (.if_icmp .ge 25, 3) := by decide +kernel
theorem dX_othersCanBeUsed_7 : decode cX_othersCanBeUsed 7 = .ok (.iload_n 3, 1) := by decide +kernel
theorem dX_othersCanBeUsed_8 : decode cX_othersCanBeUsed 8 = .ok (.iload_n 1, 1) := by decide +kernel
theorem dX_othersCanBeUsed_9 : decode cX_othersCanBeUsed 9 = .ok (.if_icmp .eq 14, 3) := by decide +kernel
theorem dX_othersCanBeUsed_12 : decode cX_othersCanBeUsed 12 = .ok (.aload_n 0, 1) := by decide +kernel
theorem dX_othersCanBeUsed_13 : decode cX_othersCanBeUsed 13 = .ok (.iload_n 3, 1) := by decide +kernel
theorem dX_othersCanBeUsed_14 : decode cX_othersCanBeUsed 14 = .ok (.iload_n 2, 1) := by decide +kernel
theorem dX_othersCanBeUsed_15 : decode cX_othersCanBeUsed 15 = .ok (.invokevirtual 51, 3) := by decide +kernel
theorem dX_othersCanBeUsed_18 : decode cX_othersCanBeUsed 18 = .ok (.ifCond .ne 5, 3) := by decide +kernel
theorem dX_othersCanBeUsed_21 : decode cX_othersCanBeUsed 21 = .ok (.iconst 0, 1) := by decide +kernel
theorem dX_othersCanBeUsed_22 : decode cX_othersCanBeUsed 22 = .ok (.ireturn, 1) := by decide +kernel
theorem dX_othersCanBeUsed_23 : decode cX_othersCanBeUsed 23 = .ok (.iinc 3 1, 3) := by decide +kernel
theorem dX_othersCanBeUsed_26 : decode cX_othersCanBeUsed 26 = .ok (.goto (-24), 3) := by decide +kernel
theorem dX_othersCanBeUsed_29 : decode cX_othersCanBeUsed 29 = .ok (.iconst 1, 1) := by decide +kernel
theorem dX_othersCanBeUsed_30 : decode cX_othersCanBeUsed 30 = .ok (.ireturn, 1) := by decide +kernel
theorem dX_allCanBeUsed_0 : decode cX_allCanBeUsed 0 = .ok (.iload_n 1, 1) := by decide +kernel
theorem dX_allCanBeUsed_1 : decode cX_allCanBeUsed 1 = .ok (.invokestatic 48, 3) := by decide +kernel
theorem dX_allCanBeUsed_4 : decode cX_allCanBeUsed 4 = .ok (.istore_n 2, 1) := by decide +kernel
theorem dX_allCanBeUsed_5 : decode cX_allCanBeUsed 5 = .ok (.aload_n 0, 1) := by decide +kernel
theorem dX_allCanBeUsed_6 : decode cX_allCanBeUsed 6 = .ok (.iload_n 2, 1) := by decide +kernel
theorem dX_allCanBeUsed_7 : decode cX_allCanBeUsed 7 = .ok (.iload_n 1, 1) := by decide +kernel
theorem dX_allCanBeUsed_8 : decode cX_allCanBeUsed 8 = .ok (.invokevirtual 51, 3) := by decide +kernel
theorem dX_allCanBeUsed_11 : decode cX_allCanBeUsed 11 = .ok (.ifCond .eq 16, 3) := by decide +kernel
theorem dX_allCanBeUsed_14 : decode cX_allCanBeUsed 14 = .ok (.aload_n 0, 1) := by decide +kernel
theorem dX_allCanBeUsed_15 : decode cX_allCanBeUsed 15 = .ok (.iload_n 2, 1) := by decide +kernel
theorem dX_allCanBeUsed_16 : decode cX_allCanBeUsed 16 = .ok (.iload_n 1, 1) := by decide +kernel
theorem dX_allCanBeUsed_17 : decode cX_allCanBeUsed 17 = .ok (.invokevirtual 107, 3) := by decide +kernel
theorem dX_allCanBeUsed_20 : decode cX_allCanBeUsed 20 = .ok (.ifCond .eq 7, 3) := by decide +kernel
theorem dX_allCanBeUsed_23 : decode cX_allCanBeUsed 23 = .ok (.iconst 1, 1) := by decide +kernel
theorem dX_allCanBeUsed_24 : decode cX_allCanBeUsed 24 = .ok (.goto 4, 3) := by decide +kernel
theorem dX_allCanBeUsed_27 : decode cX_allCanBeUsed 27 = .ok (.iconst 0, 1) := by decide +kernel
theorem dX_allCanBeUsed_28 : decode cX_allCanBeUsed 28 = .ok (.ireturn, 1) := by decide +kernel
theorem dX_isLost_0 : decode cX_isLost 0 = .ok (.aload_n 0, 1) := by decide +kernel
theorem dX_isLost_1 : decode cX_isLost 1 = .ok (.iload_n 1, 1) := by decide +kernel
theorem dX_isLost_2 : decode cX_isLost 2 = .ok (.iload_n 2, 1) := by decide +kernel
theorem dX_isLost_3 : decode cX_isLost 3 = .ok (.invokevirtual 51, 3) := by decide +kernel
theorem dX_isLost_6 : decode cX_isLost 6 = .ok (.ifCond .ne 16, 3) := by decide +kernel
theorem dX_isLost_9 : decode cX_isLost 9 = .ok (.aload_n 0, 1) := by decide +kernel
theorem dX_isLost_10 : decode cX_isLost 10 = .ok (.iload_n 1, 1) := by decide +kernel
theorem dX_isLost_11 : decode cX_isLost 11 = .ok (.iload_n 2, 1) := by decide +kernel
theorem dX_isLost_12 : decode cX_isLost 12 = .ok (.invokevirtual 107, 3) := by decide +kernel
theorem dX_isLost_15 : decode cX_isLost 15 = .ok (.ifCond .ne 7, 3) := by decide +kernel
theorem dX_isLost_18 : decode cX_isLost 18 = .ok (.iconst 1, 1) := by decide +kernel
theorem dX_isLost_19 : decode cX_isLost 19 = .ok (.goto 4, 3) := by decide +kernel
theorem dX_isLost_22 : decode cX_isLost 22 = .ok (.iconst 0, 1) := by decide +kernel
theorem dX_isLost_23 : decode cX_isLost 23 = .ok (.ireturn, 1) := by decide +kernel
theorem dX_whatItHas_0 : decode cX_whatItHas 0 = .ok (.aload_n 0, 1) := by decide +kernel
theorem dX_whatItHas_1 : decode cX_whatItHas 1 = .ok (.iload_n 1, 1) := by decide +kernel
theorem dX_whatItHas_2 : decode cX_whatItHas 2 = .ok (.iload_n 2, 1) := by decide +kernel
theorem dX_whatItHas_3 : decode cX_whatItHas 3 = .ok (.invokevirtual 51, 3) := by decide +kernel
theorem dX_whatItHas_6 : decode cX_whatItHas 6 = .ok (.ifCond .eq 15, 3) := by decide +kernel
theorem dX_whatItHas_9 : decode cX_whatItHas 9 = .ok (.aload_n 0, 1) := by decide +kernel
theorem dX_whatItHas_10 : decode cX_whatItHas 10 = .ok (.getfield 9, 3) := by decide +kernel
theorem dX_whatItHas_13 : decode cX_whatItHas 13 = .ok (.iload_n 1, 1) := by decide +kernel
theorem dX_whatItHas_14 : decode cX_whatItHas 14 = .ok (.iload_n 2, 1) := by decide +kernel
theorem dX_whatItHas_15 : decode cX_whatItHas 15 = .ok (.iload_n 3, 1) := by decide +kernel
theorem dX_whatItHas_16 : decode cX_whatItHas 16 = .ok (.invokestatic 54, 3) := by decide +kernel
theorem dX_whatItHas_19 : decode cX_whatItHas 19 = .ok (.laload, 1) := by decide +kernel
theorem dX_whatItHas_20 : decode cX_whatItHas 20 = .ok (.lreturn, 1) := by decide +kernel
theorem dX_whatItHas_21 : decode cX_whatItHas 21 = .ok (.aload_n 0, 1) := by decide +kernel
theorem dX_whatItHas_22 : decode cX_whatItHas 22 = .ok (.iload_n 1, 1) := by decide +kernel
theorem dX_whatItHas_23 : decode cX_whatItHas 23 = .ok (.iload_n 2, 1) := by decide +kernel
theorem dX_whatItHas_24 : decode cX_whatItHas 24 = .ok (.iload_n 3, 1) := by decide +kernel
theorem dX_whatItHas_25 : decode cX_whatItHas 25 = .ok (.invokevirtual 110, 3) := by decide +kernel
theorem dX_whatItHas_28 : decode cX_whatItHas 28 = .ok (.lreturn, 1) := by decide +kernel
theorem dX_xorOfOthers_0 : decode cX_xorOfOthers 0 = .ok (.lconst 0, 1) := by decide +kernel
theorem dX_xorOfOthers_1 : decode cX_xorOfOthers 1 = .ok (.lstore 4, 2) := by decide +kernel
theorem dX_xorOfOthers_3 : decode cX_xorOfOthers 3 = .ok (.iconst 0, 1) := by decide +kernel
theorem dX_xorOfOthers_4 : decode cX_xorOfOthers 4 = .ok (.istore 6, 2) := by decide +kernel
theorem dX_xorOfOthers_6 : decode cX_xorOfOthers 6 = .ok (.iload 6, 2) := by decide +kernel
theorem dX_xorOfOthers_8 : decode cX_xorOfOthers 8 = .ok (.iconst 5, 1) := by decide +kernel
theorem dX_xorOfOthers_9 : decode cX_xorOfOthers 9 = .ok (.if_icmp .ge 32, 3) := by decide +kernel
theorem dX_xorOfOthers_12 : decode cX_xorOfOthers 12 = .ok (.iload 6, 2) := by decide +kernel
theorem dX_xorOfOthers_14 : decode cX_xorOfOthers 14 = .ok (.iload_n 1, 1) := by decide +kernel
theorem dX_xorOfOthers_15 : decode cX_xorOfOthers 15 = .ok (.if_icmp .eq 20, 3) := by decide +kernel
theorem dX_xorOfOthers_18 : decode cX_xorOfOthers 18 = .ok (.lload 4, 2) := by decide +kernel
theorem dX_xorOfOthers_20 : decode cX_xorOfOthers 20 = .ok (.aload_n 0, 1) := by decide +kernel
theorem dX_xorOfOthers_21 : decode cX_xorOfOthers 21 = .ok (.getfield 9, 3) := by decide +kernel
theorem dX_xorOfOthers_24 : decode cX_xorOfOthers 24 = .ok (.iload 6, 2) := by decide +kernel
theorem dX_xorOfOthers_26 : decode cX_xorOfOthers 26 = .ok (.iload_n 2, 1) := by decide +kernel
theorem dX_xorOfOthers_27 : decode cX_xorOfOthers 27 = .ok (.iload_n 3, 1) := by decide +kernel
theorem dX_xorOfOthers_28 : decode cX_xorOfOthers 28 = .ok (.invokestatic 54, 3) := by decide +kernel
theorem dX_xorOfOthers_31 : decode cX_xorOfOthers 31 = .ok (.laload, 1) := by decide +kernel
theorem dX_xorOfOthers_32 : decode cX_xorOfOthers 32 = .ok (.lxor, 1) := by decide +kernel
theorem dX_xorOfOthers_33 : decode cX_xorOfOthers 33 = .ok (.lstore 4, 2) := by decide +kernel
theorem dX_xorOfOthers_35 : decode cX_xorOfOthers 35 = .ok (.iinc 6 1, 3) := by decide +kernel
theorem dX_xorOfOthers_38 : decode cX_xorOfOthers 38 = .ok (.goto (-32), 3) := by decide +kernel
theorem dX_xorOfOthers_41 : decode cX_xorOfOthers 41 = .ok (.lload 4, 2) := by decide +kernel
theorem dX_xorOfOthers_43 : decode cX_xorOfOthers 43 = .ok (.lreturn, 1) := by decide +kernel
theorem dX_rebuildBlock_0 : decode cX_rebuildBlock 0 = .ok (.iconst 0, 1) := by decide +kernel
theorem dX_rebuildBlock_1 : decode cX_rebuildBlock 1 = .ok (.istore_n 3, 1) := by decide +kernel
theorem dX_rebuildBlock_2 : decode cX_rebuildBlock 2 = .ok (.iload_n 3, 1) := by decide +kernel
theorem dX_rebuildBlock_3 : decode cX_rebuildBlock 3 = .ok (.iconst 2, 1) := by decide +kernel
theorem dX_rebuildBlock_4 : decode cX_rebuildBlock 4 = .ok (.if_icmp .ge 27, 3) := by decide +kernel
theorem dX_rebuildBlock_7 : decode cX_rebuildBlock 7 = .ok (.aload_n 0, 1) := by decide +kernel
theorem dX_rebuildBlock_8 : decode cX_rebuildBlock 8 = .ok (.getfield 9, 3) := by decide +kernel
theorem dX_rebuildBlock_11 : decode cX_rebuildBlock 11 = .ok (.iload_n 1, 1) := by decide +kernel
theorem dX_rebuildBlock_12 : decode cX_rebuildBlock 12 = .ok (.iload_n 2, 1) := by decide +kernel
theorem dX_rebuildBlock_13 : decode cX_rebuildBlock 13 = .ok (.iload_n 3, 1) := by decide +kernel
theorem dX_rebuildBlock_14 : decode cX_rebuildBlock 14 = .ok (.invokestatic 54, 3) := by decide +kernel
theorem dX_rebuildBlock_17 : decode cX_rebuildBlock 17 = .ok (.aload_n 0, 1) := by decide +kernel
theorem dX_rebuildBlock_18 : decode cX_rebuildBlock 18 = .ok (.iload_n 1, 1) := by decide +kernel
theorem dX_rebuildBlock_19 : decode cX_rebuildBlock 19 = .ok (.iload_n 2, 1) := by decide +kernel
theorem dX_rebuildBlock_20 : decode cX_rebuildBlock 20 = .ok (.iload_n 3, 1) := by decide +kernel
theorem dX_rebuildBlock_21 : decode cX_rebuildBlock 21 = .ok (.invokevirtual 110, 3) := by decide +kernel
theorem dX_rebuildBlock_24 : decode cX_rebuildBlock 24 = .ok (.lastore, 1) := by decide +kernel
theorem dX_rebuildBlock_25 : decode cX_rebuildBlock 25 = .ok (.iinc 3 1, 3) := by decide +kernel
theorem dX_rebuildBlock_28 : decode cX_rebuildBlock 28 = .ok (.goto (-26), 3) := by decide +kernel
theorem dX_rebuildBlock_31 : decode cX_rebuildBlock 31 = .ok (.return_, 1) := by decide +kernel
theorem dX_mendParity_0 : decode cX_mendParity 0 = .ok (.iload_n 1, 1) := by decide +kernel
theorem dX_mendParity_1 : decode cX_mendParity 1 = .ok (.invokestatic 48, 3) := by decide +kernel
theorem dX_mendParity_4 : decode cX_mendParity 4 = .ok (.istore_n 2, 1) := by decide +kernel
theorem dX_mendParity_5 : decode cX_mendParity 5 = .ok (.iconst 0, 1) := by decide +kernel
theorem dX_mendParity_6 : decode cX_mendParity 6 = .ok (.istore_n 3, 1) := by decide +kernel
theorem dX_mendParity_7 : decode cX_mendParity 7 = .ok (.iconst 0, 1) := by decide +kernel
theorem dX_mendParity_8 : decode cX_mendParity 8 = .ok (.istore 4, 2) := by decide +kernel
theorem dX_mendParity_10 : decode cX_mendParity 10 = .ok (.iload 4, 2) := by decide +kernel
theorem dX_mendParity_12 : decode cX_mendParity 12 = .ok (.iconst 2, 1) := by decide +kernel
theorem dX_mendParity_13 : decode cX_mendParity 13 = .ok (.if_icmp .ge 52, 3) := by decide +kernel
theorem dX_mendParity_16 : decode cX_mendParity 16 = .ok (.iload_n 2, 1) := by decide +kernel
theorem dX_mendParity_17 : decode cX_mendParity 17 = .ok (.iload_n 1, 1) := by decide +kernel
theorem dX_mendParity_18 : decode cX_mendParity 18 = .ok (.iload 4, 2) := by decide +kernel
theorem dX_mendParity_20 : decode cX_mendParity 20 = .ok (.invokestatic 54, 3) := by decide +kernel
theorem dX_mendParity_23 : decode cX_mendParity 23 = .ok (.istore 5, 2) := by decide +kernel
theorem dX_mendParity_25 : decode cX_mendParity 25 = .ok (.aload_n 0, 1) := by decide +kernel
theorem dX_mendParity_26 : decode cX_mendParity 26 = .ok (.iload_n 2, 1) := by decide +kernel
theorem dX_mendParity_27 : decode cX_mendParity 27 = .ok (.iload_n 1, 1) := by decide +kernel
theorem dX_mendParity_28 : decode cX_mendParity 28 = .ok (.iload 4, 2) := by decide +kernel
theorem dX_mendParity_30 : decode cX_mendParity 30 = .ok (.invokevirtual 110, 3) := by decide +kernel
theorem dX_mendParity_33 : decode cX_mendParity 33 = .ok (.lstore 6, 2) := by decide +kernel
theorem dX_mendParity_35 : decode cX_mendParity 35 = .ok (.aload_n 0, 1) := by decide +kernel
theorem dX_mendParity_36 : decode cX_mendParity 36 = .ok (.getfield 9, 3) := by decide +kernel
theorem dX_mendParity_39 : decode cX_mendParity 39 = .ok (.iload 5, 2) := by decide +kernel
theorem dX_mendParity_41 : decode cX_mendParity 41 = .ok (.laload, 1) := by decide +kernel
theorem dX_mendParity_42 : decode cX_mendParity 42 = .ok (.lload 6, 2) := by decide +kernel
theorem dX_mendParity_44 : decode cX_mendParity 44 = .ok (.lcmp, 1) := by decide +kernel
theorem dX_mendParity_45 : decode cX_mendParity 45 = .ok (.ifCond .eq 14, 3) := by decide +kernel
theorem dX_mendParity_48 : decode cX_mendParity 48 = .ok (.aload_n 0, 1) := by decide +kernel
theorem dX_mendParity_49 : decode cX_mendParity 49 = .ok (.getfield 9, 3) := by decide +kernel
theorem dX_mendParity_52 : decode cX_mendParity 52 = .ok (.iload 5, 2) := by decide +kernel
theorem dX_mendParity_54 : decode cX_mendParity 54 = .ok (.lload 6, 2) := by decide +kernel
theorem dX_mendParity_56 : decode cX_mendParity 56 = .ok (.lastore, 1) := by decide +kernel
theorem dX_mendParity_57 : decode cX_mendParity 57 = .ok (.iconst 1, 1) := by decide +kernel
theorem dX_mendParity_58 : decode cX_mendParity 58 = .ok (.istore_n 3, 1) := by decide +kernel
theorem dX_mendParity_59 : decode cX_mendParity 59 = .ok (.iinc 4 1, 3) := by decide +kernel
theorem dX_mendParity_62 : decode cX_mendParity 62 = .ok (.goto (-52), 3) := by decide +kernel
theorem dX_mendParity_65 : decode cX_mendParity 65 = .ok (.iload_n 3, 1) := by decide +kernel
theorem dX_mendParity_66 : decode cX_mendParity 66 = .ok (.ireturn, 1) := by decide +kernel
theorem dM_init_0 : decode cM_init 0 = .ok (.aload_n 0, 1) := by decide +kernel
theorem dM_init_1 : decode cM_init 1 = .ok (.invokespecial 1, 3) := by decide +kernel
theorem dM_init_4 : decode cM_init 4 = .ok (.aload_n 0, 1) := by decide +kernel
theorem dM_init_5 : decode cM_init 5 = .ok (.sipush 1000, 3) := by decide +kernel
theorem dM_init_8 : decode cM_init 8 = .ok (.newarray .long, 2) := by decide +kernel
theorem dM_init_10 : decode cM_init 10 = .ok (.putfield 7, 3) := by decide +kernel
theorem dM_init_13 : decode cM_init 13 = .ok (.aload_n 0, 1) := by decide +kernel
theorem dM_init_14 : decode cM_init 14 = .ok (.iconst 5, 1) := by decide +kernel
theorem dM_init_15 : decode cM_init 15 = .ok (.newarray .int, 2) := by decide +kernel
theorem dM_init_17 : decode cM_init 17 = .ok (.putfield 13, 3) := by decide +kernel
theorem dM_init_20 : decode cM_init 20 = .ok (.iconst 0, 1) := by decide +kernel
theorem dM_init_21 : decode cM_init 21 = .ok (.istore_n 1, 1) := by decide +kernel
theorem dM_init_22 : decode cM_init 22 = .ok (.iload_n 1, 1) := by decide +kernel
theorem dM_init_23 : decode cM_init 23 = .ok (.iconst 5, 1) := by decide +kernel
theorem dM_init_24 : decode cM_init 24 = .ok (.if_icmp .ge 17, 3) := by decide +kernel
theorem dM_init_27 : decode cM_init 27 = .ok (.aload_n 0, 1) := by decide +kernel
theorem dM_init_28 : decode cM_init 28 = .ok (.getfield 13, 3) := by decide +kernel
theorem dM_init_31 : decode cM_init 31 = .ok (.iload_n 1, 1) := by decide +kernel
theorem dM_init_32 : decode cM_init 32 = .ok (.bipush 100, 2) := by decide +kernel
theorem dM_init_34 : decode cM_init 34 = .ok (.iastore, 1) := by decide +kernel
theorem dM_init_35 : decode cM_init 35 = .ok (.iinc 1 1, 3) := by decide +kernel
theorem dM_init_38 : decode cM_init 38 = .ok (.goto (-16), 3) := by decide +kernel
theorem dM_init_41 : decode cM_init 41 = .ok (.return_, 1) := by decide +kernel
theorem dM_thrown_0 : decode cM_thrown 0 = .ok (.aload_n 0, 1) := by decide +kernel
theorem dM_thrown_1 : decode cM_thrown 1 = .ok (.getfield 17, 3) := by decide +kernel
theorem dM_thrown_4 : decode cM_thrown 4 = .ok (.ireturn, 1) := by decide +kernel
theorem dM_fails_0 : decode cM_fails 0 = .ok (.aload_n 0, 1) := by decide +kernel
theorem dM_fails_1 : decode cM_fails 1 = .ok (.iload_n 1, 1) := by decide +kernel
theorem dM_fails_2 : decode cM_fails 2 = .ok (.ifCond .eq 7, 3) := by decide +kernel
theorem dM_fails_5 : decode cM_fails 5 = .ok (.iload_n 2, 1) := by decide +kernel
theorem dM_fails_6 : decode cM_fails 6 = .ok (.goto 4, 3) := by decide +kernel
theorem dM_fails_9 : decode cM_fails 9 = .ok (.iconst 0, 1) := by decide +kernel
theorem dM_fails_10 : decode cM_fails 10 = .ok (.putfield 17, 3) := by decide +kernel
theorem dM_fails_13 : decode cM_fails 13 = .ok (.iload_n 1, 1) := by decide +kernel
theorem dM_fails_14 : decode cM_fails 14 = .ok (.ireturn, 1) := by decide +kernel
theorem dM_at_0 : decode cM_at 0 = .ok (.iload_n 0, 1) := by decide +kernel
theorem dM_at_1 : decode cM_at 1 = .ok (.bipush 100, 2) := by decide +kernel
theorem dM_at_3 : decode cM_at 3 = .ok (.imul, 1) := by decide +kernel
theorem dM_at_4 : decode cM_at 4 = .ok (.iload_n 1, 1) := by decide +kernel
theorem dM_at_5 : decode cM_at 5 = .ok (.iadd, 1) := by decide +kernel
theorem dM_at_6 : decode cM_at 6 = .ok (.iconst 2, 1) := by decide +kernel
theorem dM_at_7 : decode cM_at 7 = .ok (.imul, 1) := by decide +kernel
theorem dM_at_8 : decode cM_at 8 = .ok (.iload_n 2, 1) := by decide +kernel
theorem dM_at_9 : decode cM_at 9 = .ok (.iadd, 1) := by decide +kernel
theorem dM_at_10 : decode cM_at 10 = .ok (.ireturn, 1) := by decide +kernel
theorem dM_usable_0 : decode cM_usable 0 = .ok (.aload_n 0, 1) := by decide +kernel
theorem dM_usable_1 : decode cM_usable 1 = .ok (.getfield 13, 3) := by decide +kernel
theorem dM_usable_4 : decode cM_usable 4 = .ok (.iload_n 1, 1) := by decide +kernel
theorem dM_usable_5 : decode cM_usable 5 = .ok (.iaload, 1) := by decide +kernel
theorem dM_usable_6 : decode cM_usable 6 = .ok (.iload_n 2, 1) := by decide +kernel
theorem dM_usable_7 : decode cM_usable 7 = .ok (.if_icmp .le 7, 3) := by decide +kernel
theorem dM_usable_10 : decode cM_usable 10 = .ok (.iconst 1, 1) := by decide +kernel
theorem dM_usable_11 : decode cM_usable 11 = .ok (.goto 4, 3) := by decide +kernel
theorem dM_usable_14 : decode cM_usable 14 = .ok (.iconst 0, 1) := by decide +kernel
theorem dM_usable_15 : decode cM_usable 15 = .ok (.ireturn, 1) := by decide +kernel
theorem dM_gone_0 : decode cM_gone 0 = .ok (.aload_n 0, 1) := by decide +kernel
theorem dM_gone_1 : decode cM_gone 1 = .ok (.iload_n 1, 1) := by decide +kernel
theorem dM_gone_2 : decode cM_gone 2 = .ok (.iload_n 2, 1) := by decide +kernel
theorem dM_gone_3 : decode cM_gone 3 = .ok (.invokevirtual 21, 3) := by decide +kernel
theorem dM_gone_6 : decode cM_gone 6 = .ok (.ifCond .eq 5, 3) := by decide +kernel
theorem dM_gone_9 : decode cM_gone 9 = .ok (.iconst 0, 1) := by decide +kernel
theorem dM_gone_10 : decode cM_gone 10 = .ok (.ireturn, 1) := by decide +kernel
theorem dM_gone_11 : decode cM_gone 11 = .ok (.iconst 0, 1) := by decide +kernel
theorem dM_gone_12 : decode cM_gone 12 = .ok (.istore_n 3, 1) := by decide +kernel
theorem dM_gone_13 : decode cM_gone 13 = .ok (.iload_n 3, 1) := by decide +kernel
theorem dM_gone_14 : decode cM_gone 14 = .ok (.iconst 5, 1) := by decide +kernel
theorem dM_gone_15 : decode cM_gone 15 = .ok (.if_icmp .ge 25, 3) := by decide +kernel
theorem dM_gone_18 : decode cM_gone 18 = .ok (.iload_n 3, 1) := by decide +kernel
theorem dM_gone_19 : decode cM_gone 19 = .ok (.iload_n 1, 1) := by decide +kernel
theorem dM_gone_20 : decode cM_gone 20 = .ok (.if_icmp .eq 14, 3) := by decide +kernel
theorem dM_gone_23 : decode cM_gone 23 = .ok (.aload_n 0, 1) := by decide +kernel
theorem dM_gone_24 : decode cM_gone 24 = .ok (.iload_n 3, 1) := by decide +kernel
theorem dM_gone_25 : decode cM_gone 25 = .ok (.iload_n 2, 1) := by decide +kernel
theorem dM_gone_26 : decode cM_gone 26 = .ok (.invokevirtual 21, 3) := by decide +kernel
theorem dM_gone_29 : decode cM_gone 29 = .ok (.ifCond .ne 5, 3) := by decide +kernel
theorem dM_gone_32 : decode cM_gone 32 = .ok (.iconst 1, 1) := by decide +kernel
theorem dM_gone_33 : decode cM_gone 33 = .ok (.ireturn, 1) := by decide +kernel
theorem dM_gone_34 : decode cM_gone 34 = .ok (.iinc 3 1, 3) := by decide +kernel
theorem dM_gone_37 : decode cM_gone 37 = .ok (.goto (-24), 3) := by decide +kernel
theorem dM_gone_40 : decode cM_gone 40 = .ok (.iconst 0, 1) := by decide +kernel
theorem dM_gone_41 : decode cM_gone 41 = .ok (.ireturn, 1) := by decide +kernel
theorem dM_others_0 : decode cM_others 0 = .ok (.lconst 0, 1) := by decide +kernel
theorem dM_others_1 : decode cM_others 1 = .ok (.lstore 4, 2) := by decide +kernel
theorem dM_others_3 : decode cM_others 3 = .ok (.iconst 0, 1) := by decide +kernel
theorem dM_others_4 : decode cM_others 4 = .ok (.istore 6, 2) := by decide +kernel
theorem dM_others_6 : decode cM_others 6 = .ok (.iload 6, 2) := by decide +kernel
theorem dM_others_8 : decode cM_others 8 = .ok (.iconst 5, 1) := by decide +kernel
theorem dM_others_9 : decode cM_others 9 = .ok (.if_icmp .ge 32, 3) := by decide +kernel
theorem dM_others_12 : decode cM_others 12 = .ok (.iload 6, 2) := by decide +kernel
theorem dM_others_14 : decode cM_others 14 = .ok (.iload_n 1, 1) := by decide +kernel
theorem dM_others_15 : decode cM_others 15 = .ok (.if_icmp .eq 20, 3) := by decide +kernel
theorem dM_others_18 : decode cM_others 18 = .ok (.lload 4, 2) := by decide +kernel
theorem dM_others_20 : decode cM_others 20 = .ok (.aload_n 0, 1) := by decide +kernel
theorem dM_others_21 : decode cM_others 21 = .ok (.getfield 7, 3) := by decide +kernel
theorem dM_others_24 : decode cM_others 24 = .ok (.iload 6, 2) := by decide +kernel
theorem dM_others_26 : decode cM_others 26 = .ok (.iload_n 2, 1) := by decide +kernel
theorem dM_others_27 : decode cM_others 27 = .ok (.iload_n 3, 1) := by decide +kernel
theorem dM_others_28 : decode cM_others 28 = .ok (.invokestatic 25, 3) := by decide +kernel
theorem dM_others_31 : decode cM_others 31 = .ok (.laload, 1) := by decide +kernel
theorem dM_others_32 : decode cM_others 32 = .ok (.lxor, 1) := by decide +kernel
theorem dM_others_33 : decode cM_others 33 = .ok (.lstore 4, 2) := by decide +kernel
theorem dM_others_35 : decode cM_others 35 = .ok (.iinc 6 1, 3) := by decide +kernel
theorem dM_others_38 : decode cM_others 38 = .ok (.goto (-32), 3) := by decide +kernel
theorem dM_others_41 : decode cM_others 41 = .ok (.lload 4, 2) := by decide +kernel
theorem dM_others_43 : decode cM_others 43 = .ok (.lreturn, 1) := by decide +kernel
theorem dM_has_0 : decode cM_has 0 = .ok (.aload_n 0, 1) := by decide +kernel
theorem dM_has_1 : decode cM_has 1 = .ok (.iload_n 1, 1) := by decide +kernel
theorem dM_has_2 : decode cM_has 2 = .ok (.iload_n 2, 1) := by decide +kernel
theorem dM_has_3 : decode cM_has 3 = .ok (.invokevirtual 21, 3) := by decide +kernel
theorem dM_has_6 : decode cM_has 6 = .ok (.ifCond .eq 17, 3) := by decide +kernel
theorem dM_has_9 : decode cM_has 9 = .ok (.aload_n 0, 1) := by decide +kernel
theorem dM_has_10 : decode cM_has 10 = .ok (.getfield 7, 3) := by decide +kernel
theorem dM_has_13 : decode cM_has 13 = .ok (.iload_n 1, 1) := by decide +kernel
theorem dM_has_14 : decode cM_has 14 = .ok (.iload_n 2, 1) := by decide +kernel
theorem dM_has_15 : decode cM_has 15 = .ok (.iload_n 3, 1) := by decide +kernel
theorem dM_has_16 : decode cM_has 16 = .ok (.invokestatic 25, 3) := by decide +kernel
theorem dM_has_19 : decode cM_has 19 = .ok (.laload, 1) := by decide +kernel
theorem dM_has_20 : decode cM_has 20 = .ok (.goto 10, 3) := by decide +kernel
theorem dM_has_23 : decode cM_has 23 = .ok (.aload_n 0, 1) := by decide +kernel
theorem dM_has_24 : decode cM_has 24 = .ok (.iload_n 1, 1) := by decide +kernel
theorem dM_has_25 : decode cM_has 25 = .ok (.iload_n 2, 1) := by decide +kernel
theorem dM_has_26 : decode cM_has 26 = .ok (.iload_n 3, 1) := by decide +kernel
theorem dM_has_27 : decode cM_has 27 = .ok (.invokevirtual 29, 3) := by decide +kernel
theorem dM_has_30 : decode cM_has 30 = .ok (.lreturn, 1) := by decide +kernel
theorem dM_disk_0 : decode cM_disk 0 = .ok (.iload_n 0, 1) := by decide +kernel
theorem dM_disk_1 : decode cM_disk 1 = .ok (.iconst 4, 1) := by decide +kernel
theorem dM_disk_2 : decode cM_disk 2 = .ok (.irem, 1) := by decide +kernel
theorem dM_disk_3 : decode cM_disk 3 = .ok (.istore_n 1, 1) := by decide +kernel
theorem dM_disk_4 : decode cM_disk 4 = .ok (.iload_n 0, 1) := by decide +kernel
theorem dM_disk_5 : decode cM_disk 5 = .ok (.iconst 4, 1) := by decide +kernel
theorem dM_disk_6 : decode cM_disk 6 = .ok (.idiv, 1) := by decide +kernel
theorem dM_disk_7 : decode cM_disk 7 = .ok (.iconst 5, 1) := by decide +kernel
theorem dM_disk_8 : decode cM_disk 8 = .ok (.irem, 1) := by decide +kernel
theorem dM_disk_9 : decode cM_disk 9 = .ok (.istore_n 2, 1) := by decide +kernel
theorem dM_disk_10 : decode cM_disk 10 = .ok (.iload_n 1, 1) := by decide +kernel
theorem dM_disk_11 : decode cM_disk 11 = .ok (.iload_n 2, 1) := by decide +kernel
theorem dM_disk_12 : decode cM_disk 12 = .ok (.if_icmp .ge 7, 3) := by decide +kernel
theorem dM_disk_15 : decode cM_disk 15 = .ok (.iload_n 1, 1) := by decide +kernel
theorem dM_disk_16 : decode cM_disk 16 = .ok (.goto 6, 3) := by decide +kernel
theorem dM_disk_19 : decode cM_disk 19 = .ok (.iload_n 1, 1) := by decide +kernel
theorem dM_disk_20 : decode cM_disk 20 = .ok (.iconst 1, 1) := by decide +kernel
theorem dM_disk_21 : decode cM_disk 21 = .ok (.iadd, 1) := by decide +kernel
theorem dM_disk_22 : decode cM_disk 22 = .ok (.ireturn, 1) := by decide +kernel
theorem dM_noPlace_0 : decode cM_noPlace 0 = .ok (.iload_n 1, 1) := by decide +kernel
theorem dM_noPlace_1 : decode cM_noPlace 1 = .ok (.ifCond .lt 19, 3) := by decide +kernel
theorem dM_noPlace_4 : decode cM_noPlace 4 = .ok (.iload_n 1, 1) := by decide +kernel
theorem dM_noPlace_5 : decode cM_noPlace 5 = .ok (.sipush 400, 3) := by decide +kernel
theorem dM_noPlace_8 : decode cM_noPlace 8 = .ok (.if_icmp .ge 12, 3) := by decide +kernel
theorem dM_noPlace_11 : decode cM_noPlace 11 = .ok (.iload_n 2, 1) := by decide +kernel
theorem dM_noPlace_12 : decode cM_noPlace 12 = .ok (.ifCond .lt 8, 3) := by decide +kernel
theorem dM_noPlace_15 : decode cM_noPlace 15 = .ok (.iload_n 2, 1) := by decide +kernel
theorem dM_noPlace_16 : decode cM_noPlace 16 = .ok (.iconst 1, 1) := by decide +kernel
theorem dM_noPlace_17 : decode cM_noPlace 17 = .ok (.if_icmp .le 7, 3) := by decide +kernel
theorem dM_noPlace_20 : decode cM_noPlace 20 = .ok (.iconst 1, 1) := by decide +kernel
theorem dM_noPlace_21 : decode cM_noPlace 21 = .ok (.goto 4, 3) := by decide +kernel
theorem dM_noPlace_24 : decode cM_noPlace 24 = .ok (.iconst 0, 1) := by decide +kernel
theorem dM_noPlace_25 : decode cM_noPlace 25 = .ok (.ireturn, 1) := by decide +kernel
theorem dM_read_0 : decode cM_read 0 = .ok (.aload_n 0, 1) := by decide +kernel
theorem dM_read_1 : decode cM_read 1 = .ok (.aload_n 0, 1) := by decide +kernel
theorem dM_read_2 : decode cM_read 2 = .ok (.iload_n 1, 1) := by decide +kernel
theorem dM_read_3 : decode cM_read 3 = .ok (.iload_n 2, 1) := by decide +kernel
theorem dM_read_4 : decode cM_read 4 = .ok (.invokevirtual 33, 3) := by decide +kernel
theorem dM_read_7 : decode cM_read 7 = .ok (.iconst 1, 1) := by decide +kernel
theorem dM_read_8 : decode cM_read 8 = .ok (.invokevirtual 36, 3) := by decide +kernel
theorem dM_read_11 : decode cM_read 11 = .ok (.ifCond .eq 5, 3) := by decide +kernel
theorem dM_read_14 : decode cM_read 14 = .ok (.lconst 0, 1) := by decide +kernel
theorem dM_read_15 : decode cM_read 15 = .ok (.lreturn, 1) := by decide +kernel
theorem dM_read_16 : decode cM_read 16 = .ok (.iload_n 1, 1) := by decide +kernel
theorem dM_read_17 : decode cM_read 17 = .ok (.invokestatic 40, 3) := by decide +kernel
theorem dM_read_20 : decode cM_read 20 = .ok (.istore_n 3, 1) := by decide +kernel
theorem dM_read_21 : decode cM_read 21 = .ok (.iload_n 1, 1) := by decide +kernel
theorem dM_read_22 : decode cM_read 22 = .ok (.iconst 4, 1) := by decide +kernel
theorem dM_read_23 : decode cM_read 23 = .ok (.idiv, 1) := by decide +kernel
theorem dM_read_24 : decode cM_read 24 = .ok (.istore 4, 2) := by decide +kernel
theorem dM_read_26 : decode cM_read 26 = .ok (.aload_n 0, 1) := by decide +kernel
theorem dM_read_27 : decode cM_read 27 = .ok (.aload_n 0, 1) := by decide +kernel
theorem dM_read_28 : decode cM_read 28 = .ok (.iload_n 3, 1) := by decide +kernel
theorem dM_read_29 : decode cM_read 29 = .ok (.iload 4, 2) := by decide +kernel
theorem dM_read_31 : decode cM_read 31 = .ok (.invokevirtual 44, 3) := by decide +kernel
theorem dM_read_34 : decode cM_read 34 = .ok (.iconst 2, 1) := by decide +kernel
theorem dM_read_35 : decode cM_read 35 = .ok (.invokevirtual 36, 3) := by decide +kernel
theorem dM_read_38 : decode cM_read 38 = .ok (.ifCond .eq 7, 3) := by decide +kernel
theorem dM_read_41 : decode cM_read 41 = .ok (.lconst 0, 1) := by decide +kernel
theorem dM_read_42 : decode cM_read 42 = .ok (.goto 11, 3) := by decide +kernel
theorem dM_read_45 : decode cM_read 45 = .ok (.aload_n 0, 1) := by decide +kernel
theorem dM_read_46 : decode cM_read 46 = .ok (.iload_n 3, 1) := by decide +kernel
theorem dM_read_47 : decode cM_read 47 = .ok (.iload 4, 2) := by decide +kernel
theorem dM_read_49 : decode cM_read 49 = .ok (.iload_n 2, 1) := by decide +kernel
theorem dM_read_50 : decode cM_read 50 = .ok (.invokevirtual 47, 3) := by decide +kernel
theorem dM_read_53 : decode cM_read 53 = .ok (.lreturn, 1) := by decide +kernel
theorem dM_write_0 : decode cM_write 0 = .ok (.aload_n 0, 1) := by decide +kernel
theorem dM_write_1 : decode cM_write 1 = .ok (.aload_n 0, 1) := by decide +kernel
theorem dM_write_2 : decode cM_write 2 = .ok (.iload_n 1, 1) := by decide +kernel
theorem dM_write_3 : decode cM_write 3 = .ok (.iload_n 2, 1) := by decide +kernel
theorem dM_write_4 : decode cM_write 4 = .ok (.invokevirtual 33, 3) := by decide +kernel
theorem dM_write_7 : decode cM_write 7 = .ok (.iconst 1, 1) := by decide +kernel
theorem dM_write_8 : decode cM_write 8 = .ok (.invokevirtual 36, 3) := by decide +kernel
theorem dM_write_11 : decode cM_write 11 = .ok (.ifCond .eq 4, 3) := by decide +kernel
theorem dM_write_14 : decode cM_write 14 = .ok (.return_, 1) := by decide +kernel
theorem dM_write_15 : decode cM_write 15 = .ok (.iload_n 1, 1) := by decide +kernel
theorem dM_write_16 : decode cM_write 16 = .ok (.invokestatic 40, 3) := by decide +kernel
theorem dM_write_19 : decode cM_write 19 = .ok (.istore 5, 2) := by decide +kernel
theorem dM_write_21 : decode cM_write 21 = .ok (.iload_n 1, 1) := by decide +kernel
theorem dM_write_22 : decode cM_write 22 = .ok (.iconst 4, 1) := by decide +kernel
theorem dM_write_23 : decode cM_write 23 = .ok (.idiv, 1) := by decide +kernel
theorem dM_write_24 : decode cM_write 24 = .ok (.istore 6, 2) := by decide +kernel
theorem dM_write_26 : decode cM_write 26 = .ok (.iload 6, 2) := by decide +kernel
theorem dM_write_28 : decode cM_write 28 = .ok (.iconst 5, 1) := by decide +kernel
theorem dM_write_29 : decode cM_write 29 = .ok (.irem, 1) := by decide +kernel
theorem dM_write_30 : decode cM_write 30 = .ok (.istore 7, 2) := by decide +kernel
theorem dM_write_32 : decode cM_write 32 = .ok (.aload_n 0, 1) := by decide +kernel
theorem dM_write_33 : decode cM_write 33 = .ok (.aload_n 0, 1) := by decide +kernel
theorem dM_write_34 : decode cM_write 34 = .ok (.iload 5, 2) := by decide +kernel
theorem dM_write_36 : decode cM_write 36 = .ok (.iload 6, 2) := by decide +kernel
theorem dM_write_38 : decode cM_write 38 = .ok (.invokevirtual 44, 3) := by decide +kernel
theorem dM_write_41 : decode cM_write 41 = .ok (.ifCond .ne 25, 3) := by decide +kernel
theorem dM_write_44 : decode cM_write 44 = .ok (.aload_n 0, 1) := by decide +kernel
theorem dM_write_45 : decode cM_write 45 = .ok (.iload 5, 2) := by decide +kernel
theorem dM_write_47 : decode cM_write 47 = .ok (.iload 6, 2) := by decide +kernel
theorem dM_write_49 : decode cM_write 49 = .ok (.invokevirtual 21, 3) := by decide +kernel
theorem dM_write_52 : decode cM_write 52 = .ok (.ifCond .ne 18, 3) := by decide +kernel
theorem dM_write_55 : decode cM_write 55 = .ok (.aload_n 0, 1) := by decide +kernel
theorem dM_write_56 : decode cM_write 56 = .ok (.iload 7, 2) := by decide +kernel
theorem dM_write_58 : decode cM_write 58 = .ok (.iload 6, 2) := by decide +kernel
theorem dM_write_60 : decode cM_write 60 = .ok (.invokevirtual 21, 3) := by decide +kernel
theorem dM_write_63 : decode cM_write 63 = .ok (.ifCond .ne 7, 3) := by decide +kernel
theorem dM_write_66 : decode cM_write 66 = .ok (.iconst 1, 1) := by decide +kernel
theorem dM_write_67 : decode cM_write 67 = .ok (.goto 4, 3) := by decide +kernel
theorem dM_write_70 : decode cM_write 70 = .ok (.iconst 0, 1) := by decide +kernel
theorem dM_write_71 : decode cM_write 71 = .ok (.iconst 2, 1) := by decide +kernel
theorem dM_write_72 : decode cM_write 72 = .ok (.invokevirtual 36, 3) := by decide +kernel
theorem dM_write_75 : decode cM_write 75 = .ok (.ifCond .eq 4, 3) := by decide +kernel
theorem dM_write_78 : decode cM_write 78 = .ok (.return_, 1) := by decide +kernel
theorem dM_write_79 : decode cM_write 79 = .ok (.aload_n 0, 1) := by decide +kernel
theorem dM_write_80 : decode cM_write 80 = .ok (.iload 5, 2) := by decide +kernel
theorem dM_write_82 : decode cM_write 82 = .ok (.iload 6, 2) := by decide +kernel
theorem dM_write_84 : decode cM_write 84 = .ok (.iload_n 2, 1) := by decide +kernel
theorem dM_write_85 : decode cM_write 85 = .ok (.invokevirtual 47, 3) := by decide +kernel
theorem dM_write_88 : decode cM_write 88 = .ok (.lstore 8, 2) := by decide +kernel
theorem dM_write_90 : decode cM_write 90 = .ok (.aload_n 0, 1) := by decide +kernel
theorem dM_write_91 : decode cM_write 91 = .ok (.iload 7, 2) := by decide +kernel
theorem dM_write_93 : decode cM_write 93 = .ok (.iload 6, 2) := by decide +kernel
theorem dM_write_95 : decode cM_write 95 = .ok (.invokevirtual 21, 3) := by decide +kernel
theorem dM_write_98 : decode cM_write 98 = .ok (.ifCond .eq 23, 3) := by decide +kernel
theorem dM_write_101 : decode cM_write 101 = .ok (.aload_n 0, 1) := by decide +kernel
theorem dM_write_102 : decode cM_write 102 = .ok (.getfield 7, 3) := by decide +kernel
theorem dM_write_105 : decode cM_write 105 = .ok (.iload 7, 2) := by decide +kernel
theorem dM_write_107 : decode cM_write 107 = .ok (.iload 6, 2) := by decide +kernel
theorem dM_write_109 : decode cM_write 109 = .ok (.iload_n 2, 1) := by decide +kernel
theorem dM_write_110 : decode cM_write 110 = .ok (.invokestatic 25, 3) := by decide +kernel
theorem dM_write_113 : decode cM_write 113 = .ok (.dup2, 1) := by decide +kernel
theorem dM_write_114 : decode cM_write 114 = .ok (.laload, 1) := by decide +kernel
theorem dM_write_115 : decode cM_write 115 = .ok (.lload 8, 2) := by decide +kernel
theorem dM_write_117 : decode cM_write 117 = .ok (.lload_n 3, 1) := by decide +kernel
theorem dM_write_118 : decode cM_write 118 = .ok (.lxor, 1) := by decide +kernel
theorem dM_write_119 : decode cM_write 119 = .ok (.lxor, 1) := by decide +kernel
theorem dM_write_120 : decode cM_write 120 = .ok (.lastore, 1) := by decide +kernel
theorem dM_write_121 : decode cM_write 121 = .ok (.aload_n 0, 1) := by decide +kernel
theorem dM_write_122 : decode cM_write 122 = .ok (.iload 5, 2) := by decide +kernel
theorem dM_write_124 : decode cM_write 124 = .ok (.iload 6, 2) := by decide +kernel
theorem dM_write_126 : decode cM_write 126 = .ok (.invokevirtual 21, 3) := by decide +kernel
theorem dM_write_129 : decode cM_write 129 = .ok (.ifCond .eq 17, 3) := by decide +kernel
theorem dM_write_132 : decode cM_write 132 = .ok (.aload_n 0, 1) := by decide +kernel
theorem dM_write_133 : decode cM_write 133 = .ok (.getfield 7, 3) := by decide +kernel
theorem dM_write_136 : decode cM_write 136 = .ok (.iload 5, 2) := by decide +kernel
theorem dM_write_138 : decode cM_write 138 = .ok (.iload 6, 2) := by decide +kernel
theorem dM_write_140 : decode cM_write 140 = .ok (.iload_n 2, 1) := by decide +kernel
theorem dM_write_141 : decode cM_write 141 = .ok (.invokestatic 25, 3) := by decide +kernel
theorem dM_write_144 : decode cM_write 144 = .ok (.lload_n 3, 1) := by decide +kernel
theorem dM_write_145 : decode cM_write 145 = .ok (.lastore, 1) := by decide +kernel
theorem dM_write_146 : decode cM_write 146 = .ok (.return_, 1) := by decide +kernel
theorem dM_none_0 : decode cM_none 0 = .ok (.iload_n 0, 1) := by decide +kernel
theorem dM_none_1 : decode cM_none 1 = .ok (.ifCond .lt 8, 3) := by decide +kernel
theorem dM_none_4 : decode cM_none 4 = .ok (.iload_n 0, 1) := by decide +kernel
theorem dM_none_5 : decode cM_none 5 = .ok (.iconst 5, 1) := by decide +kernel
theorem dM_none_6 : decode cM_none 6 = .ok (.if_icmp .lt 7, 3) := by decide +kernel
theorem dM_none_9 : decode cM_none 9 = .ok (.iconst 1, 1) := by decide +kernel
theorem dM_none_10 : decode cM_none 10 = .ok (.goto 4, 3) := by decide +kernel
theorem dM_none_13 : decode cM_none 13 = .ok (.iconst 0, 1) := by decide +kernel
theorem dM_none_14 : decode cM_none 14 = .ok (.ireturn, 1) := by decide +kernel
theorem dM_fail_0 : decode cM_fail 0 = .ok (.aload_n 0, 1) := by decide +kernel
theorem dM_fail_1 : decode cM_fail 1 = .ok (.iload_n 1, 1) := by decide +kernel
theorem dM_fail_2 : decode cM_fail 2 = .ok (.invokestatic 50, 3) := by decide +kernel
theorem dM_fail_5 : decode cM_fail 5 = .ok (.iconst 1, 1) := by decide +kernel
theorem dM_fail_6 : decode cM_fail 6 = .ok (.invokevirtual 36, 3) := by decide +kernel
theorem dM_fail_9 : decode cM_fail 9 = .ok (.ifCond .eq 4, 3) := by decide +kernel
theorem dM_fail_12 : decode cM_fail 12 = .ok (.return_, 1) := by decide +kernel
theorem dM_fail_13 : decode cM_fail 13 = .ok (.aload_n 0, 1) := by decide +kernel
theorem dM_fail_14 : decode cM_fail 14 = .ok (.getfield 13, 3) := by decide +kernel
theorem dM_fail_17 : decode cM_fail 17 = .ok (.iload_n 1, 1) := by decide +kernel
theorem dM_fail_18 : decode cM_fail 18 = .ok (.iconst (-1), 1) := by decide +kernel
theorem dM_fail_19 : decode cM_fail 19 = .ok (.iastore, 1) := by decide +kernel
theorem dM_fail_20 : decode cM_fail 20 = .ok (.return_, 1) := by decide +kernel
theorem dM_replace_0 : decode cM_replace 0 = .ok (.aload_n 0, 1) := by decide +kernel
theorem dM_replace_1 : decode cM_replace 1 = .ok (.iload_n 1, 1) := by decide +kernel
theorem dM_replace_2 : decode cM_replace 2 = .ok (.invokestatic 50, 3) := by decide +kernel
theorem dM_replace_5 : decode cM_replace 5 = .ok (.iconst 1, 1) := by decide +kernel
theorem dM_replace_6 : decode cM_replace 6 = .ok (.invokevirtual 36, 3) := by decide +kernel
theorem dM_replace_9 : decode cM_replace 9 = .ok (.ifCond .eq 4, 3) := by decide +kernel
theorem dM_replace_12 : decode cM_replace 12 = .ok (.return_, 1) := by decide +kernel
theorem dM_replace_13 : decode cM_replace 13 = .ok (.aload_n 0, 1) := by decide +kernel
theorem dM_replace_14 : decode cM_replace 14 = .ok (.aload_n 0, 1) := by decide +kernel
theorem dM_replace_15 : decode cM_replace 15 = .ok (.getfield 13, 3) := by decide +kernel
theorem dM_replace_18 : decode cM_replace 18 = .ok (.iload_n 1, 1) := by decide +kernel
theorem dM_replace_19 : decode cM_replace 19 = .ok (.iaload, 1) := by decide +kernel
theorem dM_replace_20 : decode cM_replace 20 = .ok (.ifCond .lt 7, 3) := by decide +kernel
theorem dM_replace_23 : decode cM_replace 23 = .ok (.iconst 1, 1) := by decide +kernel
theorem dM_replace_24 : decode cM_replace 24 = .ok (.goto 4, 3) := by decide +kernel
theorem dM_replace_27 : decode cM_replace 27 = .ok (.iconst 0, 1) := by decide +kernel
theorem dM_replace_28 : decode cM_replace 28 = .ok (.iconst 2, 1) := by decide +kernel
theorem dM_replace_29 : decode cM_replace 29 = .ok (.invokevirtual 36, 3) := by decide +kernel
theorem dM_replace_32 : decode cM_replace 32 = .ok (.ifCond .eq 4, 3) := by decide +kernel
theorem dM_replace_35 : decode cM_replace 35 = .ok (.return_, 1) := by decide +kernel
theorem dM_replace_36 : decode cM_replace 36 = .ok (.aload_n 0, 1) := by decide +kernel
theorem dM_replace_37 : decode cM_replace 37 = .ok (.getfield 13, 3) := by decide +kernel
theorem dM_replace_40 : decode cM_replace 40 = .ok (.iload_n 1, 1) := by decide +kernel
theorem dM_replace_41 : decode cM_replace 41 = .ok (.iconst 0, 1) := by decide +kernel
theorem dM_replace_42 : decode cM_replace 42 = .ok (.iastore, 1) := by decide +kernel
theorem dM_replace_43 : decode cM_replace 43 = .ok (.iconst 0, 1) := by decide +kernel
theorem dM_replace_44 : decode cM_replace 44 = .ok (.istore_n 2, 1) := by decide +kernel
theorem dM_replace_45 : decode cM_replace 45 = .ok (.iload_n 2, 1) := by decide +kernel
theorem dM_replace_46 : decode cM_replace 46 = .ok (.bipush 100, 2) := by decide +kernel
theorem dM_replace_48 : decode cM_replace 48 = .ok (.if_icmp .ge 33, 3) := by decide +kernel
theorem dM_replace_51 : decode cM_replace 51 = .ok (.aload_n 0, 1) := by decide +kernel
theorem dM_replace_52 : decode cM_replace 52 = .ok (.getfield 7, 3) := by decide +kernel
theorem dM_replace_55 : decode cM_replace 55 = .ok (.iload_n 1, 1) := by decide +kernel
theorem dM_replace_56 : decode cM_replace 56 = .ok (.iload_n 2, 1) := by decide +kernel
theorem dM_replace_57 : decode cM_replace 57 = .ok (.iconst 0, 1) := by decide +kernel
theorem dM_replace_58 : decode cM_replace 58 = .ok (.invokestatic 25, 3) := by decide +kernel
theorem dM_replace_61 : decode cM_replace 61 = .ok (.lconst 0, 1) := by decide +kernel
theorem dM_replace_62 : decode cM_replace 62 = .ok (.lastore, 1) := by decide +kernel
theorem dM_replace_63 : decode cM_replace 63 = .ok (.aload_n 0, 1) := by decide +kernel
theorem dM_replace_64 : decode cM_replace 64 = .ok (.getfield 7, 3) := by decide +kernel
theorem dM_replace_67 : decode cM_replace 67 = .ok (.iload_n 1, 1) := by decide +kernel
theorem dM_replace_68 : decode cM_replace 68 = .ok (.iload_n 2, 1) := by decide +kernel
theorem dM_replace_69 : decode cM_replace 69 = .ok (.iconst 1, 1) := by decide +kernel
theorem dM_replace_70 : decode cM_replace 70 = .ok (.invokestatic 25, 3) := by decide +kernel
theorem dM_replace_73 : decode cM_replace 73 = .ok (.lconst 0, 1) := by decide +kernel
theorem dM_replace_74 : decode cM_replace 74 = .ok (.lastore, 1) := by decide +kernel
theorem dM_replace_75 : decode cM_replace 75 = .ok (.iinc 2 1, 3) := by decide +kernel
theorem dM_replace_78 : decode cM_replace 78 = .ok (.goto (-33), 3) := by decide +kernel
theorem dM_replace_81 : decode cM_replace 81 = .ok (.return_, 1) := by decide +kernel
theorem dM_rebuild_0 : decode cM_rebuild 0 = .ok (.aload_n 0, 1) := by decide +kernel
theorem dM_rebuild_1 : decode cM_rebuild 1 = .ok (.iload_n 1, 1) := by decide +kernel
theorem dM_rebuild_2 : decode cM_rebuild 2 = .ok (.invokestatic 50, 3) := by decide +kernel
theorem dM_rebuild_5 : decode cM_rebuild 5 = .ok (.ifCond .ne 7, 3) := by decide +kernel
theorem dM_rebuild_8 : decode cM_rebuild 8 = .ok (.iload_n 2, 1) := by decide +kernel
theorem dM_rebuild_9 : decode cM_rebuild 9 = .ok (.ifCond .ge 7, 3) := by decide +kernel
theorem dM_rebuild_12 : decode cM_rebuild 12 = .ok (.iconst 1, 1) := by decide +kernel
theorem dM_rebuild_13 : decode cM_rebuild 13 = .ok (.goto 4, 3) := by decide +kernel
theorem dM_rebuild_16 : decode cM_rebuild 16 = .ok (.iconst 0, 1) := by decide +kernel
theorem dM_rebuild_17 : decode cM_rebuild 17 = .ok (.iconst 1, 1) := by decide +kernel
theorem dM_rebuild_18 : decode cM_rebuild 18 = .ok (.invokevirtual 36, 3) := by decide +kernel
theorem dM_rebuild_21 : decode cM_rebuild 21 = .ok (.ifCond .eq 5, 3) := by decide +kernel
theorem dM_rebuild_24 : decode cM_rebuild 24 = .ok (.iconst 0, 1) := by decide +kernel
theorem dM_rebuild_25 : decode cM_rebuild 25 = .ok (.ireturn, 1) := by decide +kernel
theorem dM_rebuild_26 : decode cM_rebuild 26 = .ok (.aload_n 0, 1) := by decide +kernel
theorem dM_rebuild_27 : decode cM_rebuild 27 = .ok (.aload_n 0, 1) := by decide +kernel
theorem dM_rebuild_28 : decode cM_rebuild 28 = .ok (.getfield 13, 3) := by decide +kernel
theorem dM_rebuild_31 : decode cM_rebuild 31 = .ok (.iload_n 1, 1) := by decide +kernel
theorem dM_rebuild_32 : decode cM_rebuild 32 = .ok (.iaload, 1) := by decide +kernel
theorem dM_rebuild_33 : decode cM_rebuild 33 = .ok (.ifCond .lt 14, 3) := by decide +kernel
theorem dM_rebuild_36 : decode cM_rebuild 36 = .ok (.aload_n 0, 1) := by decide +kernel
theorem dM_rebuild_37 : decode cM_rebuild 37 = .ok (.getfield 13, 3) := by decide +kernel
theorem dM_rebuild_40 : decode cM_rebuild 40 = .ok (.iload_n 1, 1) := by decide +kernel
theorem dM_rebuild_41 : decode cM_rebuild 41 = .ok (.iaload, 1) := by decide +kernel
theorem dM_rebuild_42 : decode cM_rebuild 42 = .ok (.bipush 100, 2) := by decide +kernel
theorem dM_rebuild_44 : decode cM_rebuild 44 = .ok (.if_icmp .ne 7, 3) := by decide +kernel
theorem dM_rebuild_47 : decode cM_rebuild 47 = .ok (.iconst 1, 1) := by decide +kernel
theorem dM_rebuild_48 : decode cM_rebuild 48 = .ok (.goto 4, 3) := by decide +kernel
theorem dM_rebuild_51 : decode cM_rebuild 51 = .ok (.iconst 0, 1) := by decide +kernel
theorem dM_rebuild_52 : decode cM_rebuild 52 = .ok (.iconst 2, 1) := by decide +kernel
theorem dM_rebuild_53 : decode cM_rebuild 53 = .ok (.invokevirtual 36, 3) := by decide +kernel
theorem dM_rebuild_56 : decode cM_rebuild 56 = .ok (.ifCond .eq 5, 3) := by decide +kernel
theorem dM_rebuild_59 : decode cM_rebuild 59 = .ok (.iconst 0, 1) := by decide +kernel
theorem dM_rebuild_60 : decode cM_rebuild 60 = .ok (.ireturn, 1) := by decide +kernel
theorem dM_rebuild_61 : decode cM_rebuild 61 = .ok (.iconst 0, 1) := by decide +kernel
theorem dM_rebuild_62 : decode cM_rebuild 62 = .ok (.istore_n 3, 1) := by decide +kernel
theorem dM_rebuild_63 : decode cM_rebuild 63 = .ok (.iload_n 3, 1) := by decide +kernel
theorem dM_rebuild_64 : decode cM_rebuild 64 = .ok (.iload_n 2, 1) := by decide +kernel
theorem dM_rebuild_65 : decode cM_rebuild 65 = .ok (.if_icmp .ge 89, 3) := by decide +kernel
theorem dM_rebuild_68 : decode cM_rebuild 68 = .ok (.aload_n 0, 1) := by decide +kernel
theorem dM_rebuild_69 : decode cM_rebuild 69 = .ok (.getfield 13, 3) := by decide +kernel
theorem dM_rebuild_72 : decode cM_rebuild 72 = .ok (.iload_n 1, 1) := by decide +kernel
theorem dM_rebuild_73 : decode cM_rebuild 73 = .ok (.iaload, 1) := by decide +kernel
theorem dM_rebuild_74 : decode cM_rebuild 74 = .ok (.bipush 100, 2) := by decide +kernel
theorem dM_rebuild_76 : decode cM_rebuild 76 = .ok (.if_icmp .ge 78, 3) := by decide +kernel
theorem dM_rebuild_79 : decode cM_rebuild 79 = .ok (.aload_n 0, 1) := by decide +kernel
theorem dM_rebuild_80 : decode cM_rebuild 80 = .ok (.iload_n 1, 1) := by decide +kernel
theorem dM_rebuild_81 : decode cM_rebuild 81 = .ok (.aload_n 0, 1) := by decide +kernel
theorem dM_rebuild_82 : decode cM_rebuild 82 = .ok (.getfield 13, 3) := by decide +kernel
theorem dM_rebuild_85 : decode cM_rebuild 85 = .ok (.iload_n 1, 1) := by decide +kernel
theorem dM_rebuild_86 : decode cM_rebuild 86 = .ok (.iaload, 1) := by decide +kernel
theorem dM_rebuild_87 : decode cM_rebuild 87 = .ok (.invokevirtual 44, 3) := by decide +kernel
theorem dM_rebuild_90 : decode cM_rebuild 90 = .ok (.ifCond .ne 64, 3) := by decide +kernel
theorem dM_rebuild_93 : decode cM_rebuild 93 = .ok (.iconst 0, 1) := by decide +kernel
theorem dM_rebuild_94 : decode cM_rebuild 94 = .ok (.istore 4, 2) := by decide +kernel
theorem dM_rebuild_96 : decode cM_rebuild 96 = .ok (.iload 4, 2) := by decide +kernel
theorem dM_rebuild_98 : decode cM_rebuild 98 = .ok (.iconst 2, 1) := by decide +kernel
theorem dM_rebuild_99 : decode cM_rebuild 99 = .ok (.if_icmp .ge 39, 3) := by decide +kernel
theorem dM_rebuild_102 : decode cM_rebuild 102 = .ok (.aload_n 0, 1) := by decide +kernel
theorem dM_rebuild_103 : decode cM_rebuild 103 = .ok (.getfield 7, 3) := by decide +kernel
theorem dM_rebuild_106 : decode cM_rebuild 106 = .ok (.iload_n 1, 1) := by decide +kernel
theorem dM_rebuild_107 : decode cM_rebuild 107 = .ok (.aload_n 0, 1) := by decide +kernel
theorem dM_rebuild_108 : decode cM_rebuild 108 = .ok (.getfield 13, 3) := by decide +kernel
theorem dM_rebuild_111 : decode cM_rebuild 111 = .ok (.iload_n 1, 1) := by decide +kernel
theorem dM_rebuild_112 : decode cM_rebuild 112 = .ok (.iaload, 1) := by decide +kernel
theorem dM_rebuild_113 : decode cM_rebuild 113 = .ok (.iload 4, 2) := by decide +kernel
theorem dM_rebuild_115 : decode cM_rebuild 115 = .ok (.invokestatic 25, 3) := by decide +kernel
theorem dM_rebuild_118 : decode cM_rebuild 118 = .ok (.aload_n 0, 1) := by decide +kernel
theorem dM_rebuild_119 : decode cM_rebuild 119 = .ok (.iload_n 1, 1) := by decide +kernel
theorem dM_rebuild_120 : decode cM_rebuild 120 = .ok (.aload_n 0, 1) := by decide +kernel
theorem dM_rebuild_121 : decode cM_rebuild 121 = .ok (.getfield 13, 3) := by decide +kernel
theorem dM_rebuild_124 : decode cM_rebuild 124 = .ok (.iload_n 1, 1) := by decide +kernel
theorem dM_rebuild_125 : decode cM_rebuild 125 = .ok (.iaload, 1) := by decide +kernel
theorem dM_rebuild_126 : decode cM_rebuild 126 = .ok (.iload 4, 2) := by decide +kernel
theorem dM_rebuild_128 : decode cM_rebuild 128 = .ok (.invokevirtual 29, 3) := by decide +kernel
theorem dM_rebuild_131 : decode cM_rebuild 131 = .ok (.lastore, 1) := by decide +kernel
theorem dM_rebuild_132 : decode cM_rebuild 132 = .ok (.iinc 4 1, 3) := by decide +kernel
theorem dM_rebuild_135 : decode cM_rebuild 135 = .ok (.goto (-39), 3) := by decide +kernel
theorem dM_rebuild_138 : decode cM_rebuild 138 = .ok (.aload_n 0, 1) := by decide +kernel
theorem dM_rebuild_139 : decode cM_rebuild 139 = .ok (.getfield 13, 3) := by decide +kernel
theorem dM_rebuild_142 : decode cM_rebuild 142 = .ok (.iload_n 1, 1) := by decide +kernel
theorem dM_rebuild_143 : decode cM_rebuild 143 = .ok (.dup2, 1) := by decide +kernel
theorem dM_rebuild_144 : decode cM_rebuild 144 = .ok (.iaload, 1) := by decide +kernel
theorem dM_rebuild_145 : decode cM_rebuild 145 = .ok (.iconst 1, 1) := by decide +kernel
theorem dM_rebuild_146 : decode cM_rebuild 146 = .ok (.iadd, 1) := by decide +kernel
theorem dM_rebuild_147 : decode cM_rebuild 147 = .ok (.iastore, 1) := by decide +kernel
theorem dM_rebuild_148 : decode cM_rebuild 148 = .ok (.iinc 3 1, 3) := by decide +kernel
theorem dM_rebuild_151 : decode cM_rebuild 151 = .ok (.goto (-88), 3) := by decide +kernel
theorem dM_rebuild_154 : decode cM_rebuild 154 = .ok (.aload_n 0, 1) := by decide +kernel
theorem dM_rebuild_155 : decode cM_rebuild 155 = .ok (.getfield 13, 3) := by decide +kernel
theorem dM_rebuild_158 : decode cM_rebuild 158 = .ok (.iload_n 1, 1) := by decide +kernel
theorem dM_rebuild_159 : decode cM_rebuild 159 = .ok (.iaload, 1) := by decide +kernel
theorem dM_rebuild_160 : decode cM_rebuild 160 = .ok (.ireturn, 1) := by decide +kernel
theorem dM_noBlock_0 : decode cM_noBlock 0 = .ok (.iload_n 1, 1) := by decide +kernel
theorem dM_noBlock_1 : decode cM_noBlock 1 = .ok (.invokestatic 50, 3) := by decide +kernel
theorem dM_noBlock_4 : decode cM_noBlock 4 = .ok (.ifCond .ne 22, 3) := by decide +kernel
theorem dM_noBlock_7 : decode cM_noBlock 7 = .ok (.iload_n 2, 1) := by decide +kernel
theorem dM_noBlock_8 : decode cM_noBlock 8 = .ok (.ifCond .lt 18, 3) := by decide +kernel
theorem dM_noBlock_11 : decode cM_noBlock 11 = .ok (.iload_n 2, 1) := by decide +kernel
theorem dM_noBlock_12 : decode cM_noBlock 12 = .ok (.bipush 100, 2) := by decide +kernel
theorem dM_noBlock_14 : decode cM_noBlock 14 = .ok (.if_icmp .ge 12, 3) := by decide +kernel
theorem dM_noBlock_17 : decode cM_noBlock 17 = .ok (.iload_n 3, 1) := by decide +kernel
theorem dM_noBlock_18 : decode cM_noBlock 18 = .ok (.ifCond .lt 8, 3) := by decide +kernel
theorem dM_noBlock_21 : decode cM_noBlock 21 = .ok (.iload_n 3, 1) := by decide +kernel
theorem dM_noBlock_22 : decode cM_noBlock 22 = .ok (.iconst 1, 1) := by decide +kernel
theorem dM_noBlock_23 : decode cM_noBlock 23 = .ok (.if_icmp .le 7, 3) := by decide +kernel
theorem dM_noBlock_26 : decode cM_noBlock 26 = .ok (.iconst 1, 1) := by decide +kernel
theorem dM_noBlock_27 : decode cM_noBlock 27 = .ok (.goto 4, 3) := by decide +kernel
theorem dM_noBlock_30 : decode cM_noBlock 30 = .ok (.iconst 0, 1) := by decide +kernel
theorem dM_noBlock_31 : decode cM_noBlock 31 = .ok (.ireturn, 1) := by decide +kernel
theorem dM_flip_0 : decode cM_flip 0 = .ok (.aload_n 0, 1) := by decide +kernel
theorem dM_flip_1 : decode cM_flip 1 = .ok (.aload_n 0, 1) := by decide +kernel
theorem dM_flip_2 : decode cM_flip 2 = .ok (.iload_n 1, 1) := by decide +kernel
theorem dM_flip_3 : decode cM_flip 3 = .ok (.iload_n 2, 1) := by decide +kernel
theorem dM_flip_4 : decode cM_flip 4 = .ok (.iload_n 3, 1) := by decide +kernel
theorem dM_flip_5 : decode cM_flip 5 = .ok (.invokevirtual 54, 3) := by decide +kernel
theorem dM_flip_8 : decode cM_flip 8 = .ok (.iconst 1, 1) := by decide +kernel
theorem dM_flip_9 : decode cM_flip 9 = .ok (.invokevirtual 36, 3) := by decide +kernel
theorem dM_flip_12 : decode cM_flip 12 = .ok (.ifCond .eq 4, 3) := by decide +kernel
theorem dM_flip_15 : decode cM_flip 15 = .ok (.return_, 1) := by decide +kernel
theorem dM_flip_16 : decode cM_flip 16 = .ok (.aload_n 0, 1) := by decide +kernel
theorem dM_flip_17 : decode cM_flip 17 = .ok (.aload_n 0, 1) := by decide +kernel
theorem dM_flip_18 : decode cM_flip 18 = .ok (.getfield 13, 3) := by decide +kernel
theorem dM_flip_21 : decode cM_flip 21 = .ok (.iload_n 1, 1) := by decide +kernel
theorem dM_flip_22 : decode cM_flip 22 = .ok (.iaload, 1) := by decide +kernel
theorem dM_flip_23 : decode cM_flip 23 = .ok (.ifCond .ge 7, 3) := by decide +kernel
theorem dM_flip_26 : decode cM_flip 26 = .ok (.iconst 1, 1) := by decide +kernel
theorem dM_flip_27 : decode cM_flip 27 = .ok (.goto 4, 3) := by decide +kernel
theorem dM_flip_30 : decode cM_flip 30 = .ok (.iconst 0, 1) := by decide +kernel
theorem dM_flip_31 : decode cM_flip 31 = .ok (.iconst 2, 1) := by decide +kernel
theorem dM_flip_32 : decode cM_flip 32 = .ok (.invokevirtual 36, 3) := by decide +kernel
theorem dM_flip_35 : decode cM_flip 35 = .ok (.ifCond .eq 4, 3) := by decide +kernel
theorem dM_flip_38 : decode cM_flip 38 = .ok (.return_, 1) := by decide +kernel
theorem dM_flip_39 : decode cM_flip 39 = .ok (.aload_n 0, 1) := by decide +kernel
theorem dM_flip_40 : decode cM_flip 40 = .ok (.getfield 7, 3) := by decide +kernel
theorem dM_flip_43 : decode cM_flip 43 = .ok (.iload_n 1, 1) := by decide +kernel
theorem dM_flip_44 : decode cM_flip 44 = .ok (.iload_n 2, 1) := by decide +kernel
theorem dM_flip_45 : decode cM_flip 45 = .ok (.iload_n 3, 1) := by decide +kernel
theorem dM_flip_46 : decode cM_flip 46 = .ok (.invokestatic 25, 3) := by decide +kernel
theorem dM_flip_49 : decode cM_flip 49 = .ok (.dup2, 1) := by decide +kernel
theorem dM_flip_50 : decode cM_flip 50 = .ok (.laload, 1) := by decide +kernel
theorem dM_flip_51 : decode cM_flip 51 = .ok (.lload 4, 2) := by decide +kernel
theorem dM_flip_53 : decode cM_flip 53 = .ok (.lxor, 1) := by decide +kernel
theorem dM_flip_54 : decode cM_flip 54 = .ok (.lastore, 1) := by decide +kernel
theorem dM_flip_55 : decode cM_flip 55 = .ok (.return_, 1) := by decide +kernel
theorem dM_block_0 : decode cM_block 0 = .ok (.aload_n 0, 1) := by decide +kernel
theorem dM_block_1 : decode cM_block 1 = .ok (.aload_n 0, 1) := by decide +kernel
theorem dM_block_2 : decode cM_block 2 = .ok (.iload_n 1, 1) := by decide +kernel
theorem dM_block_3 : decode cM_block 3 = .ok (.iload_n 2, 1) := by decide +kernel
theorem dM_block_4 : decode cM_block 4 = .ok (.iload_n 3, 1) := by decide +kernel
theorem dM_block_5 : decode cM_block 5 = .ok (.invokevirtual 54, 3) := by decide +kernel
theorem dM_block_8 : decode cM_block 8 = .ok (.iconst 1, 1) := by decide +kernel
theorem dM_block_9 : decode cM_block 9 = .ok (.invokevirtual 36, 3) := by decide +kernel
theorem dM_block_12 : decode cM_block 12 = .ok (.ifCond .eq 5, 3) := by decide +kernel
theorem dM_block_15 : decode cM_block 15 = .ok (.lconst 0, 1) := by decide +kernel
theorem dM_block_16 : decode cM_block 16 = .ok (.lreturn, 1) := by decide +kernel
theorem dM_block_17 : decode cM_block 17 = .ok (.aload_n 0, 1) := by decide +kernel
theorem dM_block_18 : decode cM_block 18 = .ok (.aload_n 0, 1) := by decide +kernel
theorem dM_block_19 : decode cM_block 19 = .ok (.getfield 13, 3) := by decide +kernel
theorem dM_block_22 : decode cM_block 22 = .ok (.iload_n 1, 1) := by decide +kernel
theorem dM_block_23 : decode cM_block 23 = .ok (.iaload, 1) := by decide +kernel
theorem dM_block_24 : decode cM_block 24 = .ok (.ifCond .ge 7, 3) := by decide +kernel
theorem dM_block_27 : decode cM_block 27 = .ok (.iconst 1, 1) := by decide +kernel
theorem dM_block_28 : decode cM_block 28 = .ok (.goto 4, 3) := by decide +kernel
theorem dM_block_31 : decode cM_block 31 = .ok (.iconst 0, 1) := by decide +kernel
theorem dM_block_32 : decode cM_block 32 = .ok (.iconst 2, 1) := by decide +kernel
theorem dM_block_33 : decode cM_block 33 = .ok (.invokevirtual 36, 3) := by decide +kernel
theorem dM_block_36 : decode cM_block 36 = .ok (.ifCond .eq 7, 3) := by decide +kernel
theorem dM_block_39 : decode cM_block 39 = .ok (.lconst 0, 1) := by decide +kernel
theorem dM_block_40 : decode cM_block 40 = .ok (.goto 14, 3) := by decide +kernel
theorem dM_block_43 : decode cM_block 43 = .ok (.aload_n 0, 1) := by decide +kernel
theorem dM_block_44 : decode cM_block 44 = .ok (.getfield 7, 3) := by decide +kernel
theorem dM_block_47 : decode cM_block 47 = .ok (.iload_n 1, 1) := by decide +kernel
theorem dM_block_48 : decode cM_block 48 = .ok (.iload_n 2, 1) := by decide +kernel
theorem dM_block_49 : decode cM_block 49 = .ok (.iload_n 3, 1) := by decide +kernel
theorem dM_block_50 : decode cM_block 50 = .ok (.invokestatic 25, 3) := by decide +kernel
theorem dM_block_53 : decode cM_block 53 = .ok (.laload, 1) := by decide +kernel
theorem dM_block_54 : decode cM_block 54 = .ok (.lreturn, 1) := by decide +kernel
theorem dM_scrub_0 : decode cM_scrub 0 = .ok (.aload_n 0, 1) := by decide +kernel
theorem dM_scrub_1 : decode cM_scrub 1 = .ok (.iconst 0, 1) := by decide +kernel
theorem dM_scrub_2 : decode cM_scrub 2 = .ok (.putfield 17, 3) := by decide +kernel
theorem dM_scrub_5 : decode cM_scrub 5 = .ok (.iconst 0, 1) := by decide +kernel
theorem dM_scrub_6 : decode cM_scrub 6 = .ok (.istore_n 1, 1) := by decide +kernel
theorem dM_scrub_7 : decode cM_scrub 7 = .ok (.iconst 0, 1) := by decide +kernel
theorem dM_scrub_8 : decode cM_scrub 8 = .ok (.istore_n 2, 1) := by decide +kernel
theorem dM_scrub_9 : decode cM_scrub 9 = .ok (.iload_n 2, 1) := by decide +kernel
theorem dM_scrub_10 : decode cM_scrub 10 = .ok (.bipush 100, 2) := by decide +kernel
theorem dM_scrub_12 : decode cM_scrub 12 = .ok (.if_icmp .ge 135, 3) := by decide +kernel
theorem dM_scrub_15 : decode cM_scrub 15 = .ok (.iload_n 2, 1) := by decide +kernel
theorem dM_scrub_16 : decode cM_scrub 16 = .ok (.iconst 5, 1) := by decide +kernel
theorem dM_scrub_17 : decode cM_scrub 17 = .ok (.irem, 1) := by decide +kernel
theorem dM_scrub_18 : decode cM_scrub 18 = .ok (.istore_n 3, 1) := by decide +kernel
theorem dM_scrub_19 : decode cM_scrub 19 = .ok (.iconst 1, 1) := by decide +kernel
theorem dM_scrub_20 : decode cM_scrub 20 = .ok (.istore 4, 2) := by decide +kernel
theorem dM_scrub_22 : decode cM_scrub 22 = .ok (.iconst 0, 1) := by decide +kernel
theorem dM_scrub_23 : decode cM_scrub 23 = .ok (.istore 5, 2) := by decide +kernel
theorem dM_scrub_25 : decode cM_scrub 25 = .ok (.iload 5, 2) := by decide +kernel
theorem dM_scrub_27 : decode cM_scrub 27 = .ok (.iconst 5, 1) := by decide +kernel
theorem dM_scrub_28 : decode cM_scrub 28 = .ok (.if_icmp .ge 22, 3) := by decide +kernel
theorem dM_scrub_31 : decode cM_scrub 31 = .ok (.aload_n 0, 1) := by decide +kernel
theorem dM_scrub_32 : decode cM_scrub 32 = .ok (.iload 5, 2) := by decide +kernel
theorem dM_scrub_34 : decode cM_scrub 34 = .ok (.iload_n 2, 1) := by decide +kernel
theorem dM_scrub_35 : decode cM_scrub 35 = .ok (.invokevirtual 21, 3) := by decide +kernel
theorem dM_scrub_38 : decode cM_scrub 38 = .ok (.ifCond .ne 6, 3) := by decide +kernel
theorem dM_scrub_41 : decode cM_scrub 41 = .ok (.iconst 0, 1) := by decide +kernel
theorem dM_scrub_42 : decode cM_scrub 42 = .ok (.istore 4, 2) := by decide +kernel
theorem dM_scrub_44 : decode cM_scrub 44 = .ok (.iinc 5 1, 3) := by decide +kernel
theorem dM_scrub_47 : decode cM_scrub 47 = .ok (.goto (-22), 3) := by decide +kernel
theorem dM_scrub_50 : decode cM_scrub 50 = .ok (.iload 4, 2) := by decide +kernel
theorem dM_scrub_52 : decode cM_scrub 52 = .ok (.ifCond .eq 89, 3) := by decide +kernel
theorem dM_scrub_55 : decode cM_scrub 55 = .ok (.aload_n 0, 1) := by decide +kernel
theorem dM_scrub_56 : decode cM_scrub 56 = .ok (.iload_n 3, 1) := by decide +kernel
theorem dM_scrub_57 : decode cM_scrub 57 = .ok (.iload_n 2, 1) := by decide +kernel
theorem dM_scrub_58 : decode cM_scrub 58 = .ok (.iconst 0, 1) := by decide +kernel
theorem dM_scrub_59 : decode cM_scrub 59 = .ok (.invokevirtual 29, 3) := by decide +kernel
theorem dM_scrub_62 : decode cM_scrub 62 = .ok (.aload_n 0, 1) := by decide +kernel
theorem dM_scrub_63 : decode cM_scrub 63 = .ok (.getfield 7, 3) := by decide +kernel
theorem dM_scrub_66 : decode cM_scrub 66 = .ok (.iload_n 3, 1) := by decide +kernel
theorem dM_scrub_67 : decode cM_scrub 67 = .ok (.iload_n 2, 1) := by decide +kernel
theorem dM_scrub_68 : decode cM_scrub 68 = .ok (.iconst 0, 1) := by decide +kernel
theorem dM_scrub_69 : decode cM_scrub 69 = .ok (.invokestatic 25, 3) := by decide +kernel
theorem dM_scrub_72 : decode cM_scrub 72 = .ok (.laload, 1) := by decide +kernel
theorem dM_scrub_73 : decode cM_scrub 73 = .ok (.lcmp, 1) := by decide +kernel
theorem dM_scrub_74 : decode cM_scrub 74 = .ok (.ifCond .ne 28, 3) := by decide +kernel
theorem dM_scrub_77 : decode cM_scrub 77 = .ok (.aload_n 0, 1) := by decide +kernel
theorem dM_scrub_78 : decode cM_scrub 78 = .ok (.iload_n 3, 1) := by decide +kernel
theorem dM_scrub_79 : decode cM_scrub 79 = .ok (.iload_n 2, 1) := by decide +kernel
theorem dM_scrub_80 : decode cM_scrub 80 = .ok (.iconst 1, 1) := by decide +kernel
theorem dM_scrub_81 : decode cM_scrub 81 = .ok (.invokevirtual 29, 3) := by decide +kernel
theorem dM_scrub_84 : decode cM_scrub 84 = .ok (.aload_n 0, 1) := by decide +kernel
theorem dM_scrub_85 : decode cM_scrub 85 = .ok (.getfield 7, 3) := by decide +kernel
theorem dM_scrub_88 : decode cM_scrub 88 = .ok (.iload_n 3, 1) := by decide +kernel
theorem dM_scrub_89 : decode cM_scrub 89 = .ok (.iload_n 2, 1) := by decide +kernel
theorem dM_scrub_90 : decode cM_scrub 90 = .ok (.iconst 1, 1) := by decide +kernel
theorem dM_scrub_91 : decode cM_scrub 91 = .ok (.invokestatic 25, 3) := by decide +kernel
theorem dM_scrub_94 : decode cM_scrub 94 = .ok (.laload, 1) := by decide +kernel
theorem dM_scrub_95 : decode cM_scrub 95 = .ok (.lcmp, 1) := by decide +kernel
theorem dM_scrub_96 : decode cM_scrub 96 = .ok (.ifCond .ne 6, 3) := by decide +kernel
theorem dM_scrub_99 : decode cM_scrub 99 = .ok (.goto 42, 3) := by decide +kernel
theorem dM_scrub_102 : decode cM_scrub 102 = .ok (.iinc 1 1, 3) := by decide +kernel
theorem dM_scrub_105 : decode cM_scrub 105 = .ok (.aload_n 0, 1) := by decide +kernel
theorem dM_scrub_106 : decode cM_scrub 106 = .ok (.getfield 7, 3) := by decide +kernel
theorem dM_scrub_109 : decode cM_scrub 109 = .ok (.iload_n 3, 1) := by decide +kernel
theorem dM_scrub_110 : decode cM_scrub 110 = .ok (.iload_n 2, 1) := by decide +kernel
theorem dM_scrub_111 : decode cM_scrub 111 = .ok (.iconst 0, 1) := by decide +kernel
theorem dM_scrub_112 : decode cM_scrub 112 = .ok (.invokestatic 25, 3) := by decide +kernel
theorem dM_scrub_115 : decode cM_scrub 115 = .ok (.aload_n 0, 1) := by decide +kernel
theorem dM_scrub_116 : decode cM_scrub 116 = .ok (.iload_n 3, 1) := by decide +kernel
theorem dM_scrub_117 : decode cM_scrub 117 = .ok (.iload_n 2, 1) := by decide +kernel
theorem dM_scrub_118 : decode cM_scrub 118 = .ok (.iconst 0, 1) := by decide +kernel
theorem dM_scrub_119 : decode cM_scrub 119 = .ok (.invokevirtual 29, 3) := by decide +kernel
theorem dM_scrub_122 : decode cM_scrub 122 = .ok (.lastore, 1) := by decide +kernel
theorem dM_scrub_123 : decode cM_scrub 123 = .ok (.aload_n 0, 1) := by decide +kernel
theorem dM_scrub_124 : decode cM_scrub 124 = .ok (.getfield 7, 3) := by decide +kernel
theorem dM_scrub_127 : decode cM_scrub 127 = .ok (.iload_n 3, 1) := by decide +kernel
theorem dM_scrub_128 : decode cM_scrub 128 = .ok (.iload_n 2, 1) := by decide +kernel
theorem dM_scrub_129 : decode cM_scrub 129 = .ok (.iconst 1, 1) := by decide +kernel
theorem dM_scrub_130 : decode cM_scrub 130 = .ok (.invokestatic 25, 3) := by decide +kernel
theorem dM_scrub_133 : decode cM_scrub 133 = .ok (.aload_n 0, 1) := by decide +kernel
theorem dM_scrub_134 : decode cM_scrub 134 = .ok (.iload_n 3, 1) := by decide +kernel
theorem dM_scrub_135 : decode cM_scrub 135 = .ok (.iload_n 2, 1) := by decide +kernel
theorem dM_scrub_136 : decode cM_scrub 136 = .ok (.iconst 1, 1) := by decide +kernel
theorem dM_scrub_137 : decode cM_scrub 137 = .ok (.invokevirtual 29, 3) := by decide +kernel
theorem dM_scrub_140 : decode cM_scrub 140 = .ok (.lastore, 1) := by decide +kernel
theorem dM_scrub_141 : decode cM_scrub 141 = .ok (.iinc 2 1, 3) := by decide +kernel
theorem dM_scrub_144 : decode cM_scrub 144 = .ok (.goto (-135), 3) := by decide +kernel
theorem dM_scrub_147 : decode cM_scrub 147 = .ok (.iload_n 1, 1) := by decide +kernel
theorem dM_scrub_148 : decode cM_scrub 148 = .ok (.ireturn, 1) := by decide +kernel
theorem dM_state_0 : decode cM_state 0 = .ok (.aload_n 0, 1) := by decide +kernel
theorem dM_state_1 : decode cM_state 1 = .ok (.iload_n 1, 1) := by decide +kernel
theorem dM_state_2 : decode cM_state 2 = .ok (.invokestatic 50, 3) := by decide +kernel
theorem dM_state_5 : decode cM_state 5 = .ok (.iconst 1, 1) := by decide +kernel
theorem dM_state_6 : decode cM_state 6 = .ok (.invokevirtual 36, 3) := by decide +kernel
theorem dM_state_9 : decode cM_state 9 = .ok (.ifCond .eq 5, 3) := by decide +kernel
theorem dM_state_12 : decode cM_state 12 = .ok (.iconst 0, 1) := by decide +kernel
theorem dM_state_13 : decode cM_state 13 = .ok (.ireturn, 1) := by decide +kernel
theorem dM_state_14 : decode cM_state 14 = .ok (.aload_n 0, 1) := by decide +kernel
theorem dM_state_15 : decode cM_state 15 = .ok (.getfield 13, 3) := by decide +kernel
theorem dM_state_18 : decode cM_state 18 = .ok (.iload_n 1, 1) := by decide +kernel
theorem dM_state_19 : decode cM_state 19 = .ok (.iaload, 1) := by decide +kernel
theorem dM_state_20 : decode cM_state 20 = .ok (.bipush 100, 2) := by decide +kernel
theorem dM_state_22 : decode cM_state 22 = .ok (.if_icmp .ne 7, 3) := by decide +kernel
theorem dM_state_25 : decode cM_state 25 = .ok (.iconst 0, 1) := by decide +kernel
theorem dM_state_26 : decode cM_state 26 = .ok (.goto 24, 3) := by decide +kernel
theorem dM_state_29 : decode cM_state 29 = .ok (.aload_n 0, 1) := by decide +kernel
theorem dM_state_30 : decode cM_state 30 = .ok (.getfield 13, 3) := by decide +kernel
theorem dM_state_33 : decode cM_state 33 = .ok (.iload_n 1, 1) := by decide +kernel
theorem dM_state_34 : decode cM_state 34 = .ok (.iaload, 1) := by decide +kernel
theorem dM_state_35 : decode cM_state 35 = .ok (.ifCond .ge 7, 3) := by decide +kernel
theorem dM_state_38 : decode cM_state 38 = .ok (.iconst 1, 1) := by decide +kernel
theorem dM_state_39 : decode cM_state 39 = .ok (.goto 11, 3) := by decide +kernel
theorem dM_state_42 : decode cM_state 42 = .ok (.iconst 2, 1) := by decide +kernel
theorem dM_state_43 : decode cM_state 43 = .ok (.aload_n 0, 1) := by decide +kernel
theorem dM_state_44 : decode cM_state 44 = .ok (.getfield 13, 3) := by decide +kernel
theorem dM_state_47 : decode cM_state 47 = .ok (.iload_n 1, 1) := by decide +kernel
theorem dM_state_48 : decode cM_state 48 = .ok (.iaload, 1) := by decide +kernel
theorem dM_state_49 : decode cM_state 49 = .ok (.iadd, 1) := by decide +kernel
theorem dM_state_50 : decode cM_state 50 = .ok (.ireturn, 1) := by decide +kernel
theorem dM_lost_0 : decode cM_lost 0 = .ok (.aload_n 0, 1) := by decide +kernel
theorem dM_lost_1 : decode cM_lost 1 = .ok (.iconst 0, 1) := by decide +kernel
theorem dM_lost_2 : decode cM_lost 2 = .ok (.putfield 17, 3) := by decide +kernel
theorem dM_lost_5 : decode cM_lost 5 = .ok (.iconst 0, 1) := by decide +kernel
theorem dM_lost_6 : decode cM_lost 6 = .ok (.istore_n 1, 1) := by decide +kernel
theorem dM_lost_7 : decode cM_lost 7 = .ok (.iconst 0, 1) := by decide +kernel
theorem dM_lost_8 : decode cM_lost 8 = .ok (.istore_n 2, 1) := by decide +kernel
theorem dM_lost_9 : decode cM_lost 9 = .ok (.iload_n 2, 1) := by decide +kernel
theorem dM_lost_10 : decode cM_lost 10 = .ok (.sipush 400, 3) := by decide +kernel
theorem dM_lost_13 : decode cM_lost 13 = .ok (.if_icmp .ge 26, 3) := by decide +kernel
theorem dM_lost_16 : decode cM_lost 16 = .ok (.aload_n 0, 1) := by decide +kernel
theorem dM_lost_17 : decode cM_lost 17 = .ok (.iload_n 2, 1) := by decide +kernel
theorem dM_lost_18 : decode cM_lost 18 = .ok (.invokestatic 40, 3) := by decide +kernel
theorem dM_lost_21 : decode cM_lost 21 = .ok (.iload_n 2, 1) := by decide +kernel
theorem dM_lost_22 : decode cM_lost 22 = .ok (.iconst 4, 1) := by decide +kernel
theorem dM_lost_23 : decode cM_lost 23 = .ok (.idiv, 1) := by decide +kernel
theorem dM_lost_24 : decode cM_lost 24 = .ok (.invokevirtual 44, 3) := by decide +kernel
theorem dM_lost_27 : decode cM_lost 27 = .ok (.ifCond .eq 6, 3) := by decide +kernel
theorem dM_lost_30 : decode cM_lost 30 = .ok (.iinc 1 1, 3) := by decide +kernel
theorem dM_lost_33 : decode cM_lost 33 = .ok (.iinc 2 1, 3) := by decide +kernel
theorem dM_lost_36 : decode cM_lost 36 = .ok (.goto (-27), 3) := by decide +kernel
theorem dM_lost_39 : decode cM_lost 39 = .ok (.iload_n 1, 1) := by decide +kernel
theorem dM_lost_40 : decode cM_lost 40 = .ok (.ireturn, 1) := by decide +kernel
theorem dL_law_0 : decode cL_law 0 = .ok (.new 8, 3) := by decide +kernel
theorem dL_law_3 : decode cL_law 3 = .ok (.dup, 1) := by decide +kernel
theorem dL_law_4 : decode cL_law 4 = .ok (.invokespecial 46, 3) := by decide +kernel
theorem dL_law_7 : decode cL_law 7 = .ok (.astore_n 1, 1) := by decide +kernel
theorem dL_law_8 : decode cL_law 8 = .ok (.new 47, 3) := by decide +kernel
theorem dL_law_11 : decode cL_law 11 = .ok (.dup, 1) := by decide +kernel
theorem dL_law_12 : decode cL_law 12 = .ok (.invokespecial 49, 3) := by decide +kernel
theorem dL_law_15 : decode cL_law 15 = .ok (.astore_n 2, 1) := by decide +kernel
theorem dL_law_16 : decode cL_law 16 = .ok (.iconst 1, 1) := by decide +kernel
theorem dL_law_17 : decode cL_law 17 = .ok (.newarray .long, 2) := by decide +kernel
theorem dL_law_19 : decode cL_law 19 = .ok (.astore_n 3, 1) := by decide +kernel
theorem dL_law_20 : decode cL_law 20 = .ok (.iconst 0, 1) := by decide +kernel
theorem dL_law_21 : decode cL_law 21 = .ok (.istore 4, 2) := by decide +kernel
theorem dL_law_23 : decode cL_law 23 = .ok (.iload 4, 2) := by decide +kernel
theorem dL_law_25 : decode cL_law 25 = .ok (.aload_n 0, 1) := by decide +kernel
theorem dL_law_26 : decode cL_law 26 = .ok (.arraylength, 1) := by decide +kernel
theorem dL_law_27 : decode cL_law 27 = .ok (.bipush 6, 2) := by decide +kernel
theorem dL_law_29 : decode cL_law 29 = .ok (.isub, 1) := by decide +kernel
theorem dL_law_30 : decode cL_law 30 = .ok (.if_icmp .gt 636, 3) := by decide +kernel
theorem dL_law_33 : decode cL_law 33 = .ok (.aload_n 0, 1) := by decide +kernel
theorem dL_law_34 : decode cL_law 34 = .ok (.iload 4, 2) := by decide +kernel
theorem dL_law_36 : decode cL_law 36 = .ok (.iaload, 1) := by decide +kernel
theorem dL_law_37 : decode cL_law 37 = .ok (.bipush 15, 2) := by decide +kernel
theorem dL_law_39 : decode cL_law 39 = .ok (.iand, 1) := by decide +kernel
theorem dL_law_40 : decode cL_law 40 = .ok (.tableswitch 620 0 9 #[56, 123, 215, 251, 287, 355, 459, 538, 551, 607], 56) := by decide +kernel
theorem dL_law_96 : decode cL_law 96 = .ok (.aload_n 1, 1) := by decide +kernel
theorem dL_law_97 : decode cL_law 97 = .ok (.aload_n 0, 1) := by decide +kernel
theorem dL_law_98 : decode cL_law 98 = .ok (.iload 4, 2) := by decide +kernel
theorem dL_law_100 : decode cL_law 100 = .ok (.iconst 1, 1) := by decide +kernel
theorem dL_law_101 : decode cL_law 101 = .ok (.iadd, 1) := by decide +kernel
theorem dL_law_102 : decode cL_law 102 = .ok (.iaload, 1) := by decide +kernel
theorem dL_law_103 : decode cL_law 103 = .ok (.aload_n 0, 1) := by decide +kernel
theorem dL_law_104 : decode cL_law 104 = .ok (.iload 4, 2) := by decide +kernel
theorem dL_law_106 : decode cL_law 106 = .ok (.iconst 2, 1) := by decide +kernel
theorem dL_law_107 : decode cL_law 107 = .ok (.iadd, 1) := by decide +kernel
theorem dL_law_108 : decode cL_law 108 = .ok (.iaload, 1) := by decide +kernel
theorem dL_law_109 : decode cL_law 109 = .ok (.aload_n 3, 1) := by decide +kernel
theorem dL_law_110 : decode cL_law 110 = .ok (.invokestatic 50, 3) := by decide +kernel
theorem dL_law_113 : decode cL_law 113 = .ok (.istore 5, 2) := by decide +kernel
theorem dL_law_115 : decode cL_law 115 = .ok (.aload_n 2, 1) := by decide +kernel
theorem dL_law_116 : decode cL_law 116 = .ok (.aload_n 0, 1) := by decide +kernel
theorem dL_law_117 : decode cL_law 117 = .ok (.iload 4, 2) := by decide +kernel
theorem dL_law_119 : decode cL_law 119 = .ok (.iconst 1, 1) := by decide +kernel
theorem dL_law_120 : decode cL_law 120 = .ok (.iadd, 1) := by decide +kernel
theorem dL_law_121 : decode cL_law 121 = .ok (.iaload, 1) := by decide +kernel
theorem dL_law_122 : decode cL_law 122 = .ok (.aload_n 0, 1) := by decide +kernel
theorem dL_law_123 : decode cL_law 123 = .ok (.iload 4, 2) := by decide +kernel
theorem dL_law_125 : decode cL_law 125 = .ok (.iconst 2, 1) := by decide +kernel
theorem dL_law_126 : decode cL_law 126 = .ok (.iadd, 1) := by decide +kernel
theorem dL_law_127 : decode cL_law 127 = .ok (.iaload, 1) := by decide +kernel
theorem dL_law_128 : decode cL_law 128 = .ok (.invokevirtual 55, 3) := by decide +kernel
theorem dL_law_131 : decode cL_law 131 = .ok (.lstore 6, 2) := by decide +kernel
theorem dL_law_133 : decode cL_law 133 = .ok (.aload_n 2, 1) := by decide +kernel
theorem dL_law_134 : decode cL_law 134 = .ok (.invokevirtual 56, 3) := by decide +kernel
theorem dL_law_137 : decode cL_law 137 = .ok (.iload 5, 2) := by decide +kernel
theorem dL_law_139 : decode cL_law 139 = .ok (.if_icmp .eq 5, 3) := by decide +kernel
theorem dL_law_142 : decode cL_law 142 = .ok (.iconst 0, 1) := by decide +kernel
theorem dL_law_143 : decode cL_law 143 = .ok (.ireturn, 1) := by decide +kernel
theorem dL_law_144 : decode cL_law 144 = .ok (.iload 5, 2) := by decide +kernel
theorem dL_law_146 : decode cL_law 146 = .ok (.ifCond .ne 14, 3) := by decide +kernel
theorem dL_law_149 : decode cL_law 149 = .ok (.aload_n 3, 1) := by decide +kernel
theorem dL_law_150 : decode cL_law 150 = .ok (.iconst 0, 1) := by decide +kernel
theorem dL_law_151 : decode cL_law 151 = .ok (.laload, 1) := by decide +kernel
theorem dL_law_152 : decode cL_law 152 = .ok (.lload 6, 2) := by decide +kernel
theorem dL_law_154 : decode cL_law 154 = .ok (.lcmp, 1) := by decide +kernel
theorem dL_law_155 : decode cL_law 155 = .ok (.ifCond .eq 5, 3) := by decide +kernel
theorem dL_law_158 : decode cL_law 158 = .ok (.iconst 0, 1) := by decide +kernel
theorem dL_law_159 : decode cL_law 159 = .ok (.ireturn, 1) := by decide +kernel
theorem dL_law_160 : decode cL_law 160 = .ok (.goto 500, 3) := by decide +kernel
theorem dL_law_163 : decode cL_law 163 = .ok (.aload_n 1, 1) := by decide +kernel
theorem dL_law_164 : decode cL_law 164 = .ok (.aload_n 0, 1) := by decide +kernel
theorem dL_law_165 : decode cL_law 165 = .ok (.iload 4, 2) := by decide +kernel
theorem dL_law_167 : decode cL_law 167 = .ok (.iconst 1, 1) := by decide +kernel
theorem dL_law_168 : decode cL_law 168 = .ok (.iadd, 1) := by decide +kernel
theorem dL_law_169 : decode cL_law 169 = .ok (.iaload, 1) := by decide +kernel
theorem dL_law_170 : decode cL_law 170 = .ok (.aload_n 0, 1) := by decide +kernel
theorem dL_law_171 : decode cL_law 171 = .ok (.iload 4, 2) := by decide +kernel
theorem dL_law_173 : decode cL_law 173 = .ok (.iconst 2, 1) := by decide +kernel
theorem dL_law_174 : decode cL_law 174 = .ok (.iadd, 1) := by decide +kernel
theorem dL_law_175 : decode cL_law 175 = .ok (.iaload, 1) := by decide +kernel
theorem dL_law_176 : decode cL_law 176 = .ok (.aload_n 0, 1) := by decide +kernel
theorem dL_law_177 : decode cL_law 177 = .ok (.iload 4, 2) := by decide +kernel
theorem dL_law_179 : decode cL_law 179 = .ok (.iconst 3, 1) := by decide +kernel
theorem dL_law_180 : decode cL_law 180 = .ok (.iadd, 1) := by decide +kernel
theorem dL_law_181 : decode cL_law 181 = .ok (.iaload, 1) := by decide +kernel
theorem dL_law_182 : decode cL_law 182 = .ok (.i2l, 1) := by decide +kernel
theorem dL_law_183 : decode cL_law 183 = .ok (.bipush 32, 2) := by decide +kernel
theorem dL_law_185 : decode cL_law 185 = .ok (.lshl, 1) := by decide +kernel
theorem dL_law_186 : decode cL_law 186 = .ok (.aload_n 0, 1) := by decide +kernel
theorem dL_law_187 : decode cL_law 187 = .ok (.iload 4, 2) := by decide +kernel
theorem dL_law_189 : decode cL_law 189 = .ok (.iconst 4, 1) := by decide +kernel
theorem dL_law_190 : decode cL_law 190 = .ok (.iadd, 1) := by decide +kernel
theorem dL_law_191 : decode cL_law 191 = .ok (.iaload, 1) := by decide +kernel
theorem dL_law_192 : decode cL_law 192 = .ok (.i2l, 1) := by decide +kernel
theorem dL_law_193 : decode cL_law 193 = .ok (.ldc2_w 60, 3) := by decide +kernel
theorem dL_law_196 : decode cL_law 196 = .ok (.land, 1) := by decide +kernel
theorem dL_law_197 : decode cL_law 197 = .ok (.lor, 1) := by decide +kernel
theorem dL_law_198 : decode cL_law 198 = .ok (.invokestatic 62, 3) := by decide +kernel
theorem dL_law_201 : decode cL_law 201 = .ok (.istore 5, 2) := by decide +kernel
theorem dL_law_203 : decode cL_law 203 = .ok (.aload_n 2, 1) := by decide +kernel
theorem dL_law_204 : decode cL_law 204 = .ok (.aload_n 0, 1) := by decide +kernel
theorem dL_law_205 : decode cL_law 205 = .ok (.iload 4, 2) := by decide +kernel
theorem dL_law_207 : decode cL_law 207 = .ok (.iconst 1, 1) := by decide +kernel
theorem dL_law_208 : decode cL_law 208 = .ok (.iadd, 1) := by decide +kernel
theorem dL_law_209 : decode cL_law 209 = .ok (.iaload, 1) := by decide +kernel
theorem dL_law_210 : decode cL_law 210 = .ok (.aload_n 0, 1) := by decide +kernel
theorem dL_law_211 : decode cL_law 211 = .ok (.iload 4, 2) := by decide +kernel
theorem dL_law_213 : decode cL_law 213 = .ok (.iconst 2, 1) := by decide +kernel
theorem dL_law_214 : decode cL_law 214 = .ok (.iadd, 1) := by decide +kernel
theorem dL_law_215 : decode cL_law 215 = .ok (.iaload, 1) := by decide +kernel
theorem dL_law_216 : decode cL_law 216 = .ok (.aload_n 0, 1) := by decide +kernel
theorem dL_law_217 : decode cL_law 217 = .ok (.iload 4, 2) := by decide +kernel
theorem dL_law_219 : decode cL_law 219 = .ok (.iconst 3, 1) := by decide +kernel
theorem dL_law_220 : decode cL_law 220 = .ok (.iadd, 1) := by decide +kernel
theorem dL_law_221 : decode cL_law 221 = .ok (.iaload, 1) := by decide +kernel
theorem dL_law_222 : decode cL_law 222 = .ok (.i2l, 1) := by decide +kernel
theorem dL_law_223 : decode cL_law 223 = .ok (.bipush 32, 2) := by decide +kernel
theorem dL_law_225 : decode cL_law 225 = .ok (.lshl, 1) := by decide +kernel
theorem dL_law_226 : decode cL_law 226 = .ok (.aload_n 0, 1) := by decide +kernel
theorem dL_law_227 : decode cL_law 227 = .ok (.iload 4, 2) := by decide +kernel
theorem dL_law_229 : decode cL_law 229 = .ok (.iconst 4, 1) := by decide +kernel
theorem dL_law_230 : decode cL_law 230 = .ok (.iadd, 1) := by decide +kernel
theorem dL_law_231 : decode cL_law 231 = .ok (.iaload, 1) := by decide +kernel
theorem dL_law_232 : decode cL_law 232 = .ok (.i2l, 1) := by decide +kernel
theorem dL_law_233 : decode cL_law 233 = .ok (.ldc2_w 60, 3) := by decide +kernel
theorem dL_law_236 : decode cL_law 236 = .ok (.land, 1) := by decide +kernel
theorem dL_law_237 : decode cL_law 237 = .ok (.lor, 1) := by decide +kernel
theorem dL_law_238 : decode cL_law 238 = .ok (.invokevirtual 65, 3) := by decide +kernel
theorem dL_law_241 : decode cL_law 241 = .ok (.aload_n 2, 1) := by decide +kernel
theorem dL_law_242 : decode cL_law 242 = .ok (.invokevirtual 56, 3) := by decide +kernel
theorem dL_law_245 : decode cL_law 245 = .ok (.iload 5, 2) := by decide +kernel
theorem dL_law_247 : decode cL_law 247 = .ok (.if_icmp .eq 5, 3) := by decide +kernel
theorem dL_law_250 : decode cL_law 250 = .ok (.iconst 0, 1) := by decide +kernel
theorem dL_law_251 : decode cL_law 251 = .ok (.ireturn, 1) := by decide +kernel
theorem dL_law_252 : decode cL_law 252 = .ok (.goto 408, 3) := by decide +kernel
theorem dL_law_255 : decode cL_law 255 = .ok (.aload_n 1, 1) := by decide +kernel
theorem dL_law_256 : decode cL_law 256 = .ok (.aload_n 0, 1) := by decide +kernel
theorem dL_law_257 : decode cL_law 257 = .ok (.iload 4, 2) := by decide +kernel
theorem dL_law_259 : decode cL_law 259 = .ok (.iconst 1, 1) := by decide +kernel
theorem dL_law_260 : decode cL_law 260 = .ok (.iadd, 1) := by decide +kernel
theorem dL_law_261 : decode cL_law 261 = .ok (.iaload, 1) := by decide +kernel
theorem dL_law_262 : decode cL_law 262 = .ok (.invokestatic 66, 3) := by decide +kernel
theorem dL_law_265 : decode cL_law 265 = .ok (.istore 5, 2) := by decide +kernel
theorem dL_law_267 : decode cL_law 267 = .ok (.aload_n 2, 1) := by decide +kernel
theorem dL_law_268 : decode cL_law 268 = .ok (.aload_n 0, 1) := by decide +kernel
theorem dL_law_269 : decode cL_law 269 = .ok (.iload 4, 2) := by decide +kernel
theorem dL_law_271 : decode cL_law 271 = .ok (.iconst 1, 1) := by decide +kernel
theorem dL_law_272 : decode cL_law 272 = .ok (.iadd, 1) := by decide +kernel
theorem dL_law_273 : decode cL_law 273 = .ok (.iaload, 1) := by decide +kernel
theorem dL_law_274 : decode cL_law 274 = .ok (.invokevirtual 69, 3) := by decide +kernel
theorem dL_law_277 : decode cL_law 277 = .ok (.aload_n 2, 1) := by decide +kernel
theorem dL_law_278 : decode cL_law 278 = .ok (.invokevirtual 56, 3) := by decide +kernel
theorem dL_law_281 : decode cL_law 281 = .ok (.iload 5, 2) := by decide +kernel
theorem dL_law_283 : decode cL_law 283 = .ok (.if_icmp .eq 5, 3) := by decide +kernel
theorem dL_law_286 : decode cL_law 286 = .ok (.iconst 0, 1) := by decide +kernel
theorem dL_law_287 : decode cL_law 287 = .ok (.ireturn, 1) := by decide +kernel
theorem dL_law_288 : decode cL_law 288 = .ok (.goto 372, 3) := by decide +kernel
theorem dL_law_291 : decode cL_law 291 = .ok (.aload_n 1, 1) := by decide +kernel
theorem dL_law_292 : decode cL_law 292 = .ok (.aload_n 0, 1) := by decide +kernel
theorem dL_law_293 : decode cL_law 293 = .ok (.iload 4, 2) := by decide +kernel
theorem dL_law_295 : decode cL_law 295 = .ok (.iconst 1, 1) := by decide +kernel
theorem dL_law_296 : decode cL_law 296 = .ok (.iadd, 1) := by decide +kernel
theorem dL_law_297 : decode cL_law 297 = .ok (.iaload, 1) := by decide +kernel
theorem dL_law_298 : decode cL_law 298 = .ok (.invokestatic 70, 3) := by decide +kernel
theorem dL_law_301 : decode cL_law 301 = .ok (.istore 5, 2) := by decide +kernel
theorem dL_law_303 : decode cL_law 303 = .ok (.aload_n 2, 1) := by decide +kernel
theorem dL_law_304 : decode cL_law 304 = .ok (.aload_n 0, 1) := by decide +kernel
theorem dL_law_305 : decode cL_law 305 = .ok (.iload 4, 2) := by decide +kernel
theorem dL_law_307 : decode cL_law 307 = .ok (.iconst 1, 1) := by decide +kernel
theorem dL_law_308 : decode cL_law 308 = .ok (.iadd, 1) := by decide +kernel
theorem dL_law_309 : decode cL_law 309 = .ok (.iaload, 1) := by decide +kernel
theorem dL_law_310 : decode cL_law 310 = .ok (.invokevirtual 72, 3) := by decide +kernel
theorem dL_law_313 : decode cL_law 313 = .ok (.aload_n 2, 1) := by decide +kernel
theorem dL_law_314 : decode cL_law 314 = .ok (.invokevirtual 56, 3) := by decide +kernel
theorem dL_law_317 : decode cL_law 317 = .ok (.iload 5, 2) := by decide +kernel
theorem dL_law_319 : decode cL_law 319 = .ok (.if_icmp .eq 5, 3) := by decide +kernel
theorem dL_law_322 : decode cL_law 322 = .ok (.iconst 0, 1) := by decide +kernel
theorem dL_law_323 : decode cL_law 323 = .ok (.ireturn, 1) := by decide +kernel
theorem dL_law_324 : decode cL_law 324 = .ok (.goto 336, 3) := by decide +kernel
theorem dL_law_327 : decode cL_law 327 = .ok (.aload_n 1, 1) := by decide +kernel
theorem dL_law_328 : decode cL_law 328 = .ok (.aload_n 0, 1) := by decide +kernel
theorem dL_law_329 : decode cL_law 329 = .ok (.iload 4, 2) := by decide +kernel
theorem dL_law_331 : decode cL_law 331 = .ok (.iconst 1, 1) := by decide +kernel
theorem dL_law_332 : decode cL_law 332 = .ok (.iadd, 1) := by decide +kernel
theorem dL_law_333 : decode cL_law 333 = .ok (.iaload, 1) := by decide +kernel
theorem dL_law_334 : decode cL_law 334 = .ok (.aload_n 0, 1) := by decide +kernel
theorem dL_law_335 : decode cL_law 335 = .ok (.iload 4, 2) := by decide +kernel
theorem dL_law_337 : decode cL_law 337 = .ok (.iconst 2, 1) := by decide +kernel
theorem dL_law_338 : decode cL_law 338 = .ok (.iadd, 1) := by decide +kernel
theorem dL_law_339 : decode cL_law 339 = .ok (.iaload, 1) := by decide +kernel
theorem dL_law_340 : decode cL_law 340 = .ok (.aload_n 3, 1) := by decide +kernel
theorem dL_law_341 : decode cL_law 341 = .ok (.invokestatic 73, 3) := by decide +kernel
theorem dL_law_344 : decode cL_law 344 = .ok (.istore 5, 2) := by decide +kernel
theorem dL_law_346 : decode cL_law 346 = .ok (.aload_n 2, 1) := by decide +kernel
theorem dL_law_347 : decode cL_law 347 = .ok (.aload_n 0, 1) := by decide +kernel
theorem dL_law_348 : decode cL_law 348 = .ok (.iload 4, 2) := by decide +kernel
theorem dL_law_350 : decode cL_law 350 = .ok (.iconst 1, 1) := by decide +kernel
theorem dL_law_351 : decode cL_law 351 = .ok (.iadd, 1) := by decide +kernel
theorem dL_law_352 : decode cL_law 352 = .ok (.iaload, 1) := by decide +kernel
theorem dL_law_353 : decode cL_law 353 = .ok (.aload_n 0, 1) := by decide +kernel
theorem dL_law_354 : decode cL_law 354 = .ok (.iload 4, 2) := by decide +kernel
theorem dL_law_356 : decode cL_law 356 = .ok (.iconst 2, 1) := by decide +kernel
theorem dL_law_357 : decode cL_law 357 = .ok (.iadd, 1) := by decide +kernel
theorem dL_law_358 : decode cL_law 358 = .ok (.iaload, 1) := by decide +kernel
theorem dL_law_359 : decode cL_law 359 = .ok (.invokevirtual 75, 3) := by decide +kernel
theorem dL_law_362 : decode cL_law 362 = .ok (.istore 6, 2) := by decide +kernel
theorem dL_law_364 : decode cL_law 364 = .ok (.aload_n 2, 1) := by decide +kernel
theorem dL_law_365 : decode cL_law 365 = .ok (.invokevirtual 56, 3) := by decide +kernel
theorem dL_law_368 : decode cL_law 368 = .ok (.iload 5, 2) := by decide +kernel
theorem dL_law_370 : decode cL_law 370 = .ok (.if_icmp .eq 5, 3) := by decide +kernel
theorem dL_law_373 : decode cL_law 373 = .ok (.iconst 0, 1) := by decide +kernel
theorem dL_law_374 : decode cL_law 374 = .ok (.ireturn, 1) := by decide +kernel
theorem dL_law_375 : decode cL_law 375 = .ok (.iload 5, 2) := by decide +kernel
theorem dL_law_377 : decode cL_law 377 = .ok (.ifCond .ne 15, 3) := by decide +kernel
theorem dL_law_380 : decode cL_law 380 = .ok (.aload_n 3, 1) := by decide +kernel
theorem dL_law_381 : decode cL_law 381 = .ok (.iconst 0, 1) := by decide +kernel
theorem dL_law_382 : decode cL_law 382 = .ok (.laload, 1) := by decide +kernel
theorem dL_law_383 : decode cL_law 383 = .ok (.iload 6, 2) := by decide +kernel
theorem dL_law_385 : decode cL_law 385 = .ok (.i2l, 1) := by decide +kernel
theorem dL_law_386 : decode cL_law 386 = .ok (.lcmp, 1) := by decide +kernel
theorem dL_law_387 : decode cL_law 387 = .ok (.ifCond .eq 5, 3) := by decide +kernel
theorem dL_law_390 : decode cL_law 390 = .ok (.iconst 0, 1) := by decide +kernel
theorem dL_law_391 : decode cL_law 391 = .ok (.ireturn, 1) := by decide +kernel
theorem dL_law_392 : decode cL_law 392 = .ok (.goto 268, 3) := by decide +kernel
theorem dL_law_395 : decode cL_law 395 = .ok (.aload_n 1, 1) := by decide +kernel
theorem dL_law_396 : decode cL_law 396 = .ok (.aload_n 0, 1) := by decide +kernel
theorem dL_law_397 : decode cL_law 397 = .ok (.iload 4, 2) := by decide +kernel
theorem dL_law_399 : decode cL_law 399 = .ok (.iconst 1, 1) := by decide +kernel
theorem dL_law_400 : decode cL_law 400 = .ok (.iadd, 1) := by decide +kernel
theorem dL_law_401 : decode cL_law 401 = .ok (.iaload, 1) := by decide +kernel
theorem dL_law_402 : decode cL_law 402 = .ok (.aload_n 0, 1) := by decide +kernel
theorem dL_law_403 : decode cL_law 403 = .ok (.iload 4, 2) := by decide +kernel
theorem dL_law_405 : decode cL_law 405 = .ok (.iconst 2, 1) := by decide +kernel
theorem dL_law_406 : decode cL_law 406 = .ok (.iadd, 1) := by decide +kernel
theorem dL_law_407 : decode cL_law 407 = .ok (.iaload, 1) := by decide +kernel
theorem dL_law_408 : decode cL_law 408 = .ok (.aload_n 0, 1) := by decide +kernel
theorem dL_law_409 : decode cL_law 409 = .ok (.iload 4, 2) := by decide +kernel
theorem dL_law_411 : decode cL_law 411 = .ok (.iconst 3, 1) := by decide +kernel
theorem dL_law_412 : decode cL_law 412 = .ok (.iadd, 1) := by decide +kernel
theorem dL_law_413 : decode cL_law 413 = .ok (.iaload, 1) := by decide +kernel
theorem dL_law_414 : decode cL_law 414 = .ok (.aload_n 0, 1) := by decide +kernel
theorem dL_law_415 : decode cL_law 415 = .ok (.iload 4, 2) := by decide +kernel
theorem dL_law_417 : decode cL_law 417 = .ok (.iconst 4, 1) := by decide +kernel
theorem dL_law_418 : decode cL_law 418 = .ok (.iadd, 1) := by decide +kernel
theorem dL_law_419 : decode cL_law 419 = .ok (.iaload, 1) := by decide +kernel
theorem dL_law_420 : decode cL_law 420 = .ok (.i2l, 1) := by decide +kernel
theorem dL_law_421 : decode cL_law 421 = .ok (.bipush 32, 2) := by decide +kernel
theorem dL_law_423 : decode cL_law 423 = .ok (.lshl, 1) := by decide +kernel
theorem dL_law_424 : decode cL_law 424 = .ok (.aload_n 0, 1) := by decide +kernel
theorem dL_law_425 : decode cL_law 425 = .ok (.iload 4, 2) := by decide +kernel
theorem dL_law_427 : decode cL_law 427 = .ok (.iconst 5, 1) := by decide +kernel
theorem dL_law_428 : decode cL_law 428 = .ok (.iadd, 1) := by decide +kernel
theorem dL_law_429 : decode cL_law 429 = .ok (.iaload, 1) := by decide +kernel
theorem dL_law_430 : decode cL_law 430 = .ok (.i2l, 1) := by decide +kernel
theorem dL_law_431 : decode cL_law 431 = .ok (.ldc2_w 60, 3) := by decide +kernel
theorem dL_law_434 : decode cL_law 434 = .ok (.land, 1) := by decide +kernel
theorem dL_law_435 : decode cL_law 435 = .ok (.lor, 1) := by decide +kernel
theorem dL_law_436 : decode cL_law 436 = .ok (.invokestatic 76, 3) := by decide +kernel
theorem dL_law_439 : decode cL_law 439 = .ok (.istore 5, 2) := by decide +kernel
theorem dL_law_441 : decode cL_law 441 = .ok (.aload_n 2, 1) := by decide +kernel
theorem dL_law_442 : decode cL_law 442 = .ok (.aload_n 0, 1) := by decide +kernel
theorem dL_law_443 : decode cL_law 443 = .ok (.iload 4, 2) := by decide +kernel
theorem dL_law_445 : decode cL_law 445 = .ok (.iconst 1, 1) := by decide +kernel
theorem dL_law_446 : decode cL_law 446 = .ok (.iadd, 1) := by decide +kernel
theorem dL_law_447 : decode cL_law 447 = .ok (.iaload, 1) := by decide +kernel
theorem dL_law_448 : decode cL_law 448 = .ok (.aload_n 0, 1) := by decide +kernel
theorem dL_law_449 : decode cL_law 449 = .ok (.iload 4, 2) := by decide +kernel
theorem dL_law_451 : decode cL_law 451 = .ok (.iconst 2, 1) := by decide +kernel
theorem dL_law_452 : decode cL_law 452 = .ok (.iadd, 1) := by decide +kernel
theorem dL_law_453 : decode cL_law 453 = .ok (.iaload, 1) := by decide +kernel
theorem dL_law_454 : decode cL_law 454 = .ok (.aload_n 0, 1) := by decide +kernel
theorem dL_law_455 : decode cL_law 455 = .ok (.iload 4, 2) := by decide +kernel
theorem dL_law_457 : decode cL_law 457 = .ok (.iconst 3, 1) := by decide +kernel
theorem dL_law_458 : decode cL_law 458 = .ok (.iadd, 1) := by decide +kernel
theorem dL_law_459 : decode cL_law 459 = .ok (.iaload, 1) := by decide +kernel
theorem dL_law_460 : decode cL_law 460 = .ok (.aload_n 0, 1) := by decide +kernel
theorem dL_law_461 : decode cL_law 461 = .ok (.iload 4, 2) := by decide +kernel
theorem dL_law_463 : decode cL_law 463 = .ok (.iconst 4, 1) := by decide +kernel
theorem dL_law_464 : decode cL_law 464 = .ok (.iadd, 1) := by decide +kernel
theorem dL_law_465 : decode cL_law 465 = .ok (.iaload, 1) := by decide +kernel
theorem dL_law_466 : decode cL_law 466 = .ok (.i2l, 1) := by decide +kernel
theorem dL_law_467 : decode cL_law 467 = .ok (.bipush 32, 2) := by decide +kernel
theorem dL_law_469 : decode cL_law 469 = .ok (.lshl, 1) := by decide +kernel
theorem dL_law_470 : decode cL_law 470 = .ok (.aload_n 0, 1) := by decide +kernel
theorem dL_law_471 : decode cL_law 471 = .ok (.iload 4, 2) := by decide +kernel
theorem dL_law_473 : decode cL_law 473 = .ok (.iconst 5, 1) := by decide +kernel
theorem dL_law_474 : decode cL_law 474 = .ok (.iadd, 1) := by decide +kernel
theorem dL_law_475 : decode cL_law 475 = .ok (.iaload, 1) := by decide +kernel
theorem dL_law_476 : decode cL_law 476 = .ok (.i2l, 1) := by decide +kernel
theorem dL_law_477 : decode cL_law 477 = .ok (.ldc2_w 60, 3) := by decide +kernel
theorem dL_law_480 : decode cL_law 480 = .ok (.land, 1) := by decide +kernel
theorem dL_law_481 : decode cL_law 481 = .ok (.lor, 1) := by decide +kernel
theorem dL_law_482 : decode cL_law 482 = .ok (.invokevirtual 79, 3) := by decide +kernel
theorem dL_law_485 : decode cL_law 485 = .ok (.aload_n 2, 1) := by decide +kernel
theorem dL_law_486 : decode cL_law 486 = .ok (.invokevirtual 56, 3) := by decide +kernel
theorem dL_law_489 : decode cL_law 489 = .ok (.iload 5, 2) := by decide +kernel
theorem dL_law_491 : decode cL_law 491 = .ok (.if_icmp .eq 5, 3) := by decide +kernel
theorem dL_law_494 : decode cL_law 494 = .ok (.iconst 0, 1) := by decide +kernel
theorem dL_law_495 : decode cL_law 495 = .ok (.ireturn, 1) := by decide +kernel
theorem dL_law_496 : decode cL_law 496 = .ok (.goto 164, 3) := by decide +kernel
theorem dL_law_499 : decode cL_law 499 = .ok (.aload_n 1, 1) := by decide +kernel
theorem dL_law_500 : decode cL_law 500 = .ok (.aload_n 0, 1) := by decide +kernel
theorem dL_law_501 : decode cL_law 501 = .ok (.iload 4, 2) := by decide +kernel
theorem dL_law_503 : decode cL_law 503 = .ok (.iconst 1, 1) := by decide +kernel
theorem dL_law_504 : decode cL_law 504 = .ok (.iadd, 1) := by decide +kernel
theorem dL_law_505 : decode cL_law 505 = .ok (.iaload, 1) := by decide +kernel
theorem dL_law_506 : decode cL_law 506 = .ok (.aload_n 0, 1) := by decide +kernel
theorem dL_law_507 : decode cL_law 507 = .ok (.iload 4, 2) := by decide +kernel
theorem dL_law_509 : decode cL_law 509 = .ok (.iconst 2, 1) := by decide +kernel
theorem dL_law_510 : decode cL_law 510 = .ok (.iadd, 1) := by decide +kernel
theorem dL_law_511 : decode cL_law 511 = .ok (.iaload, 1) := by decide +kernel
theorem dL_law_512 : decode cL_law 512 = .ok (.aload_n 0, 1) := by decide +kernel
theorem dL_law_513 : decode cL_law 513 = .ok (.iload 4, 2) := by decide +kernel
theorem dL_law_515 : decode cL_law 515 = .ok (.iconst 3, 1) := by decide +kernel
theorem dL_law_516 : decode cL_law 516 = .ok (.iadd, 1) := by decide +kernel
theorem dL_law_517 : decode cL_law 517 = .ok (.iaload, 1) := by decide +kernel
theorem dL_law_518 : decode cL_law 518 = .ok (.aload_n 3, 1) := by decide +kernel
theorem dL_law_519 : decode cL_law 519 = .ok (.invokestatic 80, 3) := by decide +kernel
theorem dL_law_522 : decode cL_law 522 = .ok (.istore 5, 2) := by decide +kernel
theorem dL_law_524 : decode cL_law 524 = .ok (.aload_n 2, 1) := by decide +kernel
theorem dL_law_525 : decode cL_law 525 = .ok (.aload_n 0, 1) := by decide +kernel
theorem dL_law_526 : decode cL_law 526 = .ok (.iload 4, 2) := by decide +kernel
theorem dL_law_528 : decode cL_law 528 = .ok (.iconst 1, 1) := by decide +kernel
theorem dL_law_529 : decode cL_law 529 = .ok (.iadd, 1) := by decide +kernel
theorem dL_law_530 : decode cL_law 530 = .ok (.iaload, 1) := by decide +kernel
theorem dL_law_531 : decode cL_law 531 = .ok (.aload_n 0, 1) := by decide +kernel
theorem dL_law_532 : decode cL_law 532 = .ok (.iload 4, 2) := by decide +kernel
theorem dL_law_534 : decode cL_law 534 = .ok (.iconst 2, 1) := by decide +kernel
theorem dL_law_535 : decode cL_law 535 = .ok (.iadd, 1) := by decide +kernel
theorem dL_law_536 : decode cL_law 536 = .ok (.iaload, 1) := by decide +kernel
theorem dL_law_537 : decode cL_law 537 = .ok (.aload_n 0, 1) := by decide +kernel
theorem dL_law_538 : decode cL_law 538 = .ok (.iload 4, 2) := by decide +kernel
theorem dL_law_540 : decode cL_law 540 = .ok (.iconst 3, 1) := by decide +kernel
theorem dL_law_541 : decode cL_law 541 = .ok (.iadd, 1) := by decide +kernel
theorem dL_law_542 : decode cL_law 542 = .ok (.iaload, 1) := by decide +kernel
theorem dL_law_543 : decode cL_law 543 = .ok (.invokevirtual 83, 3) := by decide +kernel
theorem dL_law_546 : decode cL_law 546 = .ok (.lstore 6, 2) := by decide +kernel
theorem dL_law_548 : decode cL_law 548 = .ok (.aload_n 2, 1) := by decide +kernel
theorem dL_law_549 : decode cL_law 549 = .ok (.invokevirtual 56, 3) := by decide +kernel
theorem dL_law_552 : decode cL_law 552 = .ok (.iload 5, 2) := by decide +kernel
theorem dL_law_554 : decode cL_law 554 = .ok (.if_icmp .eq 5, 3) := by decide +kernel
theorem dL_law_557 : decode cL_law 557 = .ok (.iconst 0, 1) := by decide +kernel
theorem dL_law_558 : decode cL_law 558 = .ok (.ireturn, 1) := by decide +kernel
theorem dL_law_559 : decode cL_law 559 = .ok (.iload 5, 2) := by decide +kernel
theorem dL_law_561 : decode cL_law 561 = .ok (.ifCond .ne 14, 3) := by decide +kernel
theorem dL_law_564 : decode cL_law 564 = .ok (.aload_n 3, 1) := by decide +kernel
theorem dL_law_565 : decode cL_law 565 = .ok (.iconst 0, 1) := by decide +kernel
theorem dL_law_566 : decode cL_law 566 = .ok (.laload, 1) := by decide +kernel
theorem dL_law_567 : decode cL_law 567 = .ok (.lload 6, 2) := by decide +kernel
theorem dL_law_569 : decode cL_law 569 = .ok (.lcmp, 1) := by decide +kernel
theorem dL_law_570 : decode cL_law 570 = .ok (.ifCond .eq 5, 3) := by decide +kernel
theorem dL_law_573 : decode cL_law 573 = .ok (.iconst 0, 1) := by decide +kernel
theorem dL_law_574 : decode cL_law 574 = .ok (.ireturn, 1) := by decide +kernel
theorem dL_law_575 : decode cL_law 575 = .ok (.goto 85, 3) := by decide +kernel
theorem dL_law_578 : decode cL_law 578 = .ok (.aload_n 1, 1) := by decide +kernel
theorem dL_law_579 : decode cL_law 579 = .ok (.invokevirtual 84, 3) := by decide +kernel
theorem dL_law_582 : decode cL_law 582 = .ok (.aload_n 2, 1) := by decide +kernel
theorem dL_law_583 : decode cL_law 583 = .ok (.invokevirtual 87, 3) := by decide +kernel
theorem dL_law_586 : decode cL_law 586 = .ok (.if_icmp .eq 74, 3) := by decide +kernel
theorem dL_law_589 : decode cL_law 589 = .ok (.iconst 0, 1) := by decide +kernel
theorem dL_law_590 : decode cL_law 590 = .ok (.ireturn, 1) := by decide +kernel
theorem dL_law_591 : decode cL_law 591 = .ok (.aload_n 1, 1) := by decide +kernel
theorem dL_law_592 : decode cL_law 592 = .ok (.aload_n 0, 1) := by decide +kernel
theorem dL_law_593 : decode cL_law 593 = .ok (.iload 4, 2) := by decide +kernel
theorem dL_law_595 : decode cL_law 595 = .ok (.iconst 1, 1) := by decide +kernel
theorem dL_law_596 : decode cL_law 596 = .ok (.iadd, 1) := by decide +kernel
theorem dL_law_597 : decode cL_law 597 = .ok (.iaload, 1) := by decide +kernel
theorem dL_law_598 : decode cL_law 598 = .ok (.aload_n 3, 1) := by decide +kernel
theorem dL_law_599 : decode cL_law 599 = .ok (.invokestatic 88, 3) := by decide +kernel
theorem dL_law_602 : decode cL_law 602 = .ok (.istore 5, 2) := by decide +kernel
theorem dL_law_604 : decode cL_law 604 = .ok (.aload_n 2, 1) := by decide +kernel
theorem dL_law_605 : decode cL_law 605 = .ok (.aload_n 0, 1) := by decide +kernel
theorem dL_law_606 : decode cL_law 606 = .ok (.iload 4, 2) := by decide +kernel
theorem dL_law_608 : decode cL_law 608 = .ok (.iconst 1, 1) := by decide +kernel
theorem dL_law_609 : decode cL_law 609 = .ok (.iadd, 1) := by decide +kernel
theorem dL_law_610 : decode cL_law 610 = .ok (.iaload, 1) := by decide +kernel
theorem dL_law_611 : decode cL_law 611 = .ok (.invokevirtual 91, 3) := by decide +kernel
theorem dL_law_614 : decode cL_law 614 = .ok (.istore 6, 2) := by decide +kernel
theorem dL_law_616 : decode cL_law 616 = .ok (.aload_n 2, 1) := by decide +kernel
theorem dL_law_617 : decode cL_law 617 = .ok (.invokevirtual 56, 3) := by decide +kernel
theorem dL_law_620 : decode cL_law 620 = .ok (.iload 5, 2) := by decide +kernel
theorem dL_law_622 : decode cL_law 622 = .ok (.if_icmp .eq 5, 3) := by decide +kernel
theorem dL_law_625 : decode cL_law 625 = .ok (.iconst 0, 1) := by decide +kernel
theorem dL_law_626 : decode cL_law 626 = .ok (.ireturn, 1) := by decide +kernel
theorem dL_law_627 : decode cL_law 627 = .ok (.iload 5, 2) := by decide +kernel
theorem dL_law_629 : decode cL_law 629 = .ok (.ifCond .ne 15, 3) := by decide +kernel
theorem dL_law_632 : decode cL_law 632 = .ok (.aload_n 3, 1) := by decide +kernel
theorem dL_law_633 : decode cL_law 633 = .ok (.iconst 0, 1) := by decide +kernel
theorem dL_law_634 : decode cL_law 634 = .ok (.laload, 1) := by decide +kernel
theorem dL_law_635 : decode cL_law 635 = .ok (.iload 6, 2) := by decide +kernel
theorem dL_law_637 : decode cL_law 637 = .ok (.i2l, 1) := by decide +kernel
theorem dL_law_638 : decode cL_law 638 = .ok (.lcmp, 1) := by decide +kernel
theorem dL_law_639 : decode cL_law 639 = .ok (.ifCond .eq 5, 3) := by decide +kernel
theorem dL_law_642 : decode cL_law 642 = .ok (.iconst 0, 1) := by decide +kernel
theorem dL_law_643 : decode cL_law 643 = .ok (.ireturn, 1) := by decide +kernel
theorem dL_law_644 : decode cL_law 644 = .ok (.goto 16, 3) := by decide +kernel
theorem dL_law_647 : decode cL_law 647 = .ok (.aload_n 1, 1) := by decide +kernel
theorem dL_law_648 : decode cL_law 648 = .ok (.invokevirtual 92, 3) := by decide +kernel
theorem dL_law_651 : decode cL_law 651 = .ok (.aload_n 2, 1) := by decide +kernel
theorem dL_law_652 : decode cL_law 652 = .ok (.invokevirtual 95, 3) := by decide +kernel
theorem dL_law_655 : decode cL_law 655 = .ok (.if_icmp .eq 5, 3) := by decide +kernel
theorem dL_law_658 : decode cL_law 658 = .ok (.iconst 0, 1) := by decide +kernel
theorem dL_law_659 : decode cL_law 659 = .ok (.ireturn, 1) := by decide +kernel
theorem dL_law_660 : decode cL_law 660 = .ok (.iinc 4 6, 3) := by decide +kernel
theorem dL_law_663 : decode cL_law 663 = .ok (.goto (-640), 3) := by decide +kernel
theorem dL_law_666 : decode cL_law 666 = .ok (.iconst 1, 1) := by decide +kernel
theorem dL_law_667 : decode cL_law 667 = .ok (.ireturn, 1) := by decide +kernel
theorem dL_read_0 : decode cL_read 0 = .ok (.aload_n 3, 1) := by decide +kernel
theorem dL_read_1 : decode cL_read 1 = .ok (.iconst 0, 1) := by decide +kernel
theorem dL_read_2 : decode cL_read 2 = .ok (.aload_n 0, 1) := by decide +kernel
theorem dL_read_3 : decode cL_read 3 = .ok (.iload_n 1, 1) := by decide +kernel
theorem dL_read_4 : decode cL_read 4 = .ok (.iload_n 2, 1) := by decide +kernel
theorem dL_read_5 : decode cL_read 5 = .ok (.invokevirtual 7, 3) := by decide +kernel
theorem dL_read_8 : decode cL_read 8 = .ok (.lastore, 1) := by decide +kernel
theorem dL_read_9 : decode cL_read 9 = .ok (.goto 11, 3) := by decide +kernel
theorem dL_read_12 : decode cL_read 12 = .ok (.astore 4, 2) := by decide +kernel
theorem dL_read_14 : decode cL_read 14 = .ok (.iconst 1, 1) := by decide +kernel
theorem dL_read_15 : decode cL_read 15 = .ok (.ireturn, 1) := by decide +kernel
theorem dL_read_16 : decode cL_read 16 = .ok (.astore 4, 2) := by decide +kernel
theorem dL_read_18 : decode cL_read 18 = .ok (.iconst 2, 1) := by decide +kernel
theorem dL_read_19 : decode cL_read 19 = .ok (.ireturn, 1) := by decide +kernel
theorem dL_read_20 : decode cL_read 20 = .ok (.iconst 0, 1) := by decide +kernel
theorem dL_read_21 : decode cL_read 21 = .ok (.ireturn, 1) := by decide +kernel
theorem dL_write_0 : decode cL_write 0 = .ok (.aload_n 0, 1) := by decide +kernel
theorem dL_write_1 : decode cL_write 1 = .ok (.iload_n 1, 1) := by decide +kernel
theorem dL_write_2 : decode cL_write 2 = .ok (.iload_n 2, 1) := by decide +kernel
theorem dL_write_3 : decode cL_write 3 = .ok (.lload_n 3, 1) := by decide +kernel
theorem dL_write_4 : decode cL_write 4 = .ok (.invokevirtual 17, 3) := by decide +kernel
theorem dL_write_7 : decode cL_write 7 = .ok (.goto 11, 3) := by decide +kernel
theorem dL_write_10 : decode cL_write 10 = .ok (.astore 5, 2) := by decide +kernel
theorem dL_write_12 : decode cL_write 12 = .ok (.iconst 1, 1) := by decide +kernel
theorem dL_write_13 : decode cL_write 13 = .ok (.ireturn, 1) := by decide +kernel
theorem dL_write_14 : decode cL_write 14 = .ok (.astore 5, 2) := by decide +kernel
theorem dL_write_16 : decode cL_write 16 = .ok (.iconst 2, 1) := by decide +kernel
theorem dL_write_17 : decode cL_write 17 = .ok (.ireturn, 1) := by decide +kernel
theorem dL_write_18 : decode cL_write 18 = .ok (.iconst 0, 1) := by decide +kernel
theorem dL_write_19 : decode cL_write 19 = .ok (.ireturn, 1) := by decide +kernel
theorem dL_fail_0 : decode cL_fail 0 = .ok (.aload_n 0, 1) := by decide +kernel
theorem dL_fail_1 : decode cL_fail 1 = .ok (.iload_n 1, 1) := by decide +kernel
theorem dL_fail_2 : decode cL_fail 2 = .ok (.invokevirtual 21, 3) := by decide +kernel
theorem dL_fail_5 : decode cL_fail 5 = .ok (.goto 6, 3) := by decide +kernel
theorem dL_fail_8 : decode cL_fail 8 = .ok (.astore_n 2, 1) := by decide +kernel
theorem dL_fail_9 : decode cL_fail 9 = .ok (.iconst 1, 1) := by decide +kernel
theorem dL_fail_10 : decode cL_fail 10 = .ok (.ireturn, 1) := by decide +kernel
theorem dL_fail_11 : decode cL_fail 11 = .ok (.iconst 0, 1) := by decide +kernel
theorem dL_fail_12 : decode cL_fail 12 = .ok (.ireturn, 1) := by decide +kernel
theorem dL_replace_0 : decode cL_replace 0 = .ok (.aload_n 0, 1) := by decide +kernel
theorem dL_replace_1 : decode cL_replace 1 = .ok (.iload_n 1, 1) := by decide +kernel
theorem dL_replace_2 : decode cL_replace 2 = .ok (.invokevirtual 25, 3) := by decide +kernel
theorem dL_replace_5 : decode cL_replace 5 = .ok (.goto 9, 3) := by decide +kernel
theorem dL_replace_8 : decode cL_replace 8 = .ok (.astore_n 2, 1) := by decide +kernel
theorem dL_replace_9 : decode cL_replace 9 = .ok (.iconst 1, 1) := by decide +kernel
theorem dL_replace_10 : decode cL_replace 10 = .ok (.ireturn, 1) := by decide +kernel
theorem dL_replace_11 : decode cL_replace 11 = .ok (.astore_n 2, 1) := by decide +kernel
theorem dL_replace_12 : decode cL_replace 12 = .ok (.iconst 2, 1) := by decide +kernel
theorem dL_replace_13 : decode cL_replace 13 = .ok (.ireturn, 1) := by decide +kernel
theorem dL_replace_14 : decode cL_replace 14 = .ok (.iconst 0, 1) := by decide +kernel
theorem dL_replace_15 : decode cL_replace 15 = .ok (.ireturn, 1) := by decide +kernel
theorem dL_rebuild_0 : decode cL_rebuild 0 = .ok (.aload_n 3, 1) := by decide +kernel
theorem dL_rebuild_1 : decode cL_rebuild 1 = .ok (.iconst 0, 1) := by decide +kernel
theorem dL_rebuild_2 : decode cL_rebuild 2 = .ok (.aload_n 0, 1) := by decide +kernel
theorem dL_rebuild_3 : decode cL_rebuild 3 = .ok (.iload_n 1, 1) := by decide +kernel
theorem dL_rebuild_4 : decode cL_rebuild 4 = .ok (.iload_n 2, 1) := by decide +kernel
theorem dL_rebuild_5 : decode cL_rebuild 5 = .ok (.invokevirtual 30, 3) := by decide +kernel
theorem dL_rebuild_8 : decode cL_rebuild 8 = .ok (.i2l, 1) := by decide +kernel
theorem dL_rebuild_9 : decode cL_rebuild 9 = .ok (.lastore, 1) := by decide +kernel
theorem dL_rebuild_10 : decode cL_rebuild 10 = .ok (.goto 11, 3) := by decide +kernel
theorem dL_rebuild_13 : decode cL_rebuild 13 = .ok (.astore 4, 2) := by decide +kernel
theorem dL_rebuild_15 : decode cL_rebuild 15 = .ok (.iconst 1, 1) := by decide +kernel
theorem dL_rebuild_16 : decode cL_rebuild 16 = .ok (.ireturn, 1) := by decide +kernel
theorem dL_rebuild_17 : decode cL_rebuild 17 = .ok (.astore 4, 2) := by decide +kernel
theorem dL_rebuild_19 : decode cL_rebuild 19 = .ok (.iconst 2, 1) := by decide +kernel
theorem dL_rebuild_20 : decode cL_rebuild 20 = .ok (.ireturn, 1) := by decide +kernel
theorem dL_rebuild_21 : decode cL_rebuild 21 = .ok (.iconst 0, 1) := by decide +kernel
theorem dL_rebuild_22 : decode cL_rebuild 22 = .ok (.ireturn, 1) := by decide +kernel
theorem dL_flip_0 : decode cL_flip 0 = .ok (.aload_n 0, 1) := by decide +kernel
theorem dL_flip_1 : decode cL_flip 1 = .ok (.iload_n 1, 1) := by decide +kernel
theorem dL_flip_2 : decode cL_flip 2 = .ok (.iload_n 2, 1) := by decide +kernel
theorem dL_flip_3 : decode cL_flip 3 = .ok (.iload_n 3, 1) := by decide +kernel
theorem dL_flip_4 : decode cL_flip 4 = .ok (.lload 4, 2) := by decide +kernel
theorem dL_flip_6 : decode cL_flip 6 = .ok (.invokevirtual 34, 3) := by decide +kernel
theorem dL_flip_9 : decode cL_flip 9 = .ok (.goto 11, 3) := by decide +kernel
theorem dL_flip_12 : decode cL_flip 12 = .ok (.astore 6, 2) := by decide +kernel
theorem dL_flip_14 : decode cL_flip 14 = .ok (.iconst 1, 1) := by decide +kernel
theorem dL_flip_15 : decode cL_flip 15 = .ok (.ireturn, 1) := by decide +kernel
theorem dL_flip_16 : decode cL_flip 16 = .ok (.astore 6, 2) := by decide +kernel
theorem dL_flip_18 : decode cL_flip 18 = .ok (.iconst 2, 1) := by decide +kernel
theorem dL_flip_19 : decode cL_flip 19 = .ok (.ireturn, 1) := by decide +kernel
theorem dL_flip_20 : decode cL_flip 20 = .ok (.iconst 0, 1) := by decide +kernel
theorem dL_flip_21 : decode cL_flip 21 = .ok (.ireturn, 1) := by decide +kernel
theorem dL_block_0 : decode cL_block 0 = .ok (.aload 4, 2) := by decide +kernel
theorem dL_block_2 : decode cL_block 2 = .ok (.iconst 0, 1) := by decide +kernel
theorem dL_block_3 : decode cL_block 3 = .ok (.aload_n 0, 1) := by decide +kernel
theorem dL_block_4 : decode cL_block 4 = .ok (.iload_n 1, 1) := by decide +kernel
theorem dL_block_5 : decode cL_block 5 = .ok (.iload_n 2, 1) := by decide +kernel
theorem dL_block_6 : decode cL_block 6 = .ok (.iload_n 3, 1) := by decide +kernel
theorem dL_block_7 : decode cL_block 7 = .ok (.invokevirtual 38, 3) := by decide +kernel
theorem dL_block_10 : decode cL_block 10 = .ok (.lastore, 1) := by decide +kernel
theorem dL_block_11 : decode cL_block 11 = .ok (.goto 11, 3) := by decide +kernel
theorem dL_block_14 : decode cL_block 14 = .ok (.astore 5, 2) := by decide +kernel
theorem dL_block_16 : decode cL_block 16 = .ok (.iconst 1, 1) := by decide +kernel
theorem dL_block_17 : decode cL_block 17 = .ok (.ireturn, 1) := by decide +kernel
theorem dL_block_18 : decode cL_block 18 = .ok (.astore 5, 2) := by decide +kernel
theorem dL_block_20 : decode cL_block 20 = .ok (.iconst 2, 1) := by decide +kernel
theorem dL_block_21 : decode cL_block 21 = .ok (.ireturn, 1) := by decide +kernel
theorem dL_block_22 : decode cL_block 22 = .ok (.iconst 0, 1) := by decide +kernel
theorem dL_block_23 : decode cL_block 23 = .ok (.ireturn, 1) := by decide +kernel
theorem dL_state_0 : decode cL_state 0 = .ok (.aload_n 2, 1) := by decide +kernel
theorem dL_state_1 : decode cL_state 1 = .ok (.iconst 0, 1) := by decide +kernel
theorem dL_state_2 : decode cL_state 2 = .ok (.aload_n 0, 1) := by decide +kernel
theorem dL_state_3 : decode cL_state 3 = .ok (.iload_n 1, 1) := by decide +kernel
theorem dL_state_4 : decode cL_state 4 = .ok (.invokevirtual 42, 3) := by decide +kernel
theorem dL_state_7 : decode cL_state 7 = .ok (.i2l, 1) := by decide +kernel
theorem dL_state_8 : decode cL_state 8 = .ok (.lastore, 1) := by decide +kernel
theorem dL_state_9 : decode cL_state 9 = .ok (.goto 6, 3) := by decide +kernel
theorem dL_state_12 : decode cL_state 12 = .ok (.astore_n 3, 1) := by decide +kernel
theorem dL_state_13 : decode cL_state 13 = .ok (.iconst 1, 1) := by decide +kernel
theorem dL_state_14 : decode cL_state 14 = .ok (.ireturn, 1) := by decide +kernel
theorem dL_state_15 : decode cL_state 15 = .ok (.iconst 0, 1) := by decide +kernel
theorem dL_state_16 : decode cL_state 16 = .ok (.ireturn, 1) := by decide +kernel
/-- the classes whose objects the worlds hold -/
abbrev cls_ : List vw_C := [(R_X, T_X, 2), (R_M, T_M, 3)]
