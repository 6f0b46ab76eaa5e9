/-! lengths of instructions, written by wip/gen/emit3b.py -/
def zlen : Instr → Nat
  | .iconst _ | .iload_n _ | .lload_n _ | .aload_n _ | .istore_n _ | .astore_n _ => 1
  | .bipush _ | .ldc _ | .iload _ | .lload _ | .aload _ | .istore _ | .astore _ | .lstore _ | .newarray _ => 2
  | .sipush _ | .ldc_w _ | .ldc2_w _ | .iinc _ _ | .ifCond _ _ | .if_icmp _ _ | .goto _ | .getfield _ | .putfield _ | .new _ | .invokevirtual _ | .invokespecial _ | .invokestatic _ => 3
  | .iadd | .isub | .imul | .idiv | .irem | .ineg | .iand | .ior | .ishl | .ishr | .land | .lor | .lshl | .lshr | .lushr | .lcmp | .i2l | .l2i | .i2b | .i2c | .dup | .dup2 | .pop | .iaload | .baload | .caload | .aaload | .iastore | .bastore | .castore | .arraylength | .ireturn | .areturn | .return_ => 1
  | _ => 0
def zln (l : zIs) : Bool := l.all (fun e => zlen e.2.1 == 0 || zlen e.2.1 == e.2.2.1)
theorem zln_0 : [0, 1, 2, 3, 4, 5, 6, 7, 8, 9, 10, 11, 12, 13, 14, 15].all (fun k => zln (zI k)) = true := by decide +kernel
theorem zln_1 : [16, 17, 18, 19, 20, 21, 22, 23, 24, 25, 26, 27, 28, 29, 30, 31].all (fun k => zln (zI k)) = true := by decide +kernel
theorem zln_2 : [32, 33, 34, 35, 36, 37, 38, 39, 40, 41, 42, 43, 44, 45, 46, 47].all (fun k => zln (zI k)) = true := by decide +kernel
theorem zln_3 : [48, 49, 50, 51, 52, 53, 54, 55, 56, 57, 58, 59, 60, 61, 62, 63].all (fun k => zln (zI k)) = true := by decide +kernel
theorem zln_4 : [64, 65, 66, 67, 68, 69, 70, 71, 72, 73, 74, 75, 76, 77, 78, 79].all (fun k => zln (zI k)) = true := by decide +kernel
theorem zln_5 : [80, 81, 82, 83, 84, 85, 86, 87, 88, 89, 90, 91, 92, 93, 94, 95].all (fun k => zln (zI k)) = true := by decide +kernel
theorem zln_6 : [96, 97, 98, 99, 100, 101, 102, 103, 104, 105, 106, 107, 108, 109, 110, 111].all (fun k => zln (zI k)) = true := by decide +kernel
theorem zln_7 : [112, 113, 114, 115, 116, 117, 118, 119, 120, 121, 122, 123, 124, 125, 126, 127].all (fun k => zln (zI k)) = true := by decide +kernel
theorem zln_8 : [128, 129, 130, 131, 132, 133, 134, 135, 136, 137, 138, 139, 140, 141, 142, 143].all (fun k => zln (zI k)) = true := by decide +kernel
theorem zln_9 : [144, 145, 146, 147, 148, 149, 150, 151, 152, 153, 154, 155, 156, 157, 158, 159].all (fun k => zln (zI k)) = true := by decide +kernel
theorem zln_10 : [160, 161, 162, 163, 164, 165, 166, 167, 168, 169, 170, 171, 172, 173, 174, 175].all (fun k => zln (zI k)) = true := by decide +kernel
theorem zln_11 : [176, 177, 178, 179, 180, 181, 182, 183, 184, 185, 186, 187, 188, 189, 190, 191].all (fun k => zln (zI k)) = true := by decide +kernel
theorem zln_12 : [192, 193, 194, 195, 196, 197, 198, 199, 200, 201, 202, 203, 204, 205, 206, 207].all (fun k => zln (zI k)) = true := by decide +kernel
theorem zln_13 : [208, 209, 210, 211, 212, 213, 214, 215, 216, 217, 218, 219, 220, 221, 222, 223].all (fun k => zln (zI k)) = true := by decide +kernel
theorem zln_14 : [224, 225, 226, 227, 228, 229, 230, 231, 232, 233].all (fun k => zln (zI k)) = true := by decide +kernel
theorem zln_all (k : Nat) (hk : k < 234) : zln (zI k) = true := by
  by_cases h0 : k < 16
  · exact List.all_eq_true.mp zln_0 k (by simp only [List.mem_cons, List.not_mem_nil, or_false]; omega)
  by_cases h1 : k < 32
  · exact List.all_eq_true.mp zln_1 k (by simp only [List.mem_cons, List.not_mem_nil, or_false]; omega)
  by_cases h2 : k < 48
  · exact List.all_eq_true.mp zln_2 k (by simp only [List.mem_cons, List.not_mem_nil, or_false]; omega)
  by_cases h3 : k < 64
  · exact List.all_eq_true.mp zln_3 k (by simp only [List.mem_cons, List.not_mem_nil, or_false]; omega)
  by_cases h4 : k < 80
  · exact List.all_eq_true.mp zln_4 k (by simp only [List.mem_cons, List.not_mem_nil, or_false]; omega)
  by_cases h5 : k < 96
  · exact List.all_eq_true.mp zln_5 k (by simp only [List.mem_cons, List.not_mem_nil, or_false]; omega)
  by_cases h6 : k < 112
  · exact List.all_eq_true.mp zln_6 k (by simp only [List.mem_cons, List.not_mem_nil, or_false]; omega)
  by_cases h7 : k < 128
  · exact List.all_eq_true.mp zln_7 k (by simp only [List.mem_cons, List.not_mem_nil, or_false]; omega)
  by_cases h8 : k < 144
  · exact List.all_eq_true.mp zln_8 k (by simp only [List.mem_cons, List.not_mem_nil, or_false]; omega)
  by_cases h9 : k < 160
  · exact List.all_eq_true.mp zln_9 k (by simp only [List.mem_cons, List.not_mem_nil, or_false]; omega)
  by_cases h10 : k < 176
  · exact List.all_eq_true.mp zln_10 k (by simp only [List.mem_cons, List.not_mem_nil, or_false]; omega)
  by_cases h11 : k < 192
  · exact List.all_eq_true.mp zln_11 k (by simp only [List.mem_cons, List.not_mem_nil, or_false]; omega)
  by_cases h12 : k < 208
  · exact List.all_eq_true.mp zln_12 k (by simp only [List.mem_cons, List.not_mem_nil, or_false]; omega)
  by_cases h13 : k < 224
  · exact List.all_eq_true.mp zln_13 k (by simp only [List.mem_cons, List.not_mem_nil, or_false]; omega)
  by_cases h14 : k < 234
  · exact List.all_eq_true.mp zln_14 k (by simp only [List.mem_cons, List.not_mem_nil, or_false]; omega)
  omega
def zst (l : zIs) : Bool := match l with
  | [] => false
  | e :: _ => e.1 == 0
theorem zst_0 : [0, 1, 2, 3, 4, 5, 6, 7, 8, 9, 10, 11, 12, 13, 14, 15].all (fun k => zst (zI k)) = true := by decide +kernel
theorem zst_1 : [16, 17, 18, 19, 20, 21, 22, 23, 24, 25, 26, 27, 28, 29, 30, 31].all (fun k => zst (zI k)) = true := by decide +kernel
theorem zst_2 : [32, 33, 34, 35, 36, 37, 38, 39, 40, 41, 42, 43, 44, 45, 46, 47].all (fun k => zst (zI k)) = true := by decide +kernel
theorem zst_3 : [48, 49, 50, 51, 52, 53, 54, 55, 56, 57, 58, 59, 60, 61, 62, 63].all (fun k => zst (zI k)) = true := by decide +kernel
theorem zst_4 : [64, 65, 66, 67, 68, 69, 70, 71, 72, 73, 74, 75, 76, 77, 78, 79].all (fun k => zst (zI k)) = true := by decide +kernel
theorem zst_5 : [80, 81, 82, 83, 84, 85, 86, 87, 88, 89, 90, 91, 92, 93, 94, 95].all (fun k => zst (zI k)) = true := by decide +kernel
theorem zst_6 : [96, 97, 98, 99, 100, 101, 102, 103, 104, 105, 106, 107, 108, 109, 110, 111].all (fun k => zst (zI k)) = true := by decide +kernel
theorem zst_7 : [112, 113, 114, 115, 116, 117, 118, 119, 120, 121, 122, 123, 124, 125, 126, 127].all (fun k => zst (zI k)) = true := by decide +kernel
theorem zst_8 : [128, 129, 130, 131, 132, 133, 134, 135, 136, 137, 138, 139, 140, 141, 142, 143].all (fun k => zst (zI k)) = true := by decide +kernel
theorem zst_9 : [144, 145, 146, 147, 148, 149, 150, 151, 152, 153, 154, 155, 156, 157, 158, 159].all (fun k => zst (zI k)) = true := by decide +kernel
theorem zst_10 : [160, 161, 162, 163, 164, 165, 166, 167, 168, 169, 170, 171, 172, 173, 174, 175].all (fun k => zst (zI k)) = true := by decide +kernel
theorem zst_11 : [176, 177, 178, 179, 180, 181, 182, 183, 184, 185, 186, 187, 188, 189, 190, 191].all (fun k => zst (zI k)) = true := by decide +kernel
theorem zst_12 : [192, 193, 194, 195, 196, 197, 198, 199, 200, 201, 202, 203, 204, 205, 206, 207].all (fun k => zst (zI k)) = true := by decide +kernel
theorem zst_13 : [208, 209, 210, 211, 212, 213, 214, 215, 216, 217, 218, 219, 220, 221, 222, 223].all (fun k => zst (zI k)) = true := by decide +kernel
theorem zst_14 : [224, 225, 226, 227, 228, 229, 230, 231, 232, 233].all (fun k => zst (zI k)) = true := by decide +kernel
theorem zst_all (k : Nat) (hk : k < 234) : zst (zI k) = true := by
  by_cases h0 : k < 16
  · exact List.all_eq_true.mp zst_0 k (by simp only [List.mem_cons, List.not_mem_nil, or_false]; omega)
  by_cases h1 : k < 32
  · exact List.all_eq_true.mp zst_1 k (by simp only [List.mem_cons, List.not_mem_nil, or_false]; omega)
  by_cases h2 : k < 48
  · exact List.all_eq_true.mp zst_2 k (by simp only [List.mem_cons, List.not_mem_nil, or_false]; omega)
  by_cases h3 : k < 64
  · exact List.all_eq_true.mp zst_3 k (by simp only [List.mem_cons, List.not_mem_nil, or_false]; omega)
  by_cases h4 : k < 80
  · exact List.all_eq_true.mp zst_4 k (by simp only [List.mem_cons, List.not_mem_nil, or_false]; omega)
  by_cases h5 : k < 96
  · exact List.all_eq_true.mp zst_5 k (by simp only [List.mem_cons, List.not_mem_nil, or_false]; omega)
  by_cases h6 : k < 112
  · exact List.all_eq_true.mp zst_6 k (by simp only [List.mem_cons, List.not_mem_nil, or_false]; omega)
  by_cases h7 : k < 128
  · exact List.all_eq_true.mp zst_7 k (by simp only [List.mem_cons, List.not_mem_nil, or_false]; omega)
  by_cases h8 : k < 144
  · exact List.all_eq_true.mp zst_8 k (by simp only [List.mem_cons, List.not_mem_nil, or_false]; omega)
  by_cases h9 : k < 160
  · exact List.all_eq_true.mp zst_9 k (by simp only [List.mem_cons, List.not_mem_nil, or_false]; omega)
  by_cases h10 : k < 176
  · exact List.all_eq_true.mp zst_10 k (by simp only [List.mem_cons, List.not_mem_nil, or_false]; omega)
  by_cases h11 : k < 192
  · exact List.all_eq_true.mp zst_11 k (by simp only [List.mem_cons, List.not_mem_nil, or_false]; omega)
  by_cases h12 : k < 208
  · exact List.all_eq_true.mp zst_12 k (by simp only [List.mem_cons, List.not_mem_nil, or_false]; omega)
  by_cases h13 : k < 224
  · exact List.all_eq_true.mp zst_13 k (by simp only [List.mem_cons, List.not_mem_nil, or_false]; omega)
  by_cases h14 : k < 234
  · exact List.all_eq_true.mp zst_14 k (by simp only [List.mem_cons, List.not_mem_nil, or_false]; omega)
  omega
