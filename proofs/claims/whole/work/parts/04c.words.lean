/-! the words by their places, the rest -/
theorem zmo_12 : [96, 97, 98, 99, 100, 101, 102, 103].all zmo = true := by decide +kernel
theorem zmo_13 : [104, 105, 106, 107, 108, 109, 110, 111].all zmo = true := by decide +kernel
theorem zmo_14 : [112, 113, 114, 115, 116, 117, 118, 119].all zmo = true := by decide +kernel
theorem zmo_15 : [120, 121, 122, 123, 124, 125, 126, 127].all zmo = true := by decide +kernel
theorem zmo_16 : [128, 129, 130, 131, 132, 133, 134, 135].all zmo = true := by decide +kernel
theorem zmo_17 : [136, 137, 138, 139, 140, 141, 142, 143].all zmo = true := by decide +kernel
theorem zmo_18 : [144, 145, 146, 147, 148, 149, 150, 151].all zmo = true := by decide +kernel
theorem zmo_19 : [152, 153, 154, 155, 156, 157, 158, 159].all zmo = true := by decide +kernel
theorem zmo_20 : [160, 161, 162, 163, 164, 165, 166, 167].all zmo = true := by decide +kernel
theorem zmo_21 : [168, 169, 170, 171, 172, 173, 174, 175].all zmo = true := by decide +kernel
theorem zmo_22 : [176, 177, 178, 179, 180, 181, 182, 183].all zmo = true := by decide +kernel
theorem zmo_23 : [184, 185, 186, 187, 188, 189, 190, 191].all zmo = true := by decide +kernel
theorem zmo_24 : [192, 193, 194, 195, 196, 197, 198, 199].all zmo = true := by decide +kernel
theorem zmo_25 : [200, 201, 202, 203, 204, 205, 206, 207].all zmo = true := by decide +kernel
theorem zmo_26 : [208, 209, 210, 211, 212, 213, 214, 215].all zmo = true := by decide +kernel
theorem zmo_27 : [216, 217, 218].all zmo = true := by decide +kernel
theorem zmo_28 : [220, 221, 222, 223, 224, 225, 226, 231].all zmo = true := by decide +kernel
theorem zmo_all (k : Nat) (hk : k < 219) : zmo k = true := by
  by_cases h0 : k < 8
  · exact List.all_eq_true.mp zmo_0 k (by simp only [List.mem_cons, List.not_mem_nil, or_false]; omega)
  by_cases h1 : k < 16
  · exact List.all_eq_true.mp zmo_1 k (by simp only [List.mem_cons, List.not_mem_nil, or_false]; omega)
  by_cases h2 : k < 24
  · exact List.all_eq_true.mp zmo_2 k (by simp only [List.mem_cons, List.not_mem_nil, or_false]; omega)
  by_cases h3 : k < 32
  · exact List.all_eq_true.mp zmo_3 k (by simp only [List.mem_cons, List.not_mem_nil, or_false]; omega)
  by_cases h4 : k < 40
  · exact List.all_eq_true.mp zmo_4 k (by simp only [List.mem_cons, List.not_mem_nil, or_false]; omega)
  by_cases h5 : k < 48
  · exact List.all_eq_true.mp zmo_5 k (by simp only [List.mem_cons, List.not_mem_nil, or_false]; omega)
  by_cases h6 : k < 56
  · exact List.all_eq_true.mp zmo_6 k (by simp only [List.mem_cons, List.not_mem_nil, or_false]; omega)
  by_cases h7 : k < 64
  · exact List.all_eq_true.mp zmo_7 k (by simp only [List.mem_cons, List.not_mem_nil, or_false]; omega)
  by_cases h8 : k < 72
  · exact List.all_eq_true.mp zmo_8 k (by simp only [List.mem_cons, List.not_mem_nil, or_false]; omega)
  by_cases h9 : k < 80
  · exact List.all_eq_true.mp zmo_9 k (by simp only [List.mem_cons, List.not_mem_nil, or_false]; omega)
  by_cases h10 : k < 88
  · exact List.all_eq_true.mp zmo_10 k (by simp only [List.mem_cons, List.not_mem_nil, or_false]; omega)
  by_cases h11 : k < 96
  · exact List.all_eq_true.mp zmo_11 k (by simp only [List.mem_cons, List.not_mem_nil, or_false]; omega)
  by_cases h12 : k < 104
  · exact List.all_eq_true.mp zmo_12 k (by simp only [List.mem_cons, List.not_mem_nil, or_false]; omega)
  by_cases h13 : k < 112
  · exact List.all_eq_true.mp zmo_13 k (by simp only [List.mem_cons, List.not_mem_nil, or_false]; omega)
  by_cases h14 : k < 120
  · exact List.all_eq_true.mp zmo_14 k (by simp only [List.mem_cons, List.not_mem_nil, or_false]; omega)
  by_cases h15 : k < 128
  · exact List.all_eq_true.mp zmo_15 k (by simp only [List.mem_cons, List.not_mem_nil, or_false]; omega)
  by_cases h16 : k < 136
  · exact List.all_eq_true.mp zmo_16 k (by simp only [List.mem_cons, List.not_mem_nil, or_false]; omega)
  by_cases h17 : k < 144
  · exact List.all_eq_true.mp zmo_17 k (by simp only [List.mem_cons, List.not_mem_nil, or_false]; omega)
  by_cases h18 : k < 152
  · exact List.all_eq_true.mp zmo_18 k (by simp only [List.mem_cons, List.not_mem_nil, or_false]; omega)
  by_cases h19 : k < 160
  · exact List.all_eq_true.mp zmo_19 k (by simp only [List.mem_cons, List.not_mem_nil, or_false]; omega)
  by_cases h20 : k < 168
  · exact List.all_eq_true.mp zmo_20 k (by simp only [List.mem_cons, List.not_mem_nil, or_false]; omega)
  by_cases h21 : k < 176
  · exact List.all_eq_true.mp zmo_21 k (by simp only [List.mem_cons, List.not_mem_nil, or_false]; omega)
  by_cases h22 : k < 184
  · exact List.all_eq_true.mp zmo_22 k (by simp only [List.mem_cons, List.not_mem_nil, or_false]; omega)
  by_cases h23 : k < 192
  · exact List.all_eq_true.mp zmo_23 k (by simp only [List.mem_cons, List.not_mem_nil, or_false]; omega)
  by_cases h24 : k < 200
  · exact List.all_eq_true.mp zmo_24 k (by simp only [List.mem_cons, List.not_mem_nil, or_false]; omega)
  by_cases h25 : k < 208
  · exact List.all_eq_true.mp zmo_25 k (by simp only [List.mem_cons, List.not_mem_nil, or_false]; omega)
  by_cases h26 : k < 216
  · exact List.all_eq_true.mp zmo_26 k (by simp only [List.mem_cons, List.not_mem_nil, or_false]; omega)
  by_cases h27 : k < 219
  · exact List.all_eq_true.mp zmo_27 k (by simp only [List.mem_cons, List.not_mem_nil, or_false]; omega)
  omega
theorem zcl_ok : zCT.all (fun e => decide (e.2.2.1 < 12) && decide (lw_tbl[e.2.2.2]? = some (.classLink (zRN e.1) e.2.1 (zRN e.2.2.1)))) = true := by decide +kernel
theorem zki_ok : zKT.all (fun e => decide (lw_tbl[e.2.2.2]? = some (.constant (zRN e.1) e.2.1 (Int32.ofNat e.2.2.1)))) = true := by decide +kernel
theorem zkl_ok : zKLT.all (fun e => decide (lw_tbl[e.2.2.2]? = some (.constantLong (zRN e.1) e.2.1 (Int64.ofNat e.2.2.1)))) = true := by decide +kernel
theorem zob_code : Cond.code objectInit ⟨#[0xb1]⟩ 1 none ∈ zTB := zin 104 (by decide +kernel) rfl
theorem zob_inst : Cond.instanceMethod objectInit ∈ zTB := zin 103 (by decide +kernel) rfl
theorem zarr_0 : Cond.arrayClass .int ∈ zTB := zin 142 (by decide +kernel) rfl
theorem zarr_1 : Cond.arrayClass .byte ∈ zTB := zin 235 (by decide +kernel) rfl
theorem zarr_2 : Cond.arrayClass .boolean ∈ zTB := zin 143 (by decide +kernel) rfl
theorem zarr_3 : Cond.arrayClass .char ∈ zTB := zin 1297 (by decide +kernel) rfl
theorem zcls (c : Nat) (hc : c < 12) : vwCl[c]? = some (zRN c, zTt c, zN c) ∧ (∀ w ∈ u_ws (zRN c) (zTt c) (zN c), w ∈ zTB) ∧ (∀ k, k < zN c → parseFieldDescriptor (zTt c k).2.2.1 = some (zTy c k)) ∧ (∀ a, a < zN c → ∀ b, b < zN c → a ≠ b → (zTt c a).2.1 ≠ (zTt c b).2.1) ∧ zfo c = true := by
  match c, hc with
  | 0, _ => exact ⟨rfl, zuk_in zu_0, tyX0_ok, nmX0, zfo_0⟩
  | 1, _ => exact ⟨rfl, zuk_in zu_1, tyX1_ok, nmX1, zfo_1⟩
  | 2, _ => exact ⟨rfl, zuk_in zu_2, tyX2_ok, nmX2, zfo_2⟩
  | 3, _ => exact ⟨rfl, zuk_in zu_3, tyX3_ok, nmX3, zfo_3⟩
  | 4, _ => exact ⟨rfl, zuk_in zu_4, tyX4_ok, nmX4, zfo_4⟩
  | 5, _ => exact ⟨rfl, zuk_in zu_5, tyX5_ok, nmX5, zfo_5⟩
  | 6, _ => exact ⟨rfl, zuk_in zu_6, tyX6_ok, nmX6, zfo_6⟩
  | 7, _ => exact ⟨rfl, zuk_in zu_7, tyX7_ok, nmX7, zfo_7⟩
  | 8, _ => exact ⟨rfl, zuk_in zu_8, tyX8_ok, nmX8, zfo_8⟩
  | 9, _ => exact ⟨rfl, zuk_in zu_9, tyX9_ok, nmX9, zfo_9⟩
  | 10, _ => exact ⟨rfl, zuk_in zu_10, tyX10_ok, nmX10, zfo_10⟩
  | 11, _ => exact ⟨rfl, zuk_in zu_11, tyX11_ok, nmX11, zfo_11⟩
theorem zfks (o : Nat) (ho : o < 12) : (zFT.getD o []).all (zfk o) = true := by
  match o, ho with
  | 0, _ => exact zfk_0
  | 1, _ => exact zfk_1
  | 2, _ => exact zfk_2
  | 3, _ => exact zfk_3
  | 4, _ => exact zfk_4
  | 5, _ => exact zfk_5
  | 6, _ => exact zfk_6
  | 7, _ => exact zfk_7
  | 8, _ => exact zfk_8
  | 9, _ => exact zfk_9
  | 10, _ => exact zfk_10
  | 11, _ => exact zfk_11
theorem zmks (o : Nat) (ho : o < 18) : (zLT.getD o []).all (zmk o) = true := by
  match o, ho with
  | 0, _ => exact zmk_0
  | 1, _ => exact zmk_1
  | 2, _ => exact zmk_2
  | 3, _ => exact zmk_3
  | 4, _ => exact zmk_4
  | 5, _ => exact zmk_5
  | 6, _ => exact zmk_6
  | 7, _ => exact zmk_7
  | 8, _ => exact zmk_8
  | 9, _ => exact zmk_9
  | 10, _ => exact zmk_10
  | 11, _ => exact zmk_11
  | 12, _ => exact zmk_12
  | 13, _ => exact zmk_13
  | 14, _ => exact zmk_14
  | 15, _ => exact zmk_15
  | 16, _ => exact zmk_16
  | 17, _ => exact zmk_17
  | o + 18, h => omega
