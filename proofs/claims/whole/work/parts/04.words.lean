/-! THE WORDS BY THEIR PLACES, written by wip/gen/emit6.py -/
def zTt (c : Nat) : u_T := ([TX0, TX1, TX2, TX3, TX4, TX5, TX6, TX7, TX8, TX9, TX10, TX11] : List u_T).getD c TX0
def zTy (c : Nat) : Nat → FieldType := ([tyX0, tyX1, tyX2, tyX3, tyX4, tyX5, tyX6, tyX7, tyX8, tyX9, tyX10, tyX11] : List (Nat → FieldType)).getD c tyX0
theorem zin {w : Cond} (p : Nat) (h : lw_tbl[p]? = some w) (hg : goodWord w = true) : w ∈ zTB := List.mem_filter.mpr ⟨List.mem_of_getElem? h, hg⟩
def zuk (c : Nat) (ps : List Nat) : Bool := (List.range (zN c)).all (fun k => decide (lw_tbl[ps.getD k 0]? = some (u_lay (zRN c) (zTt c) k)) && goodWord (u_lay (zRN c) (zTt c) k))
theorem zuk_in {c : Nat} {ps : List Nat} (h : zuk c ps = true) : ∀ w ∈ u_ws (zRN c) (zTt c) (zN c), w ∈ zTB := by
  intro w hw
  obtain ⟨k, hk, rfl⟩ := List.mem_map.mp hw
  have h1 := List.all_eq_true.mp h k hk
  simp only [Bool.and_eq_true, decide_eq_true_eq] at h1
  exact zin _ h1.1 h1.2
def zfo (c : Nat) : Bool := (List.range (zN c)).all (fun k => decide ((zTt c k).1 = zRN c) && decide ((zTt c k).2.2.2 = !zFw c k) && (match zFk c k with | 0 => decide (zTy c k = .int) | 1 => decide (zTy c k = .boolean) | 2 => (zTy c k).isReference | _ => false))
theorem zu_0 : zuk 0 [275, 277, 279, 281, 283] = true := by decide +kernel
theorem zfo_0 : zfo 0 = true := by decide +kernel
theorem zu_1 : zuk 1 [243] = true := by decide +kernel
theorem zfo_1 : zfo 1 = true := by decide +kernel
theorem zu_2 : zuk 2 [350, 352, 354, 356, 358] = true := by decide +kernel
theorem zfo_2 : zfo 2 = true := by decide +kernel
theorem zu_3 : zuk 3 [190, 192, 194, 196, 198] = true := by decide +kernel
theorem zfo_3 : zfo 3 = true := by decide +kernel
theorem zu_4 : zuk 4 [216, 218, 220, 222, 224, 226, 228, 230, 232] = true := by decide +kernel
theorem zfo_4 : zfo 4 = true := by decide +kernel
theorem zu_5 : zuk 5 [331, 333, 335, 337, 339] = true := by decide +kernel
theorem zfo_5 : zfo 5 = true := by decide +kernel
theorem zu_6 : zuk 6 [154, 156, 158, 160] = true := by decide +kernel
theorem zfo_6 : zfo 6 = true := by decide +kernel
theorem zu_7 : zuk 7 [301, 303, 305, 307, 309, 311, 313, 315, 317] = true := by decide +kernel
theorem zfo_7 : zfo 7 = true := by decide +kernel
theorem zu_8 : zuk 8 [121, 123, 125, 127, 129, 131, 133, 135, 137, 139] = true := by decide +kernel
theorem zfo_8 : zfo 8 = true := by decide +kernel
theorem zu_9 : zuk 9 [178, 180, 182] = true := by decide +kernel
theorem zfo_9 : zfo 9 = true := by decide +kernel
theorem zu_10 : zuk 10 [367, 369, 371, 373, 375, 377] = true := by decide +kernel
theorem zfo_10 : zfo 10 = true := by decide +kernel
theorem zu_11 : zuk 11 [1182, 1184, 1186, 1188, 1190, 1192, 1194, 1196, 1198, 1200, 1202, 1204, 1206, 1208, 1210, 1212, 1214, 1216, 1218, 1220, 1222, 1224, 1226, 1228, 1230, 1232, 1234, 1236, 1238, 1240, 1242, 1244, 1246, 1248, 1250, 1252, 1254, 1256, 1258, 1260, 1262, 1264, 1266, 1268, 1270, 1272, 1274, 1276, 1278, 1280, 1282, 1284, 1286, 1288, 1290, 1292, 1294] = true := by decide +kernel
theorem zfo_11 : zfo 11 = true := by decide +kernel
def zip : List Nat := [89, 86, 87, 83, 85, 91, 82, 90, 81, 84, 80, 92, 79, 93, 94, 96, 95, 88]
def zio (c : Nat) : Bool := decide (lw_tbl[zip.getD c 0]? = some (.initialized (zRN c)))
theorem zio_all : (List.range 18).all zio = true := by decide +kernel
def znp : List Nat := [263, 237, 247, 164, 202, 321, 145, 287, 106, 170, 98, 1067]
theorem zno_all : (List.range 12).all (fun c => decide (lw_tbl[znp.getD c 0]? = some (.instantiable (zRN c) (zN c)))) = true := by decide +kernel
def zfk (o : Nat) (e : Nat × Nat × Nat × Nat) : Bool := decide (e.2.1 < 12) && decide (e.2.2.1 < zN e.2.1) && (if e.2.2.2 = 9999 then decide (Cond.fieldLinkNest (zRN o) e.1 (zTt e.2.1 e.2.2.1).1 (zTt e.2.1 e.2.2.1).2.1 (zTt e.2.1 e.2.2.1).2.2.1 "PaymentHub" ∈ zNW) && !zFw e.2.1 e.2.2.1 && decide (o = 10) && decide (e.2.1 = 2) else decide (lw_tbl[e.2.2.2]? = some (.fieldLink (zRN o) e.1 (zTt e.2.1 e.2.2.1).1 (zTt e.2.1 e.2.2.1).2.1 (zTt e.2.1 e.2.2.1).2.2.1)))
theorem zfk_0 : (zFT.getD 0 []).all (zfk 0) = true := by decide +kernel
theorem zfk_1 : (zFT.getD 1 []).all (zfk 1) = true := by decide +kernel
theorem zfk_2 : (zFT.getD 2 []).all (zfk 2) = true := by decide +kernel
theorem zfk_3 : (zFT.getD 3 []).all (zfk 3) = true := by decide +kernel
theorem zfk_4 : (zFT.getD 4 []).all (zfk 4) = true := by decide +kernel
theorem zfk_5 : (zFT.getD 5 []).all (zfk 5) = true := by decide +kernel
theorem zfk_6 : (zFT.getD 6 []).all (zfk 6) = true := by decide +kernel
theorem zfk_7 : (zFT.getD 7 []).all (zfk 7) = true := by decide +kernel
theorem zfk_8 : (zFT.getD 8 []).all (zfk 8) = true := by decide +kernel
theorem zfk_9 : (zFT.getD 9 []).all (zfk 9) = true := by decide +kernel
theorem zfk_10 : (zFT.getD 10 []).all (zfk 10) = true := by decide +kernel
theorem zfk_11 : (zFT.getD 11 []).all (zfk 11) = true := by decide +kernel
