/-! String constants, and the library's methods that read them -/
theorem zSk_ok {o i j : Nat} (h : zSk o i = some j) : (o, i, j) ∈ zST := by
  unfold zSk at h
  rw [Option.map_eq_some_iff] at h
  obtain ⟨e, he, h2⟩ := h
  have hm := List.mem_of_find?_eq_some he
  have hi := List.find?_some he
  simp only [Bool.and_eq_true, beq_iff_eq] at hi
  cases h2
  rw [← hi.1, ← hi.2]
  exact hm
theorem zST_lt : ∀ e ∈ zST, e.2.2 < 5 := by decide
theorem zad_K {E : zE} {j : Nat} (h : j < 10) : zad E (1000010 + j) = E.2.2.2.2.1 j := by
  unfold zad
  rw [if_neg (by omega), if_neg (by omega), if_pos (by omega), Nat.add_sub_cancel_left]
theorem zad_V {E : zE} {j : Nat} : zad E (1000020 + j) = E.2.2.2.2.2 j := by
  unfold zad
  rw [if_neg (by omega), if_neg (by omega), if_neg (by omega), Nat.add_sub_cancel_left]
theorem zfw_val : (.fieldLink RJ0 9 "java/lang/String" "value" "[B" : Jvm.Cond) ∈ zTB := zin 1476 (by decide +kernel) rfl
theorem zfw_cod : (.fieldLink RJ0 15 "java/lang/String" "coder" "B" : Jvm.Cond) ∈ zTB := zin 1477 (by decide +kernel) rfl
theorem zfw_com : (.fieldLink RJ0 38 "java/lang/String" "COMPACT_STRINGS" "Z" : Jvm.Cond) ∈ zTB := zin 527 (by decide +kernel) rfl
theorem zfw_fmt : (.fieldLink RJ0 1053 "jdk/internal/util/Preconditions" "SIOOBE_FORMATTER" "Ljava/util/function/BiFunction;" : Jvm.Cond) ∈ zTB := zin 535 (by decide +kernel) rfl
theorem ZW.ldcS {k : Nat} {g : Nat × Nat × Nat × Nat} {pc : Nat} {ls : zLs} {r : List Value} {h : zH} {Q : zQ} {i j : Nat} (hv : zSk (zO k) i = some j) (hd : decode (zC k) pc = .ok (.ldc i, 2)) (w : ZW k g (pc + 2) ls (.ref (1000010 + j) :: r) h Q) : ZW k g pc ls r h Q := by
  intro p l e s m args below meth cc E L xs H locs lsA hC hT h1 h2 hP hS hl
  have hs := hT.2.2.2.2.2.2
  have hm := zSk_ok hv
  have hj := zST_lt _ hm
  have hZ := hs.2.1 _ hm
  have h9 := w p l e s m args below meth cc E L xs H locs lsA hC hT h1 h2 hP hS hl
  rw [List.map_cons, zref_v hP, zad_K (show j < 10 by simp only at hj; omega)] at h9
  intro T hT X
  obtain ⟨t, a1, b1⟩ := h9 T hT X
  exact ⟨t, X.ldcString hC.1 hC.2.2.2.2.2.1 (text := zTx j) (a := E.2.2.2.2.1 j) hZ.1 hZ.2 (g := F0 m pc lsA (r.map (zv E))) rfl (by rw [hC.2.1]; exact hd) t a1, b1⟩
theorem ZW.ldcwS {k : Nat} {g : Nat × Nat × Nat × Nat} {pc : Nat} {ls : zLs} {r : List Value} {h : zH} {Q : zQ} {i j : Nat} (hv : zSk (zO k) i = some j) (hd : decode (zC k) pc = .ok (.ldc_w i, 3)) (w : ZW k g (pc + 3) ls (.ref (1000010 + j) :: r) h Q) : ZW k g pc ls r h Q := by
  intro p l e s m args below meth cc E L xs H locs lsA hC hT h1 h2 hP hS hl
  have hs := hT.2.2.2.2.2.2
  have hm := zSk_ok hv
  have hj := zST_lt _ hm
  have hZ := hs.2.1 _ hm
  have h9 := w p l e s m args below meth cc E L xs H locs lsA hC hT h1 h2 hP hS hl
  rw [List.map_cons, zref_v hP, zad_K (show j < 10 by simp only at hj; omega)] at h9
  intro T hT X
  obtain ⟨t, a1, b1⟩ := h9 T hT X
  exact ⟨t, X.ldcStringW hC.1 hC.2.2.2.2.2.1 (text := zTx j) (a := E.2.2.2.2.1 j) hZ.1 hZ.2 (g := F0 m pc lsA (r.map (zv E))) rfl (by rw [hC.2.1]; exact hd) t a1, b1⟩
/-! instructions on them -/
theorem ZW.strVal {k : Nat} {g : Nat × Nat × Nat × Nat} {pc : Nat} {ls : zLs} {r : List Value} {h : zH} {Q : zQ} {j : Nat} (ho : zO k = 13) (hj : j < 5) (hd : decode (zC k) pc = .ok (.getfield 9, 3)) (w : ZW k g (pc + 3) ls (.ref (1000020 + j) :: r) h Q) : ZW k g pc ls (.ref (1000010 + j) :: r) h Q := by
  intro p l e s m args below meth cc E L xs H locs lsA hC hT h1 h2 hP hS hl
  have hs := hT.2.2.2.2.2.2
  have hown := hC.2.2.2.2.2.1
  rw [ho] at hown
  have hts := hC.2.2.2.2.2.2.1
  have h9 := w p l e s m args below meth cc E L xs H locs lsA hC hT h1 h2 hP hS hl
  rw [List.map_cons, zref_v hP, zad_V] at h9
  rw [List.map_cons, zref_v hP, zad_K (by omega)]
  exact vk_getf (own := RJ0) hC.1 hC.2.1 (hs.1.1 j hj).2.2.1 hS hown (hts _ zfw_val) (fun _ h => h) hd h9
theorem ZW.strCod {k : Nat} {g : Nat × Nat × Nat × Nat} {pc : Nat} {ls : zLs} {r : List Value} {h : zH} {Q : zQ} {j : Nat} (ho : zO k = 13) (hj : j < 5) (hd : decode (zC k) pc = .ok (.getfield 15, 3)) (w : ZW k g (pc + 3) ls (.int 0 :: r) h Q) : ZW k g pc ls (.ref (1000010 + j) :: r) h Q := by
  intro p l e s m args below meth cc E L xs H locs lsA hC hT h1 h2 hP hS hl
  have hs := hT.2.2.2.2.2.2
  have hown := hC.2.2.2.2.2.1
  rw [ho] at hown
  have hts := hC.2.2.2.2.2.2.1
  have h9 := w p l e s m args below meth cc E L xs H locs lsA hC hT h1 h2 hP hS hl
  rw [List.map_cons, zref_v hP, zad_K (by omega)]
  exact vk_getf (own := RJ0) hC.1 hC.2.1 (hs.1.1 j hj).2.1 hS hown (hts _ zfw_cod) (fun _ h => h) hd h9
theorem ZW.strCom {k : Nat} {g : Nat × Nat × Nat × Nat} {pc : Nat} {ls : zLs} {r : List Value} {h : zH} {Q : zQ} (ho : zO k = 13) (hd : decode (zC k) pc = .ok (.getstatic 38, 3)) (w : ZW k g (pc + 3) ls (.int 1 :: r) h Q) : ZW k g pc ls r h Q := by
  intro p l e s m args below meth cc E L xs H locs lsA hC hT h1 h2 hP hS hl
  have hs := hT.2.2.2.2.2.2
  have hown := hC.2.2.2.2.2.1
  rw [ho] at hown
  have hts := hC.2.2.2.2.2.2.1
  have h9 := w p l e s m args below meth cc E L xs H locs lsA hC hT h1 h2 hP hS hl
  exact va_gets (own := RJ0) hC.1 hC.2.1 hs.2.2.1 hS hown (hts _ zfw_com) (fun _ h => h) hd h9
theorem ZW.strFmt {k : Nat} {g : Nat × Nat × Nat × Nat} {pc : Nat} {ls : zLs} {r : List Value} {h : zH} {Q : zQ} (ho : zO k = 13) (hd : decode (zC k) pc = .ok (.getstatic 1053, 3)) (w0 : ZW k g (pc + 3) ls (.null :: r) h Q) (w : ZW k g (pc + 3) ls (.ref 1000019 :: r) h Q) : ZW k g pc ls r h Q := by
  intro p l e s m args below meth cc E L xs H locs lsA hC hT h1 h2 hP hS hl
  have hs := hT.2.2.2.2.2.2
  have hown := hC.2.2.2.2.2.1
  rw [ho] at hown
  have hts := hC.2.2.2.2.2.2.1
  rcases hs.2.2.2.1 with hz | hz
  · have h9 := w0 p l e s m args below meth cc E L xs H locs lsA hC hT h1 h2 hP hS hl
    exact va_gets (own := RJ0) hC.1 hC.2.1 hz hS hown (hts _ zfw_fmt) (fun _ h => h) hd h9
  · have h9 := w p l e s m args below meth cc E L xs H locs lsA hC hT h1 h2 hP hS hl
    rw [List.map_cons, zref_v hP, show (1000019 : Nat) = 1000010 + 9 from rfl, zad_K (by omega)] at h9
    exact va_gets (own := RJ0) hC.1 hC.2.1 hz hS hown (hts _ zfw_fmt) (fun _ h => h) hd h9
theorem ZW.strAl {k : Nat} {g : Nat × Nat × Nat × Nat} {pc : Nat} {ls : zLs} {r : List Value} {h : zH} {Q : zQ} {j : Nat} (hj : j < 5) (hd : decode (zC k) pc = .ok (.arraylength, 1)) (w : ZW k g (pc + 1) ls (.int (Int32.ofNat (zLn.getD j 0)) :: r) h Q) : ZW k g pc ls (.ref (1000020 + j) :: r) h Q := by
  intro p l e s m args below meth cc E L xs H locs lsA hC hT h1 h2 hP hS hl
  have hs := hT.2.2.2.2.2.2
  have h9 := w p l e s m args below meth cc E L xs H locs lsA hC hT h1 h2 hP hS hl
  rw [List.map_cons, zref_v hP, zad_V]
  exact va_tlen hC.1 hC.2.1 (hs.1.1 j hj).2.2.2 hS rfl hd h9
theorem ZW.strB {k : Nat} {g : Nat × Nat × Nat × Nat} {pc : Nat} {ls : zLs} {r : List Value} {h : zH} {Q : zQ} {j : Nat} {i : Int32} (hj : j < 5) (hi : vp_in i (zLn.getD j 0)) (hd : decode (zC k) pc = .ok (.baload, 1)) (w : ZW k g (pc + 1) ls (.int ((zBy.getD j []).getD i.toNatClampNeg 0) :: r) h Q) : ZW k g pc ls (.int i :: .ref (1000020 + j) :: r) h Q := by
  intro p l e s m args below meth cc E L xs H locs lsA hC hT h1 h2 hP hS hl
  have hs := hT.2.2.2.2.2.2
  have h9 := w p l e s m args below meth cc E L xs H locs lsA hC hT h1 h2 hP hS hl
  rw [List.map_cons, List.map_cons, zref_v hP, zad_V]
  exact va_tb hC.1 hC.2.1 (hs.1.1 j hj).2.2.2 hS hi rfl hd h9
theorem ZW.nret {k : Nat} {g : Nat × Nat × Nat × Nat} {pc : Nat} {ls : zLs} {h : zH} {Q : zQ} {v : Int32} {ty : FieldType} (hr : zRt k = some ty) (hv : narrow ty (.int v) = .int v) (hgc : g.2.2.1 ≤ g.1 ∧ g.2.2.2 ≤ g.2.1) (hd : decode (zC k) pc = .ok (.ireturn, 1)) (w : Q (some (.int v)) h) : ZW k g pc ls [.int v] h Q := by
  intro p l e s m args below meth cc E L xs H locs lsA hC hT h1 h2 hP hS hl
  refine W.widen (k := g.1) (n := g.2.1) hgc.1 hgc.2 ?_
  have hlk : meth.locks = false := hC.2.2.2.2.1
  exact W.zret (ty := ty) hC.1 hC.2.1 (hC.2.2.2.1.trans hr) hv (fun t ht hW => ⟨some (.int v), h, w, rfl, by rw [ht]; exact hP, h1, h2, hS.F ht⟩) hS.2.2 hd hlk
theorem ZW.callStr {k : Nat} {g : Nat × Nat × Nat × Nat} {pc : Nat} {ls : zLs} {h : zH} {Q : zQ} {x j a : Nat} {as rest : List Value} (hlk : zLk (zO k) x = some j) (hm0 : zmo j = true) (hj : j < 999) (h13 : zO j = 13) (ha : a < 5) (hst : zSt j = false) (hni : (zY j).name ≠ "<init>") (hr : zcr k j rest = true) (hsl : zsl (.ref (1000010 + a) :: as) ≤ zL j) (hna : as.length + 1 = zNa j) (hgc : g.2.2.1 ≤ g.1 ∧ g.2.2.2 ≤ g.2.1) (hd : decode (zC k) pc = .ok (.invokevirtual x, 3))
    (w : ZM j 0 0 (.ref (1000010 + a) :: as) h (fun r h => ZW k g (pc + 3) ls (r.toList ++ rest) h Q)) : ZW k g pc ls (as.reverse ++ .ref (1000010 + a) :: rest) h Q := by
  intro p l e s m args below meth cc E L xs H locs lsA hC hT h1 h2 hP hS hl
  have hm := hm0
  simp only [zmo, Bool.and_eq_true, decide_eq_true_eq, hst, Bool.false_eq_true, if_false, Bool.or_eq_true, hni, false_or] at hm
  obtain ⟨⟨⟨⟨⟨⟨⟨⟨hcode, hin, hsel⟩, hcls⟩, h18⟩, hpl⟩, hm1⟩, hm2⟩, hpar⟩, -⟩ := hm
  obtain ⟨hr1, hr2, hr3⟩ := zcr_ok hr
  have hts := hC.2.2.2.2.2.2.1
  have hcodeT := zin _ hcode rfl
  have hinT := zin _ hin rfl
  have hselT := zin _ hsel rfl
  have hiniT := zini (zO j) h18
  have hlink : (.methodLink (zRN (zO k)) x (zY j) : Jvm.Cond) ∈ zTB := by
    rcases zLk_ok hlk with ⟨q, -⟩ | ⟨-, -, q | q⟩
    · omega
    · exact q
    · rw [hst] at q
      cases q.2
  have hrecv := vk_recv (i := a) hT.2.2.2.2.2.2.1 ha hS
  have hrecv2 : ∃ cell : Cell, H[E.2.2.2.2.1 a]? = some cell ∧ cell.vm.isStatics = false ∧ s.vm.findClass (zRN (zO j)) = some cell.cls := by
    rw [h13]
    exact hrecv
  have hst2 : (as.reverse ++ Value.ref (1000010 + a) :: rest).map (zv E) = (as.map (zv E)).reverse ++ Value.ref (E.2.2.2.2.1 a) :: rest.map (zv E) := by
    rw [List.map_append, List.map_reverse, List.map_cons]
    show _ ++ Value.ref (zad E (1000010 + a)) :: _ = _
    rw [zad_K (by omega)]
  rw [hst2]
  have hM := zMet w hm0 hsl l E L xs h1 h2
  have hargs : (Value.ref (1000010 + a) :: as).map (zv E) = Value.ref (E.2.2.2.2.1 a) :: as.map (zv E) := by
    rw [List.map_cons]
    show Value.ref (zad E (1000010 + a)) :: _ = _
    rw [zad_K (by omega)]
  rw [hargs] at hM
  refine zcont (va_runV (C := zRN (zO j)) (As := as.map (zv E)) (n := zNa j - 1) ⟨hC.1, hC.2.1, hC.2.2.1, hC.2.2.2.2.2.1, hts⟩ hM (cwV (zNa j - 1) hts (zGd (fun w hw => ?_)) rfl rfl rfl ⟨hcls, hm1, hm2, hpar⟩ ⟨hr1, hr2⟩) ⟨fun a U g mk q => ⟨q.1, zT_call q.2.1, q.2.2⟩, hrecv2, fun U hU hW => ⟨rfl, zT_warm hT hP hS hU hW, by rw [hU]; exact hP⟩⟩ rfl (by rw [List.length_map]; omega) hl.1 rfl (lv_room (by rw [zcs_map]; exact hr3)) hd hgc) hS (fun r h' H1 locs1 hq hP1 hx1 hx2 hS1 => ?_)
  · simp only [wsV, List.mem_append, List.mem_cons, List.not_mem_nil, or_false] at hw
    rcases hw with (rfl | rfl | rfl | rfl) | rfl | hw
    · exact hlink
    · exact hinT
    · rw [hcls] at hselT
      exact hselT
    · exact hiniT
    · exact hcodeT
    · exact hw
  · rw [zap_map]
    exact hq p l e s m args below meth cc E L xs H1 locs1 lsA hC hT hx1 hx2 hP1 hS1 hl
/-! the library's methods -/
theorem zm28 (j : Nat) (h : j ∈ [220, 221, 222, 223, 224, 225, 226, 231]) : zmo j = true := List.all_eq_true.mp zmo_28 j h
theorem zs_223 {j : Nat} (hj : j < 5) {h : zH} {Q : zQ} (hq : Q (some (.int 0)) h) : ZM 223 0 0 [.ref (1000010 + j)] h Q := by
  unfold ZM
  refine ZW.strCom rfl (by decide +kernel) ?_
  refine ZW.ifc (o := .eq) (off := 10) (by decide) (by decide +kernel) (fun hc => absurd (show (1 : Int32) = 0 from hc) (by decide)) (fun _ => ?_)
  refine ZW.aload_n (i := 0) (x := 1000010 + j) (List.Mem.head _) (by decide +kernel) ?_
  refine ZW.strCod rfl hj (by decide +kernel) ?_
  refine ZW.goto (off := 4) (by decide) (by decide +kernel) ?_
  exact ZW.nret (ty := .byte) rfl rfl ⟨Nat.le_refl _, Nat.le_refl _⟩ (by decide +kernel) hq
theorem zs_224 {j : Nat} (hj : j < 5) {h : zH} {Q : zQ} (hq : Q (some (.int 1)) h) : ZM 224 0 0 [.ref (1000010 + j)] h Q := by
  unfold ZM
  refine ZW.strCom rfl (by decide +kernel) ?_
  refine ZW.ifc (o := .eq) (off := 14) (by decide) (by decide +kernel) (fun hc => absurd (show (1 : Int32) = 0 from hc) (by decide)) (fun _ => ?_)
  refine ZW.aload_n (i := 0) (x := 1000010 + j) (List.Mem.head _) (by decide +kernel) ?_
  refine ZW.strCod rfl hj (by decide +kernel) ?_
  refine ZW.ifc (o := .ne) (off := 7) (by decide) (by decide +kernel) (fun hc => absurd rfl hc) (fun _ => ?_)
  refine ZW.iconst (c := 1) (by decide +kernel) ?_
  refine ZW.goto (off := 4) (by decide) (by decide +kernel) ?_
  exact ZW.zret rfl (Or.inr rfl) ⟨Nat.le_refl _, Nat.le_refl _⟩ (by decide +kernel) hq
theorem zs_220 {j : Nat} (hj : j < 5) {h : zH} {Q : zQ} (hq : Q (some (.int (Int32.ofNat (zSS.getD j []).length))) h) : ZM 220 0 0 [.ref (1000010 + j)] h Q := by
  have he : Int32.ofNat (zLn.getD j 0) >>> ((0 : Int32) &&& 31) = Int32.ofNat (zSS.getD j []).length := by
    have : ∀ j : Fin 5, Int32.ofNat (zLn.getD j.val 0) >>> ((0 : Int32) &&& 31) = Int32.ofNat (zSS.getD j.val []).length := by decide
    exact this ⟨j, hj⟩
  rw [← he] at hq
  unfold ZM
  refine ZW.aload_n (i := 0) (x := 1000010 + j) (List.Mem.head _) (by decide +kernel) ?_
  refine ZW.strVal rfl hj (by decide +kernel) ?_
  refine ZW.strAl hj (by decide +kernel) ?_
  refine ZW.aload_n (i := 0) (x := 1000010 + j) (List.Mem.head _) (by decide +kernel) ?_
  refine ZW.callStr (x := 335) (j := 223) (as := []) (by decide +kernel) (zm28 223 (by decide)) (by decide) rfl hj (by decide +kernel) (by decide +kernel) rfl (Nat.le_of_ble_eq_true rfl) rfl ⟨Nat.le_refl _, Nat.le_refl _⟩ (by decide +kernel) ?_
  refine zs_223 hj ?_
  refine ZW.ishr (by decide +kernel) ?_
  exact ZW.iret rfl ⟨Nat.le_refl _, Nat.le_refl _⟩ (by decide +kernel) hq
theorem zs_221 {j : Nat} (hj : j < 5) {h : zH} {Q : zQ} (hq : Q (some (.int (if (zSS.getD j []).length = 0 then 1 else 0))) h) : ZM 221 0 0 [.ref (1000010 + j)] h Q := by
  unfold ZM
  refine ZW.aload_n (i := 0) (x := 1000010 + j) (List.Mem.head _) (by decide +kernel) ?_
  refine ZW.strVal rfl hj (by decide +kernel) ?_
  refine ZW.strAl hj (by decide +kernel) ?_
  have hz : ¬ Int32.ofNat (zLn.getD j 0) = 0 ↔ ¬ (zSS.getD j []).length = 0 := by
    have : ∀ j : Fin 5, ¬ Int32.ofNat (zLn.getD j.val 0) = 0 ↔ ¬ (zSS.getD j.val []).length = 0 := by decide
    exact this ⟨j, hj⟩
  refine ZW.ifc (o := .ne) (off := 7) (by decide) (by decide +kernel) (fun hc => ?_) (fun hc => ?_)
  · rw [if_neg (hz.mp hc)] at hq
    refine ZW.iconst (c := 0) (by decide +kernel) ?_
    exact ZW.zret rfl (Or.inl rfl) ⟨Nat.le_refl _, Nat.le_refl _⟩ (by decide +kernel) hq
  · rw [if_pos (Classical.byContradiction (fun hn => hc (hz.mpr hn)))] at hq
    refine ZW.iconst (c := 1) (by decide +kernel) ?_
    refine ZW.goto (off := 4) (by decide) (by decide +kernel) ?_
    exact ZW.zret rfl (Or.inr rfl) ⟨Nat.le_refl _, Nat.le_refl _⟩ (by decide +kernel) hq
theorem zs_231 {i n : Int32} {v : Value} (h0 : ¬ i < 0) (h1 : i < n) {h : zH} {Q : zQ} (hq : Q (some (.int i)) h) : ZM 231 0 0 [.int i, .int n, v] h Q := by
  unfold ZM
  refine ZW.iload_n (i := 0) (x := i) (List.Mem.head _) (by decide +kernel) ?_
  refine ZW.ifc (o := .lt) (off := 8) (by decide) (by decide +kernel) (fun hc => absurd hc h0) (fun _ => ?_)
  refine ZW.iload_n (i := 0) (x := i) (List.Mem.head _) (by decide +kernel) ?_
  refine ZW.iload_n (i := 1) (x := n) (List.Mem.tail _ (List.Mem.head _)) (by decide +kernel) ?_
  refine ZW.icmp (o := .lt) (off := 10) (by decide) (by decide +kernel) (fun _ => ?_) (fun hc => absurd h1 hc)
  refine ZW.iload_n (i := 0) (x := i) (List.Mem.head _) (by decide +kernel) ?_
  exact ZW.iret rfl ⟨Nat.le_refl _, Nat.le_refl _⟩ (by decide +kernel) hq
theorem zs_225 {i n : Int32} (h0 : ¬ i < 0) (h1 : i < n) {h : zH} {Q : zQ} (hq : Q none h) : ZM 225 0 0 [.int i, .int n] h Q := by
  unfold ZM
  refine ZW.iload_n (i := 0) (x := i) (List.Mem.head _) (by decide +kernel) ?_
  refine ZW.iload_n (i := 1) (x := n) (List.Mem.tail _ (List.Mem.head _)) (by decide +kernel) ?_
  refine ZW.strFmt rfl (by decide +kernel) ?_ ?_
  · refine ZW.callSm (x := 1059) (j := 231) (as := [.int i, .int n, .null]) (rest := []) (by decide +kernel) (zm28 231 (by decide)) (by decide) (by decide +kernel) rfl (Nat.le_of_ble_eq_true rfl) rfl ⟨Nat.le_refl _, Nat.le_refl _⟩ (by decide +kernel) ?_
    refine zs_231 h0 h1 ?_
    refine ZW.pop (v := .int i) rfl (by decide +kernel) ?_
    exact ZW.vret rfl ⟨Nat.le_refl _, Nat.le_refl _⟩ (by decide +kernel) hq
  · refine ZW.callSm (x := 1059) (j := 231) (as := [.int i, .int n, .ref 1000019]) (rest := []) (by decide +kernel) (zm28 231 (by decide)) (by decide) (by decide +kernel) rfl (Nat.le_of_ble_eq_true rfl) rfl ⟨Nat.le_refl _, Nat.le_refl _⟩ (by decide +kernel) ?_
    refine zs_231 h0 h1 ?_
    refine ZW.pop (v := .int i) rfl (by decide +kernel) ?_
    exact ZW.vret rfl ⟨Nat.le_refl _, Nat.le_refl _⟩ (by decide +kernel) hq
theorem zvp_lt {i : Int32} {n : Nat} (h : vp_in i n) (hn : n < 2147483648) : ¬ i < 0 ∧ i < Int32.ofNat n := by
  have h1 : ¬ i < 0 := fun q => h (Or.inl q)
  have h2 : i.toNatClampNeg < n := Nat.lt_of_not_le (fun q => h (Or.inr q))
  refine ⟨h1, ?_⟩
  have h3 : 0 ≤ i.toInt := by
    have := Int32.le_iff_toInt_le.mp (Int32.not_lt.mp h1)
    simpa using this
  apply Int32.lt_iff_toInt_lt.mpr
  rw [Int32.toInt_ofNat_of_lt hn]
  simp only [Int32.toNatClampNeg] at h2
  omega
theorem zs_226 {j : Nat} {i : Int32} (hj : j < 5) (hi : vp_in i (zLn.getD j 0)) {h : zH} {Q : zQ} (hq : Q (some (.int (zSc (1000010 + j) i.toNatClampNeg))) h) : ZM 226 0 0 [.ref (1000020 + j), .int i] h Q := by
  have hL : zLn.getD j 0 ≤ 5 := by
    have : ∀ j : Fin 5, zLn.getD j.val 0 ≤ 5 := by decide
    exact this ⟨j, hj⟩
  obtain ⟨q0, q1⟩ := zvp_lt hi (by omega)
  have hn : i.toNatClampNeg < 5 := Nat.lt_of_lt_of_le (Nat.lt_of_not_le (fun q => hi (Or.inr q))) hL
  have hb : (((zBy.getD j []).getD i.toNatClampNeg 0 &&& (Int16.ofInt 255).toInt32).toUInt32 % 65536).toInt32 = zSc (1000010 + j) i.toNatClampNeg ∧ narrow .char (.int (zSc (1000010 + j) i.toNatClampNeg)) = .int (zSc (1000010 + j) i.toNatClampNeg) := by
    have : ∀ (j n : Fin 5), (((zBy.getD j.val []).getD n.val 0 &&& (Int16.ofInt 255).toInt32).toUInt32 % 65536).toInt32 = zSc (1000010 + j.val) n.val ∧ narrow .char (.int (zSc (1000010 + j.val) n.val)) = .int (zSc (1000010 + j.val) n.val) := by decide +kernel
    exact this ⟨j, hj⟩ ⟨_, hn⟩
  unfold ZM
  refine ZW.iload_n (i := 1) (x := i) (List.Mem.tail _ (List.Mem.head _)) (by decide +kernel) ?_
  refine ZW.aload_n (i := 0) (x := 1000020 + j) (List.Mem.head _) (by decide +kernel) ?_
  refine ZW.strAl hj (by decide +kernel) ?_
  refine ZW.callSm (x := 9) (j := 225) (as := [.int i, .int (Int32.ofNat (zLn.getD j 0))]) (rest := []) (by decide +kernel) (zm28 225 (by decide)) (by decide) (by decide +kernel) rfl (Nat.le_of_ble_eq_true rfl) rfl ⟨Nat.le_refl _, Nat.le_refl _⟩ (by decide +kernel) ?_
  refine zs_225 q0 q1 ?_
  refine ZW.aload_n (i := 0) (x := 1000020 + j) (List.Mem.head _) (by decide +kernel) ?_
  refine ZW.iload_n (i := 1) (x := i) (List.Mem.tail _ (List.Mem.head _)) (by decide +kernel) ?_
  refine ZW.strB hj hi (by decide +kernel) ?_
  refine ZW.sipush (c := 255) (by decide +kernel) ?_
  refine ZW.iand (by decide +kernel) ?_
  refine ZW.i2c (by decide +kernel) ?_
  rw [hb.1]
  exact ZW.nret (ty := .char) rfl hb.2 ⟨Nat.le_refl _, Nat.le_refl _⟩ (by decide +kernel) hq
theorem zs_222 {j : Nat} {i : Int32} (hj : j < 5) (hi : vp_in i (zLn.getD j 0)) {h : zH} {Q : zQ} (hq : Q (some (.int (zSc (1000010 + j) i.toNatClampNeg))) h) : ZM 222 0 0 [.ref (1000010 + j), .int i] h Q := by
  have hL : zLn.getD j 0 ≤ 5 := by
    have : ∀ j : Fin 5, zLn.getD j.val 0 ≤ 5 := by decide
    exact this ⟨j, hj⟩
  have hn : i.toNatClampNeg < 5 := Nat.lt_of_lt_of_le (Nat.lt_of_not_le (fun q => hi (Or.inr q))) hL
  have hb : narrow .char (.int (zSc (1000010 + j) i.toNatClampNeg)) = .int (zSc (1000010 + j) i.toNatClampNeg) := by
    have : ∀ (j n : Fin 5), narrow .char (.int (zSc (1000010 + j.val) n.val)) = .int (zSc (1000010 + j.val) n.val) := by decide +kernel
    exact this ⟨j, hj⟩ ⟨_, hn⟩
  unfold ZM
  refine ZW.aload_n (i := 0) (x := 1000010 + j) (List.Mem.head _) (by decide +kernel) ?_
  refine ZW.callStr (x := 492) (j := 224) (as := []) (rest := []) (by decide +kernel) (zm28 224 (by decide)) (by decide) rfl hj (by decide +kernel) (by decide +kernel) rfl (Nat.le_of_ble_eq_true rfl) rfl ⟨Nat.le_refl _, Nat.le_refl _⟩ (by decide +kernel) ?_
  refine zs_224 hj ?_
  refine ZW.ifc (o := .eq) (off := 12) (by decide) (by decide +kernel) (fun hc => absurd (show (1 : Int32) = 0 from hc) (by decide)) (fun _ => ?_)
  refine ZW.aload_n (i := 0) (x := 1000010 + j) (List.Mem.head _) (by decide +kernel) ?_
  refine ZW.strVal rfl hj (by decide +kernel) ?_
  refine ZW.iload_n (i := 1) (x := i) (List.Mem.tail _ (List.Mem.head _)) (by decide +kernel) ?_
  refine ZW.callSm (x := 495) (j := 226) (as := [.ref (1000020 + j), .int i]) (rest := []) (by decide +kernel) (zm28 226 (by decide)) (by decide) (by decide +kernel) rfl (Nat.le_of_ble_eq_true rfl) rfl ⟨Nat.le_refl _, Nat.le_refl _⟩ (by decide +kernel) ?_
  refine zs_226 hj hi ?_
  exact ZW.nret (ty := .char) rfl hb ⟨Nat.le_refl _, Nat.le_refl _⟩ (by decide +kernel) hq
/-! the three calls that the class makes -/
theorem zSn_ok {a n : Nat} (h : zSn a = some n) : ∃ j, j < 5 ∧ a = 1000010 + j ∧ n = (zSS.getD j []).length := by
  unfold zSn at h
  split at h
  · rename_i q
    refine ⟨a - 1000010, by omega, by omega, (Option.some.inj h).symm⟩
  · cases h
theorem zLn_len {j : Nat} (hj : j < 5) : zLn.getD j 0 = (zSS.getD j []).length := by
  have : ∀ j : Fin 5, zLn.getD j.val 0 = (zSS.getD j.val []).length := by decide
  exact this ⟨j, hj⟩
theorem ZW.strLen {k : Nat} {g : Nat × Nat × Nat × Nat} {pc : Nat} {ls : zLs} {r : List Value} {h : zH} {Q : zQ} {x a n : Nat} (hlk : zLk (zO k) x = some 220) (hn : zSn a = some n) (hgc : g.2.2.1 ≤ g.1 ∧ g.2.2.2 ≤ g.2.1) (hr : zcr k 220 r = true) (hd : decode (zC k) pc = .ok (.invokevirtual x, 3)) (w : ZW k g (pc + 3) ls (.int (Int32.ofNat n) :: r) h Q) : ZW k g pc ls (.ref a :: r) h Q := by
  obtain ⟨j, hj, rfl, rfl⟩ := zSn_ok hn
  exact ZW.callStr (j := 220) (as := []) (rest := r) hlk (zm28 220 (by decide)) (by decide) rfl hj (by decide +kernel) (by decide +kernel) hr (Nat.le_of_ble_eq_true rfl) rfl hgc hd (zs_220 hj w)
theorem ZW.strEmpty {k : Nat} {g : Nat × Nat × Nat × Nat} {pc : Nat} {ls : zLs} {r : List Value} {h : zH} {Q : zQ} {x a n : Nat} (hlk : zLk (zO k) x = some 221) (hn : zSn a = some n) (hgc : g.2.2.1 ≤ g.1 ∧ g.2.2.2 ≤ g.2.1) (hr : zcr k 221 r = true) (hd : decode (zC k) pc = .ok (.invokevirtual x, 3)) (w : ZW k g (pc + 3) ls (.int (if n = 0 then 1 else 0) :: r) h Q) : ZW k g pc ls (.ref a :: r) h Q := by
  obtain ⟨j, hj, rfl, rfl⟩ := zSn_ok hn
  exact ZW.callStr (j := 221) (as := []) (rest := r) hlk (zm28 221 (by decide)) (by decide) rfl hj (by decide +kernel) (by decide +kernel) hr (Nat.le_of_ble_eq_true rfl) rfl hgc hd (zs_221 hj w)
theorem ZW.strChar {k : Nat} {g : Nat × Nat × Nat × Nat} {pc : Nat} {ls : zLs} {r : List Value} {h : zH} {Q : zQ} {x a n : Nat} {i : Int32} (hlk : zLk (zO k) x = some 222) (hn : zSn a = some n) (hgc : g.2.2.1 ≤ g.1 ∧ g.2.2.2 ≤ g.2.1) (hr : zcr k 222 r = true) (hi : vp_in i n) (hd : decode (zC k) pc = .ok (.invokevirtual x, 3)) (w : ZW k g (pc + 3) ls (.int (zSc a i.toNatClampNeg) :: r) h Q) : ZW k g pc ls (.int i :: .ref a :: r) h Q := by
  obtain ⟨j, hj, rfl, rfl⟩ := zSn_ok hn
  rw [← zLn_len hj] at hi
  exact ZW.callStr (j := 222) (as := [.int i]) (rest := r) hlk (zm28 222 (by decide)) (by decide) rfl hj (by decide +kernel) (by decide +kernel) hr (Nat.le_of_ble_eq_true rfl) rfl hgc hd (zs_222 hj hi w)
