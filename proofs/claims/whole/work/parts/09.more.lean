/-! written by wip/gen/emit9.py: other calls, new cells, constants, switches, returns -/
theorem zm_max_c : Cond.code Lib.Math.max.name Lib.Math.max.code 2 (some .int) ∈ zTB := zin 257 (by decide +kernel) rfl
theorem zm_max_s : Cond.static Lib.Math.max.name ∈ zTB := zin 256 (by decide +kernel) rfl
theorem zm_min_c : Cond.code Lib.Math.min.name Lib.Math.min.code 2 (some .int) ∈ zTB := zin 254 (by decide +kernel) rfl
theorem zm_min_s : Cond.static Lib.Math.min.name ∈ zTB := zin 253 (by decide +kernel) rfl
theorem zm_ini : Cond.initialized "java/lang/Math" ∈ zTB := zin 88 (by decide +kernel) rfl
theorem ZW.mmax {k : Nat} {g : Nat × Nat × Nat × Nat} {pc : Nat} {ls : zLs} {r : List Value} {h : zH} {Q : zQ} {i : Nat} {x y : Int32} (hlk : zLk (zO k) i = some 232) (hf : 1 ≤ zFr k) (hlo : zcs r + 13 ≤ zLo k) (hgc : g.2.2.1 ≤ g.1 ∧ g.2.2.2 ≤ g.2.1) (hd : decode (zC k) pc = .ok (.invokestatic i, 3)) (w : ZW k g (pc + 3) ls (.int (if x < y then y else x) :: r) h Q) : ZW k g pc ls (.int y :: .int x :: r) h Q := by
  intro p l e s m args below meth cc E L xs H locs lsA hC hT h1 h2 hP hS hl
  have hts := hC.2.2.2.2.2.2.1
  have hlink : (.methodLink (zRN (zO k)) i (zY 232) : Cond) ∈ zTB := by
    rcases zLk_ok hlk with ⟨q, -⟩ | ⟨-, -, q | q⟩
    · omega
    · exact q
    · have q2 := q.1
      simp only [zNW, List.mem_cons, List.not_mem_nil, or_false, reduceCtorEq, false_or, Cond.methodLinkNest.injEq] at q2
      exfalso
      rcases q2 with q2 | q2 | q2 | q2 | q2 | q2 | q2 | q2 <;> exact absurd q2.2.2.1 (by decide +kernel)
  exact va_mmax hC.1 hC.2.1 (hC.2.2.1.trans hl.1.symm) hC.2.2.2.2.2.1 (hts _ hlink) (hts _ zm_max_s) (hts _ zm_ini) (hts _ zm_max_c) hf (by rw [zcs_map]; exact hlo) hgc.1 hgc.2 hd (w p l e s m args below meth cc E L xs H locs lsA hC hT h1 h2 hP hS hl)
theorem ZW.mmin {k : Nat} {g : Nat × Nat × Nat × Nat} {pc : Nat} {ls : zLs} {r : List Value} {h : zH} {Q : zQ} {i : Nat} {x y : Int32} (hlk : zLk (zO k) i = some 233) (hf : 1 ≤ zFr k) (hlo : zcs r + 13 ≤ zLo k) (hgc : g.2.2.1 ≤ g.1 ∧ g.2.2.2 ≤ g.2.1) (hd : decode (zC k) pc = .ok (.invokestatic i, 3)) (w : ZW k g (pc + 3) ls (.int (if y < x then y else x) :: r) h Q) : ZW k g pc ls (.int y :: .int x :: r) h Q := by
  intro p l e s m args below meth cc E L xs H locs lsA hC hT h1 h2 hP hS hl
  have hts := hC.2.2.2.2.2.2.1
  have hlink : (.methodLink (zRN (zO k)) i (zY 233) : Cond) ∈ zTB := by
    rcases zLk_ok hlk with ⟨q, -⟩ | ⟨-, -, q | q⟩
    · omega
    · exact q
    · have q2 := q.1
      simp only [zNW, List.mem_cons, List.not_mem_nil, or_false, reduceCtorEq, false_or, Cond.methodLinkNest.injEq] at q2
      exfalso
      rcases q2 with q2 | q2 | q2 | q2 | q2 | q2 | q2 | q2 <;> exact absurd q2.2.2.1 (by decide +kernel)
  exact va_mmin hC.1 hC.2.1 (hC.2.2.1.trans hl.1.symm) hC.2.2.2.2.2.1 (hts _ hlink) (hts _ zm_min_s) (hts _ zm_ini) (hts _ zm_min_c) hf (by rw [zcs_map]; exact hlo) hgc.1 hgc.2 hd (w p l e s m args below meth cc E L xs H locs lsA hC hT h1 h2 hP hS hl)
theorem ZW.callSm {k : Nat} {g : Nat × Nat × Nat × Nat} {pc : Nat} {ls : zLs} {h : zH} {Q : zQ} {x j : Nat} {as rest : List Value} (hlk : zLk (zO k) x = some j) (hm0 : zmo j = true) (hj : j < 999) (hst : zSt j = true) (hr : zcr k j rest = true) (hsl : zsl as ≤ zL j) (hna : as.length = zNa j) (hgc : g.2.2.1 ≤ g.1 ∧ g.2.2.2 ≤ g.2.1) (hd : decode (zC k) pc = .ok (.invokestatic x, 3))
    (w : ZM j 0 0 as h (fun r h => ZW k g (pc + 3) ls (r.toList ++ rest) h Q)) : ZW k g pc ls (as.reverse ++ rest) h Q := by
  intro p l e s m args below meth cc E L xs H locs lsA hC hT h1 h2 hP hS hl
  have hm := hm0
  simp only [zmo, Bool.and_eq_true, decide_eq_true_eq, hst, if_true] at hm
  obtain ⟨⟨⟨⟨⟨⟨⟨⟨hcode, hstat⟩, hcls⟩, h18⟩, hpl⟩, hm1⟩, hm2⟩, hpar⟩, -⟩ := hm
  obtain ⟨hr1, hr2, hr3⟩ := zcr_ok hr
  have hts := hC.2.2.2.2.2.2.1
  have hcodeT := zin _ hcode rfl
  have hstT := zin _ hstat rfl
  have hiniT := zini (zO j) h18
  rw [← hcls] at hiniT
  have hst2 : (as.reverse ++ rest).map (zv E) = (as.map (zv E)).reverse ++ rest.map (zv E) := by
    rw [List.map_append, List.map_reverse]
  rw [hst2]
  have hM := zMet w hm0 hsl l E L xs h1 h2
  have hpre : PreS s H (va_Pc (as.map (zv E)) (fun U => zT E L xs U ∧ zP E h U.heap)) (as.map (zv E)) := ⟨fun a U g mk q => ⟨q.1, zT_call q.2.1, q.2.2⟩, fun U hU hW => ⟨rfl, zT_warm hT hP hS hU hW, by rw [hU]; exact hP⟩⟩
  have fin : ∀ (r : Option Value) (h' : zH) (H1 : Heap) (locs1 : List Loc), ZW k g (pc + 3) ls (r.toList ++ rest) h' Q → zP E h' H1 → h'.2 1000000 = xs → h'.2 1000001 0 = Int32.ofNat L → va_S (zAr E) s.heap H1 locs1 → W p l e (zRm k g) s m args below meth cc H1 locs1 (g.2.2.1 + 0) (g.2.2.2 + 0) (MQ below (zQc E L xs Q) args s g.1 g.2.1 (zAr E)) (F0 m (pc + 3) lsA ((r.map (zv E)).toList ++ rest.map (zv E))) := by
    intro r h' H1 locs1 hq hP1 hx1 hx2 hS1
    rw [zap_map]
    exact hq p l e s m args below meth cc E L xs H1 locs1 lsA hC hT hx1 hx2 hP1 hS1 hl
  rcases zLk_ok hlk with ⟨q, -⟩ | ⟨-, -, q | q⟩
  · omega
  · refine zcont (va_runS (As := as.map (zv E)) (n := zNa j) ⟨hC.1, hC.2.1, hC.2.2.1, hC.2.2.2.2.2.1, hts⟩ hM (va_cwS (zNa j) hts (zGd (fun w hw => ?_)) rfl rfl rfl ⟨hm1, hm2, hpar⟩ ⟨hr1, hr2⟩) hpre rfl (by rw [List.length_map]; omega) hl.1 rfl (lv_room (by rw [zcs_map]; exact hr3)) hd hgc) hS fin
    simp only [va_wsS, List.mem_append, List.mem_cons, List.not_mem_nil, or_false] at hw
    rcases hw with (rfl | rfl | rfl) | rfl | hw
    · exact q
    · exact hstT
    · exact hiniT
    · exact hcodeT
    · exact hw
  · refine zcont (va_runSN (host := "PaymentHub") (As := as.map (zv E)) (n := zNa j) ⟨hC.1, hC.2.1, hC.2.2.1, hC.2.2.2.2.2.1, hts⟩ hM ⟨va_cnB (zNa j) hts (zGd (fun w hw => ?_)) rfl rfl rfl (hT.2.2.2.2.2.1 _ q.1) (hts _ hiniT) ⟨hm1, hm2, hpar⟩ ⟨hr1, hr2⟩, hts _ hstT, trivial⟩ hpre rfl (by rw [List.length_map]; omega) hl.1 rfl (lv_room (by rw [zcs_map]; exact hr3)) hd hgc) hS fin
    simp only [List.mem_cons] at hw
    rcases hw with rfl | hw
    · exact hcodeT
    · exact hw
theorem ZW.callS {k : Nat} {g : Nat × Nat × Nat × Nat} {pc : Nat} {ls : zLs} {h : zH} {Q : zQ} {x j : Nat} {as rest : List Value} (hlk : zLk (zO k) x = some j) (hj : j < 219) (hst : zSt j = true) (hr : zcr k j rest = true) (hsl : zsl as ≤ zL j) (hna : as.length = zNa j) (hgc : g.2.2.1 ≤ g.1 ∧ g.2.2.2 ≤ g.2.1) (hd : decode (zC k) pc = .ok (.invokestatic x, 3))
    (w : ZM j 0 0 as h (fun r h => ZW k g (pc + 3) ls (r.toList ++ rest) h Q)) : ZW k g pc ls (as.reverse ++ rest) h Q := ZW.callSm hlk (zmo_all j hj) (by omega) hst hr hsl hna hgc hd w
theorem zref_v {E : zE} {h : zH} {H : Heap} (_ : zP E h H) (a : Nat) : zv E (.ref a) = .ref (zad E a) := rfl
theorem ZW.callI {k : Nat} {g : Nat × Nat × Nat × Nat} {pc : Nat} {ls : zLs} {h : zH} {Q : zQ} {x j a mc ms : Nat} {as rest : List Value} (hlk : zLk (zO k) x = some j) (hj : j < 219) (hst : zSt j = false) (hni : (zY j).name = "<init>") (hr : zcr k j rest = true) (hsl : zsl (.ref a :: as) ≤ zL j) (hna : as.length + 1 = zNa j) (hgc : g.2.2.1 + mc ≤ g.1 ∧ g.2.2.2 + ms ≤ g.2.1) (hret : zRt j = none) (hd : decode (zC k) pc = .ok (.invokespecial x, 3))
    (w : ZM j mc ms (.ref a :: as) h (fun r h => ZW k (g.1, g.2.1, g.2.2.1 + mc, g.2.2.2 + ms) (pc + 3) ls (r.toList ++ rest) h Q)) : ZW k g pc ls (as.reverse ++ .ref a :: rest) h Q := by
  intro p l e s m args below meth cc E L xs H locs lsA hC hT h1 h2 hP hS hl
  have hm := zmo_all j hj
  simp only [zmo, Bool.and_eq_true, decide_eq_true_eq, hst, Bool.false_eq_true, if_false, Bool.or_eq_true] at hm
  obtain ⟨⟨⟨⟨⟨⟨⟨⟨hcode, hin, -⟩, hcls⟩, h18⟩, hpl⟩, hm1⟩, hm2⟩, hpar⟩, -⟩ := hm
  obtain ⟨hr1, hr2, hr3⟩ := zcr_ok hr
  have hts := hC.2.2.2.2.2.2.1
  have hcodeT := zin _ hcode rfl
  have hinT := zin _ hin rfl
  have hiniT := zini (zO j) h18
  rw [← hcls] at hiniT
  have hlink : (.methodLink (zRN (zO k)) x (zY j) : Cond) ∈ zTB := by
    rcases zLk_ok hlk with ⟨q, -⟩ | ⟨-, -, q | q⟩
    · omega
    · exact q
    · rw [hst] at q
      cases q.2
  have hst2 : (as.reverse ++ Value.ref a :: rest).map (zv E) = (as.map (zv E)).reverse ++ Value.ref (zad E a) :: rest.map (zv E) := by
    rw [List.map_append, List.map_reverse, List.map_cons]
    rfl
  rw [hst2]
  have hM := zMet w (zmo_all j hj) hsl l E L xs h1 h2
  rw [hret] at hM hcodeT
  refine zcont (va_runI (b := zad E a) (As := as.map (zv E)) (n := zNa j - 1) ⟨hC.1, hC.2.1, hC.2.2.1, hC.2.2.2.2.2.1, hts⟩ hM (cwI (zNa j - 1) hts (zGd (fun w hw => ?_)) rfl rfl rfl (hts _ hiniT) (hts _ hlink) (hts _ hinT) hni ⟨hm1, hm2, hpar⟩ ⟨hr1, hr2⟩) ⟨fun a U g mk q => ⟨q.1, zT_call q.2.1, q.2.2⟩, fun U hU hW => ⟨rfl, zT_warm hT hP hS hU hW, by rw [hU]; exact hP⟩⟩ rfl (by rw [List.length_map]; omega) hl.1 rfl (lv_room (by rw [zcs_map]; exact hr3)) hd hgc) hS (fun r h' H1 locs1 hq hP1 hx1 hx2 hS1 => ?_)
  · simp only [List.mem_cons] at hw
    rcases hw with rfl | hw
    · exact hcodeT
    · exact hw
  · rw [zap_map]
    exact hq p l e s m args below meth cc E L xs H1 locs1 lsA hC hT hx1 hx2 hP1 hS1 hl
theorem ZW.objInit {k : Nat} {g : Nat × Nat × Nat × Nat} {pc : Nat} {ls : zLs} {r : List Value} {h : zH} {Q : zQ} {x a : Nat} (hlk : zLk (zO k) x = some 999) (hf : 1 ≤ zFr k) (hlo : zcs r + 12 ≤ zLo k) (hd : decode (zC k) pc = .ok (.invokespecial x, 3)) (w : ZW k g (pc + 3) ls r h Q) : ZW k g pc ls (.ref a :: r) h Q := by
  intro p l e s m args below meth cc E L xs H locs lsA hC hT h1 h2 hP hS hl
  have hts := hC.2.2.2.2.2.2.1
  have hlink : (.methodLink (zRN (zO k)) x objectInit : Cond) ∈ zTB := by
    rcases zLk_ok hlk with ⟨-, q⟩ | ⟨q, -⟩
    · exact q
    · exact absurd rfl q
  refine W.objInit hC.1 hC.2.1 hC.2.2.2.2.2.1 (hts _ hlink) (hts _ zob_inst) (hts _ zob_code) rfl (hl.1.trans hC.2.2.1.symm) rfl hd hf ?_ (w p l e s m args below meth cc E L xs H locs lsA hC hT h1 h2 hP hS hl)
  show 2 * 0 + ((r.map (zv E)).map fun v => v.category).sum + 12 ≤ zLo k
  rw [zcs_map]
  omega
theorem zKi_ok {o i v : Nat} (h : zKi o i = some v) : (.constant (zRN o) i (Int32.ofNat v) : Cond) ∈ zTB := by
  unfold zKi at h
  rw [Option.map_eq_some_iff] at h
  obtain ⟨e, he, h2⟩ := h
  have hm := List.mem_of_find?_eq_some he
  have hi := List.find?_some he
  simp only [Bool.and_eq_true, beq_iff_eq] at hi
  cases h2
  have h1 := List.all_eq_true.mp zki_ok e hm
  simp only [decide_eq_true_eq] at h1
  rw [← hi.1, ← hi.2]
  exact zin _ h1 rfl
theorem zKl_ok {o i v : Nat} (h : zKl o i = some v) : (.constantLong (zRN o) i (Int64.ofNat v) : Cond) ∈ zTB := by
  unfold zKl at h
  rw [Option.map_eq_some_iff] at h
  obtain ⟨e, he, h2⟩ := h
  have hm := List.mem_of_find?_eq_some he
  have hi := List.find?_some he
  simp only [Bool.and_eq_true, beq_iff_eq] at hi
  cases h2
  have h1 := List.all_eq_true.mp zkl_ok e hm
  simp only [decide_eq_true_eq] at h1
  rw [← hi.1, ← hi.2]
  exact zin _ h1 rfl
theorem ZW.ldc {k : Nat} {g : Nat × Nat × Nat × Nat} {pc : Nat} {ls : zLs} {r : List Value} {h : zH} {Q : zQ} {i v : Nat} (hv : zKi (zO k) i = some v) (hd : decode (zC k) pc = .ok (.ldc i, 2)) (w : ZW k g (pc + 2) ls (.int (Int32.ofNat v) :: r) h Q) : ZW k g pc ls r h Q := by
  intro p l e s m args below meth cc E L xs H locs lsA hC hT h1 h2 hP hS hl
  exact lv_ldc hC.1 hC.2.1 hC.2.2.2.2.2.1 (hC.2.2.2.2.2.2.1 _ (zKi_ok hv)) hd (w p l e s m args below meth cc E L xs H locs lsA hC hT h1 h2 hP hS hl)
theorem ZW.ldcw {k : Nat} {g : Nat × Nat × Nat × Nat} {pc : Nat} {ls : zLs} {r : List Value} {h : zH} {Q : zQ} {i v : Nat} (hv : zKi (zO k) i = some v) (hd : decode (zC k) pc = .ok (.ldc_w i, 3)) (w : ZW k g (pc + 3) ls (.int (Int32.ofNat v) :: r) h Q) : ZW k g pc ls r h Q := by
  intro p l e s m args below meth cc E L xs H locs lsA hC hT h1 h2 hP hS hl
  exact lv_ldcw hC.1 hC.2.1 hC.2.2.2.2.2.1 (hC.2.2.2.2.2.2.1 _ (zKi_ok hv)) hd (w p l e s m args below meth cc E L xs H locs lsA hC hT h1 h2 hP hS hl)
theorem ZW.ldc2 {k : Nat} {g : Nat × Nat × Nat × Nat} {pc : Nat} {ls : zLs} {r : List Value} {h : zH} {Q : zQ} {i v : Nat} (hv : zKl (zO k) i = some v) (hd : decode (zC k) pc = .ok (.ldc2_w i, 3)) (w : ZW k g (pc + 3) ls (.long (Int64.ofNat v) :: r) h Q) : ZW k g pc ls r h Q := by
  intro p l e s m args below meth cc E L xs H locs lsA hC hT h1 h2 hP hS hl
  exact lv_ldc2 hC.1 hC.2.1 hC.2.2.2.2.2.1 (hC.2.2.2.2.2.2.1 _ (zKl_ok hv)) hd (w p l e s m args below meth cc E L xs H locs lsA hC hT h1 h2 hP hS hl)
theorem ZW.iret {k : Nat} {g : Nat × Nat × Nat × Nat} {pc : Nat} {ls : zLs} {h : zH} {Q : zQ} {v : Int32} (hr : zRt k = some .int) (hgc : g.2.2.1 ≤ g.1 ∧ g.2.2.2 ≤ g.2.1) (hd : decode (zC k) pc = .ok (.ireturn, 1)) (w : Q (some (.int v)) h) : ZW k g pc ls [.int v] h Q := by
  intro p l e s m args below meth cc E L xs H locs lsA hC hT h1 h2 hP hS hl
  refine W.widen (k := g.1) (n := g.2.1) hgc.1 hgc.2 ?_
  have hlk : meth.locks = false := hC.2.2.2.2.1
  exact W.iret hC.1 hC.2.1 (hC.2.2.2.1.trans hr) (fun t ht hW => ⟨some (.int v), h, w, rfl, by rw [ht]; exact hP, h1, h2, hS.F ht⟩) hS.2.2 hd hlk
theorem ZW.zret {k : Nat} {g : Nat × Nat × Nat × Nat} {pc : Nat} {ls : zLs} {h : zH} {Q : zQ} {v : Int32} (hr : zRt k = some .boolean) (hv : v = 0 ∨ v = 1) (hgc : g.2.2.1 ≤ g.1 ∧ g.2.2.2 ≤ g.2.1) (hd : decode (zC k) pc = .ok (.ireturn, 1)) (w : Q (some (.int v)) h) : ZW k g pc ls [.int v] h Q := by
  intro p l e s m args below meth cc E L xs H locs lsA hC hT h1 h2 hP hS hl
  refine W.widen (k := g.1) (n := g.2.1) hgc.1 hgc.2 ?_
  have hlk : meth.locks = false := hC.2.2.2.2.1
  exact W.zret (ty := .boolean) hC.1 hC.2.1 (hC.2.2.2.1.trans hr) (by rcases hv with rfl | rfl <;> rfl) (fun t ht hW => ⟨some (.int v), h, w, rfl, by rw [ht]; exact hP, h1, h2, hS.F ht⟩) hS.2.2 hd hlk
theorem ZW.vret {k : Nat} {g : Nat × Nat × Nat × Nat} {pc : Nat} {ls : zLs} {h : zH} {Q : zQ} (hr : zRt k = none) (hgc : g.2.2.1 ≤ g.1 ∧ g.2.2.2 ≤ g.2.1) (hd : decode (zC k) pc = .ok (.return_, 1)) (w : Q none h) : ZW k g pc ls [] h Q := by
  intro p l e s m args below meth cc E L xs H locs lsA hC hT h1 h2 hP hS hl
  refine W.widen (k := g.1) (n := g.2.1) hgc.1 hgc.2 ?_
  have hlk : meth.locks = false := hC.2.2.2.2.1
  exact W.vret hC.1 hC.2.1 (hC.2.2.2.1.trans hr) (fun t ht hW => ⟨none, h, w, rfl, by rw [ht]; exact hP, h1, h2, hS.F ht⟩) hS.2.2 hd hlk
theorem ZW.aret {k : Nat} {g : Nat × Nat × Nat × Nat} {pc : Nat} {ls : zLs} {h : zH} {Q : zQ} {v : Nat} {n : String} (hr : zRt k = some (.object n)) (hgc : g.2.2.1 ≤ g.1 ∧ g.2.2.2 ≤ g.2.1) (hd : decode (zC k) pc = .ok (.areturn, 1)) (w : Q (some (.ref v)) h) : ZW k g pc ls [.ref v] h Q := by
  intro p l e s m args below meth cc E L xs H locs lsA hC hT h1 h2 hP hS hl
  refine W.widen (k := g.1) (n := g.2.1) hgc.1 hgc.2 ?_
  have hlk : meth.locks = false := hC.2.2.2.2.1
  exact W.aret (rt := .object n) hC.1 hC.2.1 (hC.2.2.2.1.trans hr) (Or.inl ⟨n, rfl⟩) (Or.inr ⟨_, rfl⟩) (fun t ht hW => ⟨some (.ref v), h, w, rfl, by rw [ht]; exact hP, h1, h2, hS.F ht⟩) hS.2.2 hd hlk
theorem zz_far {m : zM} {a b : Nat} (h : b ≠ a) : zz m a b = m b := if_neg h
theorem zws_push {E : zE} {S : zS} {m : zM} {e : zK × Nat × List (Option Nat)} : zws E (S ++ [e], zz m S.length) = zws E (S, m) ++ [(E.1 + S.length, zce E e (fun _ => 0))] := by
  apply List.ext_getElem?
  intro i
  by_cases hi : i < S.length
  · have hg : S[i]? = some S[i] := List.getElem?_eq_getElem hi
    rw [List.getElem?_append_left (by rw [zws_len]; exact hi), zws_get (h := (S, m)) hg, zws_get (h := (S ++ [e], zz m S.length)) (e := S[i]) (by show (S ++ [e])[i]? = _; rw [List.getElem?_append_left hi]; exact hg)]
    show some (E.1 + i, zce E S[i] (zz m S.length i)) = _
    rw [zz_far (by omega)]
  · by_cases hj : i = S.length
    · subst hj
      rw [zws_get (h := (S ++ [e], zz m S.length)) (e := e) (by simp), List.getElem?_append_right (by rw [zws_len]; exact Nat.le_refl _), zws_len]
      simp [zz]
    · rw [List.getElem?_eq_none (by rw [zws_len]; simp; omega), List.getElem?_eq_none (by rw [List.length_append, zws_len]; simp; omega)]
theorem zP_push {E : zE} {h : zH} {H H' : Heap} {e : zK × Nat × List (Option Nat)} (hP : zP E h H) (hlen : h.1.length < 900000) (hz : H'.size = H.size + 1) (ho : ∀ q, q < H.size → H'[q]? = H[q]?) (hat : va_at E.2.1 vwCl (E.1 + h.1.length, zce E e (fun _ => 0)) H') : zP E (h.1 ++ [e], zz h.2 h.1.length) H' := by
  refine ⟨by rw [hz, hP.1, List.length_append]; rfl, by rw [List.length_append]; simp; omega, ?_⟩
  rw [show zws E (h.1 ++ [e], zz h.2 h.1.length) = zws E h ++ [(E.1 + h.1.length, zce E e (fun _ => 0))] from zws_push]
  refine (hP.2.2.kept (fun k q hk => ho q.1 ((hP.2.2 k q hk).lt))).app (fun k q hk => ?_)
  have hz : k < 1 := (List.getElem?_eq_some_iff.mp hk).1
  rw [show k = 0 by omega] at hk
  cases hk
  exact hat
theorem zS_push {E : zE} {s : State} {H H' : Heap} {locs : List Loc} (hS : va_S (zAr E) s.heap H locs) (hz : H'.size = H.size + 1) (ho : ∀ q, q < H.size → H'[q]? = H[q]?) : va_S (zAr E) s.heap H' locs :=
  ⟨Nat.le_trans hS.1 (by omega), fun x h1 h2 => (ho x (Nat.lt_of_lt_of_le h1 hS.1)).trans (hS.2.1 x h1 h2), hS.2.2⟩
theorem zCl_ok {o i c : Nat} (h : zCl o i = some c) : c < 12 ∧ (.classLink (zRN o) i (zRN c) : Cond) ∈ zTB := by
  unfold zCl at h
  rw [Option.map_eq_some_iff] at h
  obtain ⟨e, he, h2⟩ := h
  have hm := List.mem_of_find?_eq_some he
  have hi := List.find?_some he
  simp only [Bool.and_eq_true, beq_iff_eq] at hi
  cases h2
  have h1 := List.all_eq_true.mp zcl_ok e hm
  simp only [Bool.and_eq_true, decide_eq_true_eq] at h1
  rw [← hi.1, ← hi.2]
  exact ⟨h1.1, zin _ h1.2 rfl⟩
theorem ZW.new {k : Nat} {g : Nat × Nat × Nat × Nat} {pc : Nat} {ls : zLs} {r : List Value} {h : zH} {Q : zQ} {i c : Nat} (hc : zCl (zO k) i = some c) (hg1 : g.2.2.1 + 1 ≤ g.1) (hg2 : g.2.2.2 + zN c ≤ g.2.1) (hlen : h.1.length < 900000) (hd : decode (zC k) pc = .ok (.new i, 3)) (w : ZW k (g.1, g.2.1, g.2.2.1 + 1, g.2.2.2 + zN c) (pc + 3) ls (.ref h.1.length :: r) (h.1 ++ [(.inr c, 0, List.replicate (zN c) none)], zz h.2 h.1.length) Q) : ZW k g pc ls r h Q := by
  intro p l e s m args below meth cc E L xs H locs lsA hC hT h1 h2 hP hS hl
  obtain ⟨c12, hcl⟩ := zCl_ok hc
  obtain ⟨hvc, hin, hty, -, hfo⟩ := zcls c c12
  have hts := hC.2.2.2.2.2.2.1
  have hins : (.instantiable (zRN c) (zN c) : Cond) ∈ zTB := by
    have := List.all_eq_true.mp zno_all c (List.mem_range.mpr c12)
    simp only [decide_eq_true_eq] at this
    exact zin _ this rfl
  have hKn := hT.1.1 c _ hvc
  refine W.newcK hC.1 hC.2.1 hC.2.2.2.2.2.1 (hts _ hcl) (hts _ hins) (hts _ (zini c (by omega))) rfl hd hg1 hg2 hKn.2.1 hP.1 (fun H' kC hkC e1 e2 e3 => ?_)
  have ead : E.1 + h.1.length = zad E h.1.length := by
    unfold zad
    rw [if_pos (by omega)]
  have hfs : ∀ j, j < zN c → defaultValue (zTy c j) = vp_V ((List.range (zN c)).map (zfl E c (List.replicate (zN c) none) (fun _ => 0))) j := by
    intro j hj
    have hfo1 := List.all_eq_true.mp hfo j (List.mem_range.mpr hj)
    simp only [Bool.and_eq_true, decide_eq_true_eq] at hfo1
    obtain ⟨-, hf3⟩ := hfo1
    have e0 : vp_V ((List.range (zN c)).map (zfl E c (List.replicate (zN c) none) (fun _ => 0))) j = zfl E c (List.replicate (zN c) none) (fun _ => 0) j := by
      unfold vp_V
      rw [List.getD_eq_getElem?_getD, zfl_get hj]
      rfl
    rw [e0]
    unfold zfl
    generalize hz : zFk c j = z at hf3
    match z, hf3 with
    | 0, hf3 =>
      simp only [decide_eq_true_eq] at hf3
      rw [hf3]
      rfl
    | 1, hf3 =>
      simp only [decide_eq_true_eq] at hf3
      rw [hf3]
      rfl
    | 2, hf3 =>
      have : (List.replicate (zN c) (none : Option Nat)).getD j none = none := by
        rw [List.getD_eq_getElem?_getD, List.getElem?_replicate]
        simp [hj]
      rw [if_pos rfl, this]
      cases hq : zTy c j <;> rw [hq] at hf3 <;> first | rfl | cases hf3
    | n + 3, hf3 => simp at hf3
  show W p l e _ s m args below meth cc H' locs _ _ _ (F0 m (pc + 3) lsA (.ref (E.1 + h.1.length) :: r.map (zv E)))
  rw [ead]
  refine w p l e s m args below meth cc E L xs H' locs lsA hC hT ?_ ?_ (zP_push hP hlen (by rw [e2, hP.1]) (fun q hq => e3 q (by rw [← hP.1]; exact hq)) ?_) (zS_push hS (by rw [e2, hP.1]) (fun q hq => e3 q (by rw [← hP.1]; exact hq))) hl
  · show zz h.2 h.1.length 1000000 = xs
    rw [zz_far (by omega)]
    exact h1
  · show zz h.2 h.1.length 1000001 0 = _
    rw [zz_far (by omega)]
    exact h2
  · exact ⟨_, hvc, (u_born (zTy c) hts hin hKn hkC e1 hty).to hfs⟩
theorem ZW.newa0 {k : Nat} {g : Nat × Nat × Nat × Nat} {pc : Nat} {ls : zLs} {r : List Value} {h : zH} {Q : zQ} {x : Int32} (hx : ¬ x < 0) (hx2 : x.toNatClampNeg ≤ 100000) (hg1 : g.2.2.1 + 1 ≤ g.1) (hg2 : g.2.2.2 + x.toNatClampNeg ≤ g.2.1) (hlen : h.1.length < 900000) (hd : decode (zC k) pc = .ok (.newarray .int, 2)) (w : ZW k (g.1, g.2.1, g.2.2.1 + 1, g.2.2.2 + x.toNatClampNeg) (pc + 2) ls (.ref h.1.length :: r) (h.1 ++ [(.inl 0, x.toNatClampNeg, [])], zz h.2 h.1.length) Q) : ZW k g pc ls (.int x :: r) h Q := by
  intro p l e s m args below meth cc E L xs H locs lsA hC hT h1 h2 hP hS hl
  have hts := hC.2.2.2.2.2.2.1
  refine va_newaK (atype := .int) hC.1 hC.2.1 (hts _ zarr_0) rfl hd rfl hx rfl (Nat.le_trans (Nat.mul_le_mul hx2 (show componentBytes (newarray.typeOf .int) ≤ 8 by decide)) (by decide)) hg1 hg2 hP.1 (fun H' cA e1 e2 e3 hAr hNm => ?_)
  have ead : E.1 + h.1.length = zad E h.1.length := by
    unfold zad
    rw [if_pos (by omega)]
  have hcA : cA = E.2.2.1 0 := by
    have := (hT.1.2 0 _ rfl).2
    exact Option.some.inj (hNm.symm.trans this)
  show W p l e _ s m args below meth cc H' locs _ _ _ (F0 m (pc + 2) lsA (.ref (E.1 + h.1.length) :: r.map (zv E)))
  rw [ead]
  refine w p l e s m args below meth cc E L xs H' locs lsA hC hT ?_ ?_ (zP_push hP hlen (by rw [e2, hP.1]) (fun q hq => e3 q (by rw [← hP.1]; exact hq)) ?_) (zS_push hS (by rw [e2, hP.1]) (fun q hq => e3 q (by rw [← hP.1]; exact hq))) hl
  · show zz h.2 h.1.length 1000000 = xs
    rw [zz_far (by omega)]
    exact h1
  · show zz h.2 h.1.length 1000001 0 = _
    rw [zz_far (by omega)]
    exact h2
  · show H'[E.1 + h.1.length]? = some (vp_cell (E.2.2.1 0) (x.toNatClampNeg, .inl (fun _ => 0)))
    rw [e1, hcA, vp_cell_i]
    rfl
theorem ZW.newa1 {k : Nat} {g : Nat × Nat × Nat × Nat} {pc : Nat} {ls : zLs} {r : List Value} {h : zH} {Q : zQ} {x : Int32} (hx : ¬ x < 0) (hx2 : x.toNatClampNeg ≤ 100000) (hg1 : g.2.2.1 + 1 ≤ g.1) (hg2 : g.2.2.2 + x.toNatClampNeg ≤ g.2.1) (hlen : h.1.length < 900000) (hd : decode (zC k) pc = .ok (.newarray .byte, 2)) (w : ZW k (g.1, g.2.1, g.2.2.1 + 1, g.2.2.2 + x.toNatClampNeg) (pc + 2) ls (.ref h.1.length :: r) (h.1 ++ [(.inl 1, x.toNatClampNeg, [])], zz h.2 h.1.length) Q) : ZW k g pc ls (.int x :: r) h Q := by
  intro p l e s m args below meth cc E L xs H locs lsA hC hT h1 h2 hP hS hl
  have hts := hC.2.2.2.2.2.2.1
  refine va_newaK (atype := .byte) hC.1 hC.2.1 (hts _ zarr_1) rfl hd rfl hx rfl (Nat.le_trans (Nat.mul_le_mul hx2 (show componentBytes (newarray.typeOf .byte) ≤ 8 by decide)) (by decide)) hg1 hg2 hP.1 (fun H' cA e1 e2 e3 hAr hNm => ?_)
  have ead : E.1 + h.1.length = zad E h.1.length := by
    unfold zad
    rw [if_pos (by omega)]
  have hcA : cA = E.2.2.1 1 := by
    have := (hT.1.2 1 _ rfl).2
    exact Option.some.inj (hNm.symm.trans this)
  show W p l e _ s m args below meth cc H' locs _ _ _ (F0 m (pc + 2) lsA (.ref (E.1 + h.1.length) :: r.map (zv E)))
  rw [ead]
  refine w p l e s m args below meth cc E L xs H' locs lsA hC hT ?_ ?_ (zP_push hP hlen (by rw [e2, hP.1]) (fun q hq => e3 q (by rw [← hP.1]; exact hq)) ?_) (zS_push hS (by rw [e2, hP.1]) (fun q hq => e3 q (by rw [← hP.1]; exact hq))) hl
  · show zz h.2 h.1.length 1000000 = xs
    rw [zz_far (by omega)]
    exact h1
  · show zz h.2 h.1.length 1000001 0 = _
    rw [zz_far (by omega)]
    exact h2
  · show H'[E.1 + h.1.length]? = some (vp_cell (E.2.2.1 1) (x.toNatClampNeg, .inl (fun _ => 0)))
    rw [e1, hcA, vp_cell_i]
    rfl
theorem ZW.newa2 {k : Nat} {g : Nat × Nat × Nat × Nat} {pc : Nat} {ls : zLs} {r : List Value} {h : zH} {Q : zQ} {x : Int32} (hx : ¬ x < 0) (hx2 : x.toNatClampNeg ≤ 100000) (hg1 : g.2.2.1 + 1 ≤ g.1) (hg2 : g.2.2.2 + x.toNatClampNeg ≤ g.2.1) (hlen : h.1.length < 900000) (hd : decode (zC k) pc = .ok (.newarray .boolean, 2)) (w : ZW k (g.1, g.2.1, g.2.2.1 + 1, g.2.2.2 + x.toNatClampNeg) (pc + 2) ls (.ref h.1.length :: r) (h.1 ++ [(.inl 2, x.toNatClampNeg, [])], zz h.2 h.1.length) Q) : ZW k g pc ls (.int x :: r) h Q := by
  intro p l e s m args below meth cc E L xs H locs lsA hC hT h1 h2 hP hS hl
  have hts := hC.2.2.2.2.2.2.1
  refine va_newaK (atype := .boolean) hC.1 hC.2.1 (hts _ zarr_2) rfl hd rfl hx rfl (Nat.le_trans (Nat.mul_le_mul hx2 (show componentBytes (newarray.typeOf .boolean) ≤ 8 by decide)) (by decide)) hg1 hg2 hP.1 (fun H' cA e1 e2 e3 hAr hNm => ?_)
  have ead : E.1 + h.1.length = zad E h.1.length := by
    unfold zad
    rw [if_pos (by omega)]
  have hcA : cA = E.2.2.1 2 := by
    have := (hT.1.2 2 _ rfl).2
    exact Option.some.inj (hNm.symm.trans this)
  show W p l e _ s m args below meth cc H' locs _ _ _ (F0 m (pc + 2) lsA (.ref (E.1 + h.1.length) :: r.map (zv E)))
  rw [ead]
  refine w p l e s m args below meth cc E L xs H' locs lsA hC hT ?_ ?_ (zP_push hP hlen (by rw [e2, hP.1]) (fun q hq => e3 q (by rw [← hP.1]; exact hq)) ?_) (zS_push hS (by rw [e2, hP.1]) (fun q hq => e3 q (by rw [← hP.1]; exact hq))) hl
  · show zz h.2 h.1.length 1000000 = xs
    rw [zz_far (by omega)]
    exact h1
  · show zz h.2 h.1.length 1000001 0 = _
    rw [zz_far (by omega)]
    exact h2
  · show H'[E.1 + h.1.length]? = some (vp_cell (E.2.2.1 2) (x.toNatClampNeg, .inl (fun _ => 0)))
    rw [e1, hcA, vp_cell_i]
    rfl
theorem ZW.newa3 {k : Nat} {g : Nat × Nat × Nat × Nat} {pc : Nat} {ls : zLs} {r : List Value} {h : zH} {Q : zQ} {x : Int32} (hx : ¬ x < 0) (hx2 : x.toNatClampNeg ≤ 100000) (hg1 : g.2.2.1 + 1 ≤ g.1) (hg2 : g.2.2.2 + x.toNatClampNeg ≤ g.2.1) (hlen : h.1.length < 900000) (hd : decode (zC k) pc = .ok (.newarray .char, 2)) (w : ZW k (g.1, g.2.1, g.2.2.1 + 1, g.2.2.2 + x.toNatClampNeg) (pc + 2) ls (.ref h.1.length :: r) (h.1 ++ [(.inl 3, x.toNatClampNeg, [])], zz h.2 h.1.length) Q) : ZW k g pc ls (.int x :: r) h Q := by
  intro p l e s m args below meth cc E L xs H locs lsA hC hT h1 h2 hP hS hl
  have hts := hC.2.2.2.2.2.2.1
  refine va_newaK (atype := .char) hC.1 hC.2.1 (hts _ zarr_3) rfl hd rfl hx rfl (Nat.le_trans (Nat.mul_le_mul hx2 (show componentBytes (newarray.typeOf .char) ≤ 8 by decide)) (by decide)) hg1 hg2 hP.1 (fun H' cA e1 e2 e3 hAr hNm => ?_)
  have ead : E.1 + h.1.length = zad E h.1.length := by
    unfold zad
    rw [if_pos (by omega)]
  have hcA : cA = E.2.2.1 3 := by
    have := (hT.1.2 3 _ rfl).2
    exact Option.some.inj (hNm.symm.trans this)
  show W p l e _ s m args below meth cc H' locs _ _ _ (F0 m (pc + 2) lsA (.ref (E.1 + h.1.length) :: r.map (zv E)))
  rw [ead]
  refine w p l e s m args below meth cc E L xs H' locs lsA hC hT ?_ ?_ (zP_push hP hlen (by rw [e2, hP.1]) (fun q hq => e3 q (by rw [← hP.1]; exact hq)) ?_) (zS_push hS (by rw [e2, hP.1]) (fun q hq => e3 q (by rw [← hP.1]; exact hq))) hl
  · show zz h.2 h.1.length 1000000 = xs
    rw [zz_far (by omega)]
    exact h1
  · show zz h.2 h.1.length 1000001 0 = _
    rw [zz_far (by omega)]
    exact h2
  · show H'[E.1 + h.1.length]? = some (vp_cell (E.2.2.1 3) (x.toNatClampNeg, .inl (fun _ => 0)))
    rw [e1, hcA, vp_cell_i]
    rfl
theorem zsw_spec {x : Int32} {d : Nat} {f : Nat → Prop} : ∀ (ps : List (Int × Nat)), zsw x ps d f → ∃ t, f t ∧ ((∃ c, (c, t) ∈ ps ∧ x = Int32.ofInt c) ∨ (t = d ∧ ∀ q ∈ ps, ¬ x = Int32.ofInt q.1))
  | [], h => ⟨d, h, Or.inr ⟨rfl, fun _ q => by cases q⟩⟩
  | (c, t) :: r, h => by
    by_cases e : x = Int32.ofInt c
    · exact ⟨t, h.1 e, Or.inl ⟨c, List.mem_cons_self, e⟩⟩
    · obtain ⟨t', h1, h2⟩ := zsw_spec r (h.2 e)
      refine ⟨t', h1, ?_⟩
      rcases h2 with ⟨c', h3, h4⟩ | ⟨h3, h4⟩
      · exact Or.inl ⟨c', List.mem_cons_of_mem _ h3, h4⟩
      · refine Or.inr ⟨h3, fun q hq => ?_⟩
        rcases List.mem_cons.mp hq with rfl | hq
        · exact e
        · exact h4 q hq
theorem z32 {c : Int} (h1 : -2147483648 ≤ c) (h2 : c < 2147483648) : (Int32.ofInt c).toInt = c := Int32.toInt_ofInt_of_le h1 h2
theorem z32e (x : Int32) : x = Int32.ofInt x.toInt := (Int32.ofInt_toInt x).symm
theorem ZW.table {k : Nat} {g : Nat × Nat × Nat × Nat} {pc : Nat} {ls : zLs} {r : List Value} {h : zH} {Q : zQ} {x : Int32} {d lo hi : Int} {offs : Array Int} {len : Nat} (hh : hi = lo + (offs.size : Int) - 1) (hlo : -2147483648 ≤ lo) (hhi : hi < 2147483648) (hd0 : 0 < d) (hof : offs.toList.all (fun o => decide (0 < o)) = true) (hd : decode (zC k) pc = .ok (.tableswitch d lo hi offs, len)) (w : zsw x (offs.toList.zipIdx.map (fun q => (lo + (q.2 : Int), ztg pc q.1))) (ztg pc d) (fun t => ZW k g t ls r h Q)) : ZW k g pc ls (.int x :: r) h Q := by
  intro p l e s m args below meth cc E L xs H locs lsA hC hT h1 h2 hP hS hl
  obtain ⟨t, ht, hcase⟩ := zsw_spec _ w
  have hw := ht p l e s m args below meth cc E L xs H locs lsA hC hT h1 h2 hP hS hl
  rcases hcase with ⟨c, hm, hx⟩ | ⟨rfl, hno⟩
  · obtain ⟨q, hq, he⟩ := List.mem_map.mp hm
    obtain ⟨o, i⟩ := q
    rw [List.mem_zipIdx_iff_getElem?] at hq
    cases he
    have hi' : i < offs.toList.length := (List.getElem?_eq_some_iff.mp hq).1
    rw [Array.length_toList] at hi'
    have hx2 : x.toInt = lo + (i : Int) := by
      rw [hx]
      exact z32 (by omega) (by omega)
    have ho : (0 : Int) < o := by
      have := List.all_eq_true.mp hof o (List.mem_of_getElem? hq)
      simpa using this
    exact lv_tableIn hC.1 hC.2.1 hd (by omega) (by omega) (off := o) (by
      rw [show (x.toInt - lo).toNat = i by omega, ← Array.getElem?_toList]
      exact hq) (ztg_eq (by omega)) hw
  · refine lv_tableOut hC.1 hC.2.1 hd ?_ (ztg_eq (by omega)) hw
    apply Decidable.byContradiction
    intro hn
    have hi' : (x.toInt - lo).toNat < offs.toList.length := by
      rw [Array.length_toList]
      omega
    have hg : offs.toList[(x.toInt - lo).toNat]? = some offs.toList[(x.toInt - lo).toNat] := List.getElem?_eq_getElem hi'
    refine hno (lo + ((x.toInt - lo).toNat : Int), ztg pc offs.toList[(x.toInt - lo).toNat]) (List.mem_map.mpr ⟨(offs.toList[(x.toInt - lo).toNat], (x.toInt - lo).toNat), List.mem_zipIdx_iff_getElem?.mpr hg, rfl⟩) ?_
    show x = Int32.ofInt (lo + ((x.toInt - lo).toNat : Int))
    rw [show lo + ((x.toInt - lo).toNat : Int) = x.toInt by omega]
    exact z32e x
theorem zlook {x : Int32} {d : Int} {pc : Nat} {f : Nat → Prop} : ∀ (ps : List (Int × Int)), ps.all (fun q => decide (-2147483648 ≤ q.1 ∧ q.1 < 2147483648 ∧ 0 < q.2)) = true → 0 < d → zsw x (ps.map (fun q => (q.1, ztg pc q.2))) (ztg pc d) f → f (ztg pc (Op.lookupswitch.offset ps d x.toInt)) ∧ 0 < Op.lookupswitch.offset ps d x.toInt
  | [], _, hd, h => ⟨h, hd⟩
  | (c, o) :: r, ha, hd, h => by
    simp only [List.all_cons, Bool.and_eq_true, decide_eq_true_eq] at ha
    obtain ⟨⟨a1, a2, a3⟩, ha2⟩ := ha
    rw [Op.lookupswitch.offset_cons]
    by_cases e : c = x.toInt
    · rw [if_pos e]
      refine ⟨h.1 ?_, a3⟩
      rw [e]
      exact z32e x
    · rw [if_neg e]
      refine zlook r ha2 hd (h.2 (fun hx => e ?_))
      rw [hx]
      exact (z32 a1 a2).symm
theorem ZW.look {k : Nat} {g : Nat × Nat × Nat × Nat} {pc : Nat} {ls : zLs} {r : List Value} {h : zH} {Q : zQ} {x : Int32} {d : Int} {ps : Array (Int × Int)} {len : Nat} (hp : (ps.toList.zip (ps.toList.drop 1)).all (fun (a, next) => a.1 < next.1) = true) (hd0 : 0 < d) (hof : ps.toList.all (fun q => decide (-2147483648 ≤ q.1 ∧ q.1 < 2147483648 ∧ 0 < q.2)) = true) (hd : decode (zC k) pc = .ok (.lookupswitch d ps, len)) (w : zsw x (ps.toList.map (fun q => (q.1, ztg pc q.2))) (ztg pc d) (fun t => ZW k g t ls r h Q)) : ZW k g pc ls (.int x :: r) h Q := by
  intro p l e s m args below meth cc E L xs H locs lsA hC hT h1 h2 hP hS hl
  obtain ⟨ht, h0⟩ := zlook ps.toList hof hd0 w
  exact lv_lookup hC.1 hC.2.1 hd hp rfl (ztg_eq (by omega)) (ht p l e s m args below meth cc E L xs H locs lsA hC hT h1 h2 hP hS hl)
