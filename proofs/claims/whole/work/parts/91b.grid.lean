/-! four rows of forty ints: the one place that makes an array of arrays. The state behind n rows is written down at once (zgU): its heap is the old one, the outer array with n references in it, n rows -/
def zoc (cA : ClassId) (h n : Nat) : Cell := arrV cA 4 (fun i => if i < n then .ref (h + 1 + i) else .null)
def zic (cI : ClassId) : Cell := arrV cI 40 (fun _ => .int 0)
def zrw (x : Cell) : Nat → Heap → Heap
  | 0, K => K
  | n + 1, K => (zrw x n K).push x
def zgU (S : State) (y b : ClassId) (n : Nat) : State := { S with heap := zrw (zic b) n (S.heap.push (zoc y S.heap.size n)), slotsUsed := S.slotsUsed + (4 + n * 40) }
theorem zoc_size (y : ClassId) (a n : Nat) : (zoc y a n).slots.size = 4 := arrV_size _ _ _
theorem zic_size (b : ClassId) : (zic b).slots.size = 40 := arrV_size _ _ _
theorem zoc_none (y : ClassId) (a : Nat) : arrV y 4 (fun _ => .null) = zoc y a 0 := congrArg (arrV y 4) (funext fun i => (if_neg (Nat.not_lt_zero i)).symm)
theorem zoc_next (cA : ClassId) (h n : Nat) : (zoc cA h n).setSlot n (.ref (h + 1 + n)) = zoc cA h (n + 1) := by
  unfold zoc
  rw [arrV_store]
  congr 1
  funext i
  unfold updV
  by_cases hi : i = n
  · subst hi
    rw [if_pos rfl, if_pos (Nat.lt_succ_self _)]
  · rw [if_neg hi]
    show (if i < n then Value.ref (h + 1 + i) else Value.null) = _
    by_cases h2 : i < n
    · rw [if_pos h2, if_pos (by omega)]
    · rw [if_neg h2, if_neg (by omega)]
theorem zrw_size (x : Cell) (K : Heap) (n : Nat) : (zrw x n K).size = K.size + n := by
  induction n with
  | zero => rfl
  | succ n ih => exact (Array.size_push _).trans (congrArg (· + 1) ih)
theorem zrw_at (x o : Cell) (K : Heap) (n : Nat) : (zrw x n (K.push o))[K.size]? = some o := by
  induction n with
  | zero => exact Array.getElem?_push_size
  | succ n ih =>
    have := zrw_size x (K.push o) n
    rw [Array.size_push] at this
    exact (Array.getElem?_push.trans (if_neg (by omega))).trans ih
/-- the outer array, under its rows, is changed in place -/
theorem zrw_set (x o w : Cell) (K : Heap) (n : Nat) : (zrw x n (K.push o)).setIfInBounds K.size w = zrw x n (K.push w) := by
  induction n with
  | zero =>
    apply Array.ext_getElem?
    intro j
    show ((K.push o).setIfInBounds K.size w)[j]? = (K.push w)[j]?
    rw [Array.getElem?_setIfInBounds, Array.getElem?_push, Array.getElem?_push, Array.size_push]
    by_cases hj : K.size = j
    · rw [if_pos hj, if_pos (by omega), if_pos hj.symm]
    · rw [if_neg hj, if_neg (Ne.symm hj), if_neg (Ne.symm hj)]
  | succ n ih =>
    have hn := zrw_size x (K.push o) n
    rw [Array.size_push] at hn
    have hs : ((zrw x n (K.push o)).push x).setIfInBounds K.size w = ((zrw x n (K.push o)).setIfInBounds K.size w).push x := by
      apply Array.ext_getElem?
      intro j
      rw [Array.getElem?_setIfInBounds, Array.getElem?_push, Array.getElem?_push, Array.size_push, Array.size_setIfInBounds, Array.getElem?_setIfInBounds]
      by_cases hj : K.size = j
      · rw [if_pos hj, if_pos (by omega), if_neg (by omega), if_pos hj, if_pos (by omega)]
      · rw [if_neg hj, if_neg hj]
    exact hs.trans (congrArg (fun A : Heap => A.push x) ih)
section ZGU
variable (S : State) (y b : ClassId) (n : Nat)
theorem zgU_size : (zgU S y b n).heap.size = S.heap.size + 1 + n := (zrw_size _ _ n).trans (congrArg (· + n) (Array.size_push _))
theorem zgU_0 : S.pushCell (zoc y S.heap.size 0) = zgU S y b 0 := congrArg (fun k => ({ S with heap := S.heap.push (zoc y S.heap.size 0), slotsUsed := S.slotsUsed + k } : State)) (zoc_size y S.heap.size 0)
theorem zgU_s : ((zgU S y b n).pushCell (zic b)).setCell S.heap.size ((zoc y S.heap.size n).setSlot n (.ref (S.heap.size + 1 + n))) = zgU S y b (n + 1) := by
  have h1 := zrw_set (zic b) (zoc y S.heap.size n) (zoc y S.heap.size (n + 1)) S.heap (n + 1)
  have h2 : S.slotsUsed + (4 + n * 40) + (zic b).slots.size = S.slotsUsed + (4 + (n + 1) * 40) := by
    rw [zic_size]
    omega
  rw [zoc_next]
  exact congr (congrArg (fun (A : Heap) (k : Nat) => ({ S with heap := A, slotsUsed := k } : State)) h1) h2
theorem zgU_top (f : JFrame) : zgU (S.setTop f) y b n = (zgU S y b n).setTop f := rfl
end ZGU
section ZGS
variable {p : Program} {l : Launch} {e : Env} {R : Room} {s T : State} {m : MethodId} {args : Array Value} {below : List Frame} {meth : Method} {c : Code} {locs : List Loc} {cells slots : Nat}
/-- it stands at each of these states; nothing but the outer array has been written -/
theorem zgU_st (X : Stand p l e R s m args below meth c T locs cells slots) (y b : ClassId) (n : Nat) : ∃ L : List Loc, Stand p l e R s m args below meth c (zgU T y b n) L (cells + 1 + n) (slots + 4 + n * 40) ∧ ∀ q ∈ L, q ∈ locs ∨ q.base = T.heap.size := by
  induction n with
  | zero =>
    have w := X.pushed (zoc y T.heap.size 0)
    rw [zgU_0 T y b, zoc_size] at w
    exact ⟨locs, w, fun q hq => .inl hq⟩
  | succ n ih =>
    obtain ⟨L, w, hL⟩ := ih
    have w1 := w.pushed (zic b)
    rw [zic_size] at w1
    have w2 := w1.stored (zrw_at (zic b) (zoc y T.heap.size n) T.heap (n + 1)) n (.ref (T.heap.size + 1 + n))
    rw [zgU_s] at w2
    have hs : slots + 4 + (n + 1) * 40 = slots + 4 + n * 40 + 40 := by omega
    rw [hs]
    refine ⟨_, w2, fun q hq => (List.mem_append.mp hq).elim (hL q) fun h => .inr ?_⟩
    cases List.mem_singleton.mp h
    rfl
/-- what the word on the array of arrays says -/
theorem zao_spec {args : Array Value} {s : State} (h : (Jvm.Cond.arrayOver (.array .int)).before args s = true) : ∃ q b x, s.vm.findClass (FieldType.array .int).toString = some q ∧ s.vm.classes[b]? = some x ∧ x.kind = .array q (.array .int) ∧ s.vm.findClass ("[" ++ (FieldType.array .int).toString) = some b :=
  (arrayOverA_spec h).elim fun q h1 => h1.elim fun b h2 => h2.elim fun x h3 => ⟨q, b, x, h3.1, h3.2.2.1, h3.2.2.2.1, h3.2.2.2.2⟩
/-- the class entry is looked up: the tables behind it, and both classes of arrays in them -/
theorem zgr_ent (X : Stand p l e R s m args below meth c T locs cells slots) {o : String} {i : Nat} (x1 : s.vm.findClass o = some m.cls) (x2 : (Jvm.Cond.classLink o i "[[I").before args s = true) (x3 : (Jvm.Cond.arrayOver (.array .int)).before args s = true) (x4 : (Jvm.Cond.arrayClass .int).before args s = true) :
    ∃ (V : Vm) (y b z : ClassId) (Y B : Class), (s.vm.findClass "[[I" = some y ∧ s.vm.findClass "[I" = some b) ∧ (s.WarmedH V ∧ V.classes.size ≤ T.vm.classes.size ∧ (Jvm.resolveClass m.cls i).Gives e.toSetting T.vm (.ok y) V) ∧ (V.classes[y]? = some Y ∧ Y.kind = .array b (.array .int)) ∧ V.classes[b]? = some B ∧ B.kind = .array z .int := by
  obtain ⟨b, y, Y, u1, u2, u3, u4⟩ := zao_spec x3
  obtain ⟨b', B, z, v1, v2, v3⟩ := Jvm.Cond.arrayClass_spec x4
  obtain ⟨y', n1, n2⟩ := Jvm.Cond.classLink_spec x1 x2 e.platform (by rw [X.admits.platform])
  have r1 : y' = y := Option.some.inj (n1.symm.trans u4)
  have r2 : b' = b := Option.some.inj (v1.symm.trans u1)
  rw [r1] at n2
  rw [r2] at v2
  have ent := State.classEntry (e := e) X.warmed n2
  have al := ent.2.1.alike
  obtain ⟨Y1, y1, y2⟩ := al.2.2 y Y u2
  obtain ⟨B1, b1, b2⟩ := al.2.2 b B v2
  exact ⟨_, y, b, z, Y1, B1, ⟨u4, u1⟩, ⟨ent.2.1, Nat.le_of_eq (al.2.1.trans X.warmed.alike.2.1.symm), ent.1⟩, ⟨y1, by rw [y2]; exact u3⟩, b1, by rw [b2]; exact v3⟩
end ZGS
section ZGM
variable {E : CtlPost} {e : Env} {d : Bool} {acts : List Action} {S : State} {y b z : ClassId} {Y B : Class}
/-- one row -/
theorem zgr_row (k2 : S.vm.classes[b]? = some B ∧ B.kind = .array z .int) (hp : e.platform.arrayLengthLimit = 2147483645 ∧ e.platform.maxHeapBytes = 536870912) (hc : S.heap.size < e.platform.maxCells) (hs : S.slotsUsed + 40 ≤ e.platform.maxSlots) {Q : Addr → Pre} (hq : ∀ as, Q S.heap.size d as (S.pushCell (zic b))) : wp (Op.multianewarray.make b [40]) Q E e d acts S := by
  have hl : ¬ (40 : Int32) < 0 := by decide
  simp only [Op.multianewarray.make, hl, k2.1, k2.2, wp_bind', wp_pure', W.ite, W.theClass, if_false, exists_eq_left', Option.some.injEq]
  refine W.newArray_of (howMany := 40) (init := .int 0) k2.1 k2.2 (by rw [hp.1]; decide) (by rw [hp.2]; decide) hc hs rfl fun as => ?_
  exact (congrArg (fun w => Q S.heap.size d as (S.pushCell w)) (arrV_new b 40 (.int 0))).mpr (hq as)
/-- a row, and its place in the outer array -/
theorem zgr_one (k1 : S.vm.classes[y]? = some Y ∧ Y.kind = .array b (.array .int)) (k2 : S.vm.classes[b]? = some B ∧ B.kind = .array z .int) (hp : e.platform.arrayLengthLimit = 2147483645 ∧ e.platform.maxHeapBytes = 536870912) (hr : S.heap.size + 5 ≤ e.platform.maxCells ∧ S.slotsUsed + 164 ≤ e.platform.maxSlots) {n : Nat} (hn : n < 4) {Q : ForInStep PUnit → Pre}
    (hq : ∀ d2 as, Q (.yield PUnit.unit) d2 as (zgU S y b (n + 1))) : wp (Op.multianewarray.make b [40]) (fun a => wp (do Jvm.writeLoc S.heap.size n (.ref a); Pure.pure (ForInStep.yield PUnit.unit)) Q E e) E e d acts (zgU S y b n) := by
  have hv : (zgU S y b n).vm.classes[y]? = some Y := k1.1
  have hz := zgU_size S y b n
  refine zgr_row (S := zgU S y b n) k2 hp (by omega) (show S.slotsUsed + (4 + n * 40) + 40 ≤ _ by omega) fun as => ?_
  simp only [wp_bind', wp_pure', W.writeLoc]
  refine ⟨zoc y S.heap.size n, zrw_at (zic b) (zoc y S.heap.size n) S.heap (n + 1), (fun q => by cases q), by rw [zoc_size]; exact hn, ?_, ?_⟩
  · show State.fitsSlot _ y .none n _ = true
    simp [State.fitsSlot, State.slotType?, hv, k1.2, fits]
  · rw [hz, zgU_s]
    exact hq _ _
/-- all four -/
theorem zgr_make (k1 : S.vm.classes[y]? = some Y ∧ Y.kind = .array b (.array .int)) (k2 : S.vm.classes[b]? = some B ∧ B.kind = .array z .int) (hp : e.platform.arrayLengthLimit = 2147483645 ∧ e.platform.maxHeapBytes = 536870912) (hr : S.heap.size + 5 ≤ e.platform.maxCells ∧ S.slotsUsed + 164 ≤ e.platform.maxSlots) {Q : Addr → Pre}
    (hq : ∀ d2 as, Q S.heap.size d2 as (zgU S y b 4)) : wp (Op.multianewarray.make y [4, 40]) Q E e d acts S := by
  have h4 : ¬ (4 : Int32) < 0 ∧ ((4 : Int32) == 0) = false ∧ List.range' [:(4 : Int32).toNatClampNeg].start [:(4 : Int32).toNatClampNeg].size [:(4 : Int32).toNatClampNeg].step = [0, 1, 2, 3] := by decide
  have h0 : S.pushCell { cls := y, slots := Array.replicate 4 .null } = zgU S y b 0 := (congrArg S.pushCell ((arrV_new y 4 .null).trans (zoc_none y S.heap.size))).trans (zgU_0 S y b)
  rw [Op.multianewarray.make]
  simp only [h4.1, k1.1, k1.2, wp_bind', wp_pure', W.ite, W.theClass, if_false, exists_eq_left', Option.some.injEq]
  refine W.newArray_of (howMany := 4) (init := .null) k1.1 k1.2 (by rw [hp.1]; decide) (by rw [hp.2]; decide) (by omega) (by omega) rfl fun as => ?_
  rw [h0]
  simp only [h4.2.1, Bool.false_eq_true, if_false, wp_pure', wp_bind', W.ite]
  rw [Std.Legacy.Range.forIn_eq_forIn_range', h4.2.2]
  simp only [List.forIn_cons, List.forIn_nil, wp_bind', wp_pure']
  refine zgr_one (n := 0) k1 k2 hp hr (by decide) fun _ _ => ?_
  simp only [wp_bind']
  refine zgr_one (n := 1) k1 k2 hp hr (by decide) fun _ _ => ?_
  simp only [wp_bind']
  refine zgr_one (n := 2) k1 k2 hp hr (by decide) fun _ _ => ?_
  simp only [wp_bind']
  refine zgr_one (n := 3) k1 k2 hp hr (by decide) fun _ _ => ?_
  simp only [wp_pure']
  exact hq _ _
/-- the instruction's meaning at 4 rows of 40 -/
theorem zgr_sem {T : State} {Q : Unit → Pre} {V : Vm} {f : JFrame} {i : Nat} {r : List Value} (t1 : T.topJava?.isSome) (t2 : (zgU (T.setVm V) y b 4).topJava?.isSome)
    (g1 : V.classes.size ≤ T.vm.classes.size) (g2 : (Jvm.resolveClass f.method.cls i).Gives e.toSetting T.vm (.ok y) V) (k1 : V.classes[y]? = some Y ∧ Y.kind = .array b (.array .int)) (k2 : V.classes[b]? = some B ∧ B.kind = .array z .int)
    (hf : f.stack = .int 40 :: .int 4 :: r) (hp : e.platform.arrayLengthLimit = 2147483645 ∧ e.platform.maxHeapBytes = 536870912) (hr : T.heap.size + 5 ≤ e.platform.maxCells ∧ T.slotsUsed + 164 ≤ e.platform.maxSlots)
    (hQ : ∀ d2 as, Q () d2 as ((zgU (T.setVm V) y b 4).setTop { f with stack := .ref T.heap.size :: r })) : wp (Op.multianewarray.sem i 2) Q E e d acts (T.setTop f) := by
  unfold Op.multianewarray.sem
  rw [wp_bind', W.resolveClassAt_links (State.method?_setTop f t1) g2 g1, wp_bind']
  refine (Op.popN_top (s := T.setVm V) (args := [.int 4, .int 40]) (rest := r) t1 hf).mpr ?_
  simp only [List.mapM_cons, List.mapM_nil, wp_bind', wp_pure']
  refine zgr_make (S := (T.setVm V).setTop { f with stack := r }) k1 k2 hp hr fun d2 as => ?_
  rw [zgU_top, wp_bind', W.mark]
  refine (W.pushRef _).mpr ⟨{ f with stack := r }, State.topJava?_setTop' _ t2, ?_⟩
  rw [State.setTop_setTop]
  exact hQ _ _
end ZGM
theorem zgr_run {p : Program} {l : Launch} {e : Env} {R : Room} {s T t : State} {m : MethodId} {args : Array Value} {below : List Frame} {meth : Method} {c : Code} {locs : List Loc} {cells slots : Nat} {V : Vm} {y b z : ClassId} {Y B : Class} {i : Nat} {r : List Value} {f : JFrame} (X : Stand p l e R s m args below meth c T locs cells slots) (hexec : p.tables.exec = Jvm.exec) (hm : f.method = m) (hd : decode c.code f.pc = .ok (.multianewarray i 2, 4)) (t2 : (zgU (T.setVm V) y b 4).topJava?.isSome)
    (g1 : V.classes.size ≤ T.vm.classes.size) (g2 : (Jvm.resolveClass m.cls i).Gives e.toSetting T.vm (.ok y) V) (k1 : V.classes[y]? = some Y ∧ Y.kind = .array b (.array .int)) (k2 : V.classes[b]? = some B ∧ B.kind = .array z .int) (hf : f.stack = .int 40 :: .int 4 :: r) (h1 : cells + 5 ≤ R.cells) (h2 : slots + 164 ≤ R.slots)
    (a : Steps p.tables e below ((zgU (T.setVm V) y b 4).setTop { f with pc := f.pc + 4, stack := .ref T.heap.size :: r }) t) : Steps p.tables e below (T.setTop f) t := by
  subst hm
  jvm_step X.here [hexec, hd]
  refine zgr_sem X.here.top t2 g1 g2 k1 k2 hf ⟨Launch.admits_arrayLengthLimit X.admits, Launch.admits_maxHeapBytes X.admits⟩ (X.roomAbove h1 h2) fun d2 as => ?_
  intro as2
  simp [jvm, t2]
  exact a
theorem zgr_cl : (.classLink RX0 25 "[[I" : Jvm.Cond) ∈ zTB := zin 268 (by decide +kernel) rfl
def grS (S : zS) : zS := ((((S ++ [(.inl 4, 4, [some (S.length + 1), some (S.length + 2), some (S.length + 3), some (S.length + 4)])]) ++ [(.inl 0, 40, [])]) ++ [(.inl 0, 40, [])]) ++ [(.inl 0, 40, [])]) ++ [(.inl 0, 40, [])]
def grM (m : zM) (n : Nat) : zM := zz (zz (zz (zz (zz m n) (n + 1)) (n + 2)) (n + 3)) (n + 4)
theorem gr_heap {T : State} {H : Heap} (hT : T.heap = H) (y b : ClassId) : (zgU T y b 4).heap = ((((H.push (zoc y H.size 4)).push (zic b)).push (zic b)).push (zic b)).push (zic b) := by
  subst hT
  rfl
theorem zP_row {E : zE} {S : zS} {m : zM} {H : Heap} {n : Nat} (hP : zP E (S, m) H) (hn : S.length = n) (hlen : n < 900000) : zP E (S ++ [(.inl 0, 40, [])], zz m n) (H.push (zic (E.2.2.1 0))) := by
  subst hn
  have hz := hP.1
  refine zP_push (h := (S, m)) hP hlen (Array.size_push _) (fun q hq => ?_) ?_
  · rw [Array.getElem?_push, if_neg (by omega)]
  · show (H.push (zic (E.2.2.1 0)))[E.1 + S.length]? = some (vp_cell (E.2.2.1 0) (40, .inl (fun _ => 0)))
    rw [Array.getElem?_push, if_pos (by rw [hz])]
    rfl
theorem ZW.mna {k : Nat} {g : Nat × Nat × Nat × Nat} {pc : Nat} {ls : zLs} {r : List Value} {h : zH} {Q : zQ} (hk : zO k = 0) (hg1 : g.2.2.1 + 5 ≤ g.1) (hg2 : g.2.2.2 + 164 ≤ g.2.1) (hlen : h.1.length < 800000) (hd : decode (zC k) pc = .ok (.multianewarray 25 2, 4))
    (w : ZW k (g.1, g.2.1, g.2.2.1 + 5, g.2.2.2 + 164) (pc + 4) ls (.ref h.1.length :: r) (grS h.1, grM h.2 h.1.length) Q) : ZW k g pc ls (.int 40 :: .int 4 :: r) h Q := by
  intro p l e s m args below meth cc E L xs H locs lsA hC hT h1 h2 hP hS hl
  intro T hTH X
  have hown := hC.2.2.2.2.2.1
  rw [hk] at hown
  have hts := hC.2.2.2.2.2.2.1
  have hao : (Jvm.Cond.arrayOver (.array .int)).before args s = true := hT.2.2.2.2.2.2.2.2.2.2
  obtain ⟨vm₁, cA, cI, cz, kA, kI, ⟨fA, fI⟩, ⟨hwm, j1, j2⟩, j3, j4⟩ := zgr_ent X (o := RX0) (i := 25) hown (hts _ zgr_cl) hao (hts _ zarr_0)
  obtain ⟨locs1, XF, hlocs⟩ := zgU_st (X.noted hwm) cA cI 4
  have hcA : cA = E.2.2.1 4 := Option.some.inj (fA.symm.trans (hT.1.2 4 _ rfl).2)
  have hcI : cI = E.2.2.1 0 := Option.some.inj (fI.symm.trans (hT.1.2 0 _ rfl).2)
  subst hcA
  subst hcI
  have hheap := gr_heap (T := T.setVm vm₁) (H := H) hTH (E.2.2.1 4) (E.2.2.1 0)
  obtain ⟨S, mm⟩ := h
  have hz : H.size = E.1 + S.length := hP.1
  have hlen' : S.length < 800000 := hlen
  have ead : ∀ i, i < 5 → zad E (S.length + i) = H.size + i := by
    intro i hi
    unfold zad
    rw [if_pos (by omega), hz]
    omega
  have hP1 : zP E (S ++ [(.inl 4, 4, [some (S.length + 1), some (S.length + 2), some (S.length + 3), some (S.length + 4)])], zz mm S.length) (H.push (zoc (E.2.2.1 4) H.size 4)) := by
    refine zP_push (h := (S, mm)) hP (show S.length < 900000 by omega) (Array.size_push _) (fun q hq => ?_) ?_
    · rw [Array.getElem?_push, if_neg (by omega)]
    · show (H.push (zoc (E.2.2.1 4) H.size 4))[E.1 + S.length]? = some (vp_cell (E.2.2.1 4) (4, .inr (.inr (.inr (.inr (fun j => (([some (S.length + 1), some (S.length + 2), some (S.length + 3), some (S.length + 4)] : List (Option Nat)).getD j none).map (zad E)))))))
      rw [Array.getElem?_push, if_pos (by rw [hz]), vp_cell_q]
      unfold zoc
      congr 2
      funext j
      match j with
      | 0 => rw [if_pos (by decide)]; show _ = Value.ref (zad E (S.length + 1)); rw [ead 1 (by decide)]
      | 1 => rw [if_pos (by decide)]; show _ = Value.ref (zad E (S.length + 2)); rw [ead 2 (by decide)]
      | 2 => rw [if_pos (by decide)]; show _ = Value.ref (zad E (S.length + 3)); rw [ead 3 (by decide)]
      | 3 => rw [if_pos (by decide)]; show _ = Value.ref (zad E (S.length + 4)); rw [ead 4 (by decide)]
      | j + 4 => rw [if_neg (by omega)]; rfl
  have hP2 := zP_row (n := S.length + 1) hP1 (by simp) (by omega)
  have hP3 := zP_row (n := S.length + 2) hP2 (by simp) (by omega)
  have hP4 := zP_row (n := S.length + 3) hP3 (by simp) (by omega)
  have hP5 := zP_row (n := S.length + 4) hP4 (by simp) (by omega)
  rw [← hheap] at hP5
  have hsz : (zgU (T.setVm vm₁) (E.2.2.1 4) (E.2.2.1 0) 4).heap.size = H.size + 5 := by
    rw [hheap]
    simp only [Array.size_push]
  have hold : ∀ q, q < H.size → (zgU (T.setVm vm₁) (E.2.2.1 4) (E.2.2.1 0) 4).heap[q]? = H[q]? := by
    intro q hq
    rw [hheap]
    simp only [Array.getElem?_push, Array.size_push]
    rw [if_neg (by omega), if_neg (by omega), if_neg (by omega), if_neg (by omega), if_neg (by omega)]
  have hS1 : va_S (zAr E) s.heap (zgU (T.setVm vm₁) (E.2.2.1 4) (E.2.2.1 0) 4).heap locs1 := by
    refine ⟨by have := hS.1; omega, fun q q1 q2 => ?_, fun q hq => ?_⟩
    · rw [hold q (Nat.lt_of_lt_of_le q1 hS.1)]
      exact hS.2.1 q q1 q2
    · rcases hlocs q hq with h | h
      · exact hS.2.2 q h
      · show E.1 ≤ q.base
        rw [h, show (T.setVm vm₁).heap = H from hTH, hz]
        omega
  have h9 := w p l e s m args below meth cc E L xs _ locs1 lsA hC hT (by show grM mm S.length 1000000 = xs; unfold grM; rw [zz_far (by omega), zz_far (by omega), zz_far (by omega), zz_far (by omega), zz_far (by omega)]; exact h1) (by show grM mm S.length 1000001 0 = _; unfold grM; rw [zz_far (by omega), zz_far (by omega), zz_far (by omega), zz_far (by omega), zz_far (by omega)]; exact h2) hP5 hS1 hl
  obtain ⟨t, b1, b2⟩ := h9 _ rfl XF
  refine ⟨t, zgr_run X hC.1 (f := F0 m pc lsA (.int 40 :: .int 4 :: r.map (zv E))) rfl (by rw [hC.2.1]; exact hd) XF.here.top j1 j2 j3 j4 rfl hg1 hg2 ?_, b2⟩
  have e9 : (.ref S.length :: r : List Value).map (zv E) = .ref T.heap.size :: r.map (zv E) := by
    show Value.ref (zad E S.length) :: _ = _
    rw [show S.length = S.length + 0 from rfl, ead 0 (by decide), hTH]
    rfl
  have b3 : Steps p.tables e below ((zgU (T.setVm vm₁) (E.2.2.1 4) (E.2.2.1 0) 4).setTop (F0 m (pc + 4) lsA ((.ref S.length :: r : List Value).map (zv E)))) t := b1
  rw [e9] at b3
  exact b3
