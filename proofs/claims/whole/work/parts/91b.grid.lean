/-! four rows of forty ints: the one place that makes an array of arrays -/
def zoc (cA : ClassId) (h n : Nat) : Cell := arrV cA 4 (fun i => if i < n then .ref (h + 1 + i) else .null)
def zic (cI : ClassId) : Cell := arrV cI 40 (fun _ => .int 0)
def zfS (S : State) (cA cI : ClassId) : Nat → State
  | 0 => S.pushCell (zoc cA S.heap.size 0)
  | n + 1 => ((zfS S cA cI n).pushCell (zic cI)).setCell S.heap.size (zoc cA S.heap.size (n + 1))
theorem zoc_next (cA : ClassId) (h n : Nat) : (zoc cA h n).setSlot n (.ref (h + 1 + n)) = zoc cA h (n + 1) := by
  unfold zoc
  rw [arrV_store]
  congr 1
  funext i
  unfold updV
  by_cases hi : i = n
  · subst hi
    rw [if_pos rfl, if_pos (Nat.lt_succ_self _)]
  · rw [if_neg hi]
    show (if i < n then Value.ref (h + 1 + i) else Value.null) = _
    by_cases h2 : i < n
    · rw [if_pos h2, if_pos (by omega)]
    · rw [if_neg h2, if_neg (by omega)]
theorem zfS_all (S : State) (cA cI : ClassId) : ∀ n : Nat, (zfS S cA cI n).heap.size = S.heap.size + 1 + n ∧ (zfS S cA cI n).heap[S.heap.size]? = some (zoc cA S.heap.size n) ∧ (zfS S cA cI n).vm = S.vm ∧ (zfS S cA cI n).slotsUsed = S.slotsUsed + 4 + n * 40 ∧ (∀ q, q < S.heap.size → (zfS S cA cI n).heap[q]? = S.heap[q]?) ∧ ∀ j, j < n → (zfS S cA cI n).heap[S.heap.size + 1 + j]? = some (zic cI) := by
  intro n
  induction n with
  | zero =>
    refine ⟨by simp [zfS], by simp [zfS], rfl, by simp [zfS, zoc, arrV_size], fun q hq => State.heap_pushCell_of_lt _ _ hq, fun j hj => absurd hj (Nat.not_lt_zero _)⟩
  | succ n ih =>
    obtain ⟨a1, a2, a3, a4, a5, a6⟩ := ih
    have hlt : S.heap.size < (zfS S cA cI n).heap.size := by omega
    have hb : ((zfS S cA cI n).pushCell (zic cI)).heap[S.heap.size]? = some (zoc cA S.heap.size n) := by
      rw [State.heap_pushCell_of_lt (h := hlt)]
      exact a2
    refine ⟨?_, State.heap_setCell_self hb, by simp [zfS, a3], ?_, fun q hq => ?_, fun j hj => ?_⟩
    · simp [zfS, State.setCell, a1]
      omega
    · simp [zfS, a4, zic, arrV_size]
      omega
    · show (((zfS S cA cI n).pushCell (zic cI)).setCell S.heap.size _).heap[q]? = _
      rw [State.heap_setCell_other (Nat.ne_of_gt hq), State.heap_pushCell_of_lt (h := show q < (zfS S cA cI n).heap.size by omega)]
      exact a5 q hq
    · show (((zfS S cA cI n).pushCell (zic cI)).setCell S.heap.size _).heap[S.heap.size + 1 + j]? = _
      rw [State.heap_setCell_other (show S.heap.size ≠ S.heap.size + 1 + j by omega)]
      by_cases hjn : j < n
      · rw [State.heap_pushCell_of_lt (h := show S.heap.size + 1 + j < (zfS S cA cI n).heap.size by omega)]
        exact a6 j hjn
      · rw [show S.heap.size + 1 + j = (zfS S cA cI n).heap.size by omega]
        exact State.heap_pushCell_size _ _
theorem zfS_top (S : State) (f : JFrame) (cA cI : ClassId) : ∀ n : Nat, zfS (S.setTop f) cA cI n = (zfS S cA cI n).setTop f := by
  intro n
  induction n with
  | zero => rfl
  | succ n ih => simp only [zfS, ih, State.heap_setTop, State.pushCell_setTop, State.setCell_setTop]
theorem zfS_stand {p : Program} {l : Launch} {e : Env} {R : Room} {s : State} {m : MethodId} {args : Array Value} {below : List Frame} {meth : Method} {c : Code} {T : State} {locs : List Loc} {cells slots : Nat} (X : Stand p l e R s m args below meth c T locs cells slots) (cA cI : ClassId) :
    ∀ n : Nat, ∃ locs1 : List Loc, Stand p l e R s m args below meth c (zfS T cA cI n) locs1 (cells + 1 + n) (slots + 4 + n * 40) ∧ ∀ q ∈ locs1, q ∈ locs ∨ q.base = T.heap.size := by
  intro n
  induction n with
  | zero =>
    have h := X.pushed (zoc cA T.heap.size 0)
    rw [show (zoc cA T.heap.size 0).slots.size = 4 from arrV_size _ _ _] at h
    exact ⟨locs, h, fun q hq => Or.inl hq⟩
  | succ n ih =>
    obtain ⟨locs1, X1, h1⟩ := ih
    obtain ⟨a1, a2, -, -, -, -⟩ := zfS_all T cA cI n
    have hb : ((zfS T cA cI n).pushCell (zic cI)).heap[T.heap.size]? = some (zoc cA T.heap.size n) := by
      rw [State.heap_pushCell_of_lt (h := show T.heap.size < (zfS T cA cI n).heap.size by omega)]
      exact a2
    have h := (X1.pushed (zic cI)).stored hb n (.ref (T.heap.size + 1 + n))
    rw [show (zic cI).slots.size = 40 from arrV_size _ _ _, zoc_next] at h
    refine ⟨locs1 ++ [⟨T.heap.size, n⟩], ?_, fun q hq => ?_⟩
    · rw [show slots + 4 + (n + 1) * 40 = slots + 4 + n * 40 + 40 by omega]
      exact h
    · rcases List.mem_append.mp hq with h | h
      · exact h1 q h
      · rw [List.mem_singleton.mp h]
        exact Or.inr rfl
section ZGR
variable {E : CtlPost} {e : Env} {d : Bool} {acts : List Action} {S : State}
theorem zwpA {c comp : ClassId} {k : Class} {ty : FieldType} {len : Nat} {v : Value} (hk : S.vm.classes[c]? = some k) (hkind : k.kind = .array comp ty) (h1 : len ≤ e.platform.arrayLengthLimit) (h2 : len * componentBytes ty ≤ e.platform.maxHeapBytes) (hf : fits ty v = true) (hv : v.isDefault = true) (h3 : S.heap.size < e.platform.maxCells) (h4 : S.slotsUsed + len ≤ e.platform.maxSlots) {Q : Addr → Pre} (hq : Q S.heap.size d acts (S.pushCell (arrV c len (fun _ => v)))) : wp (Jvm.newArray c len v) Q E e d acts S := by
  have hfit : ∀ i w, (Array.replicate len v)[i]? = some w → S.fitsSlot c .none i w = true := by
    intro i w hw
    rw [Array.getElem?_replicate] at hw
    split at hw
    · cases hw
      simp [State.fitsSlot, State.slotType?, hk, hkind, hf]
    · cases hw
  have hda : allocActs (Array.replicate len v) S.heap.size acts = acts := by
    unfold allocActs
    rw [if_pos]
    rw [Array.all_replicate]
    split
    · rfl
    · exact hv
  rw [← arrV_new] at hq
  simp only [Jvm.newArray, Jvm.arrayFits, wp_bind', W.ask, W.ite, Nat.not_lt.mpr h1, gt_iff_lt, if_false, wp_pure', W.theClass, hk, hkind, Nat.not_lt.mpr h2, W.alloc, W.stop, Option.some.injEq, exists_eq_left', Array.size_replicate, hda]
  first
    | exact ⟨h3, h4, hfit, hq⟩
    | (rw [if_neg (by omega)]; exact ⟨h3, h4, hfit, hq⟩)
theorem zwpR {cI cc : ClassId} {kI : Class} (hk : S.vm.classes[cI]? = some kI) (hkind : kI.kind = .array cc .int) (hp1 : e.platform.arrayLengthLimit = 2147483645) (hp2 : e.platform.maxHeapBytes = 536870912) (h3 : S.heap.size < e.platform.maxCells) (h4 : S.slotsUsed + 40 ≤ e.platform.maxSlots) {Q : Addr → Pre} (hq : Q S.heap.size d acts (S.pushCell (zic cI))) : wp (Op.multianewarray.make cI [40]) Q E e d acts S := by
  rw [Op.multianewarray.make]
  simp only [wp_bind', W.ite, show ¬ (40 : Int32) < 0 by decide, if_false, wp_pure', W.theClass, hk, hkind, Option.some.injEq, exists_eq_left']
  exact zwpA (len := (40 : Int32).toNatClampNeg) (v := .int 0) hk hkind (by rw [hp1]; decide) (by rw [hp2]; decide) rfl rfl h3 h4 hq
theorem zwpM {cA cI cc : ClassId} {kA kI : Class} (hkA : S.vm.classes[cA]? = some kA) (hkindA : kA.kind = .array cI (.array .int)) (hk : S.vm.classes[cI]? = some kI) (hkind : kI.kind = .array cc .int) (hp1 : e.platform.arrayLengthLimit = 2147483645) (hp2 : e.platform.maxHeapBytes = 536870912) (h3 : S.heap.size + 5 ≤ e.platform.maxCells) (h4 : S.slotsUsed + 164 ≤ e.platform.maxSlots) {Q : Addr → Pre} (hq : ∀ d' acts', Q S.heap.size d' acts' (zfS S cA cI 4)) : wp (Op.multianewarray.make cA [4, 40]) Q E e d acts S := by
  rw [Op.multianewarray.make]
  simp only [wp_bind', W.ite, show ¬ (4 : Int32) < 0 by decide, if_false, wp_pure', W.theClass, hkA, hkindA, Option.some.injEq, exists_eq_left']
  refine zwpA (len := (4 : Int32).toNatClampNeg) (v := .null) hkA hkindA (by rw [hp1]; decide) (by rw [hp2]; decide) rfl rfl (by omega) (show S.slotsUsed + 4 ≤ _ by omega) ?_
  have e0 : S.pushCell (arrV cA (4 : Int32).toNatClampNeg (fun _ => .null)) = zfS S cA cI 0 := by
    show S.pushCell _ = S.pushCell _
    congr 1
  rw [e0]
  have hb : ((4 : Int32) == 0) = false := by decide
  simp only [hb, Bool.false_eq_true, if_false, wp_pure', wp_bind', W.ite]
  rw [Std.Legacy.Range.forIn_eq_forIn_range']
  have hr : List.range' [:(4 : Int32).toNatClampNeg].start [:(4 : Int32).toNatClampNeg].size [:(4 : Int32).toNatClampNeg].step = [0, 1, 2, 3] := by decide
  rw [hr]
  have one : ∀ (n : Nat), n < 4 → ∀ (d1 : Bool) (a1 : List Action) (Q1 : ForInStep PUnit → Pre), (∀ d2 a2, Q1 (.yield PUnit.unit) d2 a2 (zfS S cA cI (n + 1))) → wp (Op.multianewarray.make cI [40]) (fun a => wp (do Jvm.writeLoc S.heap.size n (.ref a); Pure.pure (ForInStep.yield PUnit.unit)) Q1 E e) E e d1 a1 (zfS S cA cI n) := by
    intro n hn d1 a1 Q1 hq1
    obtain ⟨f1, f2, f3, f4, -, -⟩ := zfS_all S cA cI n
    refine zwpR (by rw [f3]; exact hk) hkind hp1 hp2 (by omega) (by omega) ?_
    simp only [wp_bind', W.writeLoc, wp_pure']
    refine ⟨zoc cA S.heap.size n, by rw [State.heap_pushCell_of_lt (h := show S.heap.size < (zfS S cA cI n).heap.size by omega)]; exact f2, by unfold zoc arrV; simp, by unfold zoc; rw [arrV_size]; exact hn, ?_, ?_⟩
    · unfold zoc arrV
      simp [State.fitsSlot, State.slotType?, f3, hkA, hkindA, fits]
    · rw [f1, zoc_next]
      exact hq1 _ _
  simp only [List.forIn_cons, List.forIn_nil, wp_bind', wp_pure']
  refine one 0 (by decide) _ _ _ (fun d2 a2 => ?_)
  simp only [wp_bind']
  refine one 1 (by decide) _ _ _ (fun d2 a2 => ?_)
  simp only [wp_bind']
  refine one 2 (by decide) _ _ _ (fun d2 a2 => ?_)
  simp only [wp_bind']
  refine one 3 (by decide) _ _ _ (fun d2 a2 => ?_)
  simp only [wp_pure']
  exact hq _ _
end ZGR
theorem zao_spec {args : Array Value} {s : State} (h : (Jvm.Cond.arrayOver (.array .int)).before args s = true) : ∃ comp c k, s.vm.findClass (FieldType.array .int).toString = some comp ∧ s.vm.classes[c]? = some k ∧ k.kind = .array comp (.array .int) ∧ s.vm.findClass ("[" ++ (FieldType.array .int).toString) = some c := by
  simp only [Jvm.Cond.before, Jvm.Cond.holds, Jvm.Cond.value, beq_iff_eq] at h
  cases hc : s.vm.findClass (FieldType.array .int).toString with
  | none => simp [hc] at h
  | some comp =>
    simp only [hc, Option.bind_some, Option.bind_eq_some_iff, Option.map_eq_some_iff] at h
    obtain ⟨c, hi, k, hk, hb⟩ := h
    obtain ⟨hlt, hp, -⟩ := Array.findIdx?_eq_some_iff_getElem.mp hi
    have hkk : s.vm.classes[c] = k := (Array.getElem?_eq_some_iff.mp hk).2
    rw [hkk] at hp
    cases hkind : k.kind with
    | array component ty =>
      rw [hkind] at hb hp
      simp at hb hp
      exact ⟨comp, c, k, rfl, hk, by rw [hkind, hp, hb.1], hb.2⟩
    | _ => rw [hkind] at hb; simp at hb
/-- the step -/
theorem zmna_step {p : Program} {l : Launch} {e : Env} {R : Room} {s : State} {m : MethodId} {args : Array Value} {below : List Frame} {meth : Method} {c : Code} {T : State} {locs : List Loc} {cells slots : Nat} (X : Stand p l e R s m args below meth c T locs cells slots) (hexec : p.tables.exec = Jvm.exec) {own : String} {index : Nat}
    (hown : s.vm.findClass own = some m.cls) (hclink : (Jvm.Cond.classLink own index "[[I").before args s = true) (hover : (Jvm.Cond.arrayOver (.array .int)).before args s = true) (harr : (Jvm.Cond.arrayClass .int).before args s = true)
    {g : JFrame} (hg : g.method = m) (hdg : decode c.code g.pc = .ok (.multianewarray index 2, 4)) {rest : List Value} (hstack : g.stack = .int 40 :: .int 4 :: rest) (hcells : cells + 5 ≤ R.cells) (hslots : slots + 164 ≤ R.slots) :
    ∃ (vm₁ : Vm) (cA cI : ClassId) (locs1 : List Loc), s.vm.findClass "[[I" = some cA ∧ s.vm.findClass "[I" = some cI ∧ Stand p l e R s m args below meth c (zfS (T.setVm vm₁) cA cI 4) locs1 (cells + 5) (slots + 164) ∧ (∀ q ∈ locs1, q ∈ locs ∨ q.base = T.heap.size) ∧
      ∀ target, Steps p.tables e below ((zfS (T.setVm vm₁) cA cI 4).setTop { g with pc := g.pc + 4, stack := .ref T.heap.size :: rest }) target → Steps p.tables e below (T.setTop g) target := by
  subst hg
  have hpl : e.platform.magicAccessors = ({} : Platform).magicAccessors := by rw [X.admits.platform]
  obtain ⟨cI, cA, kA, hcomp, hkA, hkindA, hnameA⟩ := zao_spec hover
  obtain ⟨cI', kI, cc, hcomp', hkI, hkindI⟩ := Jvm.Cond.arrayClass_spec harr
  have ecomp : cI' = cI := Option.some.inj (hcomp'.symm.trans hcomp)
  subst ecomp
  obtain ⟨c0, hfc0, hcl⟩ := Jvm.Cond.classLink_spec hown hclink e.platform hpl
  cases (show s.vm.findClass "[[I" = some cA from hnameA).symm.trans hfc0
  obtain ⟨hg1, hwarm1, hready1⟩ := State.classEntry (e := e) X.warmed hcl
  generalize T.vm.noted g.method.cls index (.cls cA) = vm₁ at hg1 hwarm1 hready1
  have hal : s.vm.Alike vm₁ := hwarm1.alike
  obtain ⟨kA1, hkA1, heA⟩ := hal.2.2 _ _ hkA
  obtain ⟨kI1, hkI1, heI⟩ := hal.2.2 _ _ hkI
  have X1 := X.noted hwarm1
  obtain ⟨hr1, hr2⟩ := X.roomAbove hcells hslots
  obtain ⟨locs1, XF, hlocs⟩ := zfS_stand X1 cA cI' 4
  refine ⟨vm₁, cA, cI', locs1, hnameA, hcomp, XF, hlocs, fun target hrest => ?_⟩
  jvm_step X.here [hexec, hdg]
  simp only [Op.multianewarray.sem, wp_bind', W.resolveClassAt_links (State.method?_setTop g X.here.top) hg1]
  rw [W.popN, if_neg (by decide)]
  refine ⟨g, State.topJava?_setTop' (s := T.setVm vm₁) g X.here.top, [.int 4, .int 40], rest, rfl, hstack, ?_⟩
  simp only [List.mapM_cons, List.mapM_nil, wp_bind', wp_pure']
  refine zwpM (kA := kA1) (kI := kI1) (cc := cc) hkA1 (by rw [heA]; exact hkindA) hkI1 (by rw [heI]; exact hkindI) (Launch.admits_arrayLengthLimit X.admits) (Launch.admits_maxHeapBytes X.admits) (by show T.heap.size + 5 ≤ _; omega) (by show T.slotsUsed + 164 ≤ _; omega) (fun d' acts' => ?_)
  have eS : ((T.setTop g).setVm vm₁).setTop { g with stack := rest } = (T.setVm vm₁).setTop { g with stack := rest } := by
    show ((T.setVm vm₁).setTop g).setTop _ = _
    rw [State.setTop_setTop]
  rw [eS, zfS_top]
  simp only [wp_bind', W.mark, W.pushRef, State.topJava?_setTop' _ XF.here.top, Option.some.injEq, exists_eq_left', State.setTop_setTop, State.heap_setTop]
  intro acts
  simp [jvm, XF.here.top]
  exact hrest
theorem zgr_cl : (.classLink RX0 25 "[[I" : Jvm.Cond) ∈ zTB := zin 268 (by decide +kernel) rfl
def grS (S : zS) : zS := ((((S ++ [(.inl 4, 4, [some (S.length + 1), some (S.length + 2), some (S.length + 3), some (S.length + 4)])]) ++ [(.inl 0, 40, [])]) ++ [(.inl 0, 40, [])]) ++ [(.inl 0, 40, [])]) ++ [(.inl 0, 40, [])]
def grM (m : zM) (n : Nat) : zM := zz (zz (zz (zz (zz m n) (n + 1)) (n + 2)) (n + 3)) (n + 4)
theorem gr_heap {T : State} {H : Heap} (hT : T.heap = H) (cA cI : ClassId) : (zfS T cA cI 4).heap = ((((H.push (zoc cA H.size 4)).push (zic cI)).push (zic cI)).push (zic cI)).push (zic cI) := by
  obtain ⟨a1, a2, -, -, a5, a6⟩ := zfS_all T cA cI 4
  rw [hT] at a1 a2 a5 a6
  apply Array.ext_getElem?
  intro i
  simp only [Array.getElem?_push, Array.size_push]
  by_cases h4 : i = H.size + 1 + 1 + 1 + 1
  · rw [if_pos h4, h4]
    exact a6 3 (by decide)
  · rw [if_neg h4]
    by_cases h3 : i = H.size + 1 + 1 + 1
    · rw [if_pos h3, h3]
      exact a6 2 (by decide)
    · rw [if_neg h3]
      by_cases h2 : i = H.size + 1 + 1
      · rw [if_pos h2, h2]
        exact a6 1 (by decide)
      · rw [if_neg h2]
        by_cases h1 : i = H.size + 1
        · rw [if_pos h1, h1]
          exact a6 0 (by decide)
        · rw [if_neg h1]
          by_cases h0 : i = H.size
          · rw [if_pos h0, h0]
            exact a2
          · rw [if_neg h0]
            by_cases hi : i < H.size
            · exact a5 i hi
            · rw [Array.getElem?_eq_none (by omega), Array.getElem?_eq_none (by omega)]
theorem zP_row {E : zE} {S : zS} {m : zM} {H : Heap} {n : Nat} (hP : zP E (S, m) H) (hn : S.length = n) (hlen : n < 900000) : zP E (S ++ [(.inl 0, 40, [])], zz m n) (H.push (zic (E.2.2.1 0))) := by
  subst hn
  have hz := hP.1
  refine zP_push (h := (S, m)) hP hlen (Array.size_push _) (fun q hq => ?_) ?_
  · rw [Array.getElem?_push, if_neg (by omega)]
  · show (H.push (zic (E.2.2.1 0)))[E.1 + S.length]? = some (vp_cell (E.2.2.1 0) (40, .inl (fun _ => 0)))
    rw [Array.getElem?_push, if_pos (by rw [hz])]
    rfl
theorem ZW.mna {k : Nat} {g : Nat × Nat × Nat × Nat} {pc : Nat} {ls : zLs} {r : List Value} {h : zH} {Q : zQ} (hk : zO k = 0) (hg1 : g.2.2.1 + 5 ≤ g.1) (hg2 : g.2.2.2 + 164 ≤ g.2.1) (hlen : h.1.length < 800000) (hd : decode (zC k) pc = .ok (.multianewarray 25 2, 4))
    (w : ZW k (g.1, g.2.1, g.2.2.1 + 5, g.2.2.2 + 164) (pc + 4) ls (.ref h.1.length :: r) (grS h.1, grM h.2 h.1.length) Q) : ZW k g pc ls (.int 40 :: .int 4 :: r) h Q := by
  intro p l e s m args below meth cc E L xs H locs lsA hC hT h1 h2 hP hS hl
  intro T hTH X
  have hown := hC.2.2.2.2.2.1
  rw [hk] at hown
  have hts := hC.2.2.2.2.2.2.1
  have hao : (Jvm.Cond.arrayOver (.array .int)).before args s = true := hT.2.2.2.2.2.2.2.2.2.2
  obtain ⟨vm₁, cA, cI, locs1, fA, fI, XF, hlocs, step⟩ := zmna_step X hC.1 (own := RX0) (index := 25) hown (hts _ zgr_cl) hao (hts _ zarr_0) (g := F0 m pc lsA (.int 40 :: .int 4 :: r.map (zv E))) rfl (by rw [hC.2.1]; exact hd) rfl hg1 hg2
  have hcA : cA = E.2.2.1 4 := Option.some.inj (fA.symm.trans (hT.1.2 4 _ rfl).2)
  have hcI : cI = E.2.2.1 0 := Option.some.inj (fI.symm.trans (hT.1.2 0 _ rfl).2)
  subst hcA
  subst hcI
  have hheap := gr_heap (T := T.setVm vm₁) (H := H) hTH (E.2.2.1 4) (E.2.2.1 0)
  obtain ⟨S, mm⟩ := h
  have hz : H.size = E.1 + S.length := hP.1
  have hlen' : S.length < 800000 := hlen
  have ead : ∀ i, i < 5 → zad E (S.length + i) = H.size + i := by
    intro i hi
    unfold zad
    rw [if_pos (by omega), hz]
    omega
  have hP1 : zP E (S ++ [(.inl 4, 4, [some (S.length + 1), some (S.length + 2), some (S.length + 3), some (S.length + 4)])], zz mm S.length) (H.push (zoc (E.2.2.1 4) H.size 4)) := by
    refine zP_push (h := (S, mm)) hP (show S.length < 900000 by omega) (Array.size_push _) (fun q hq => ?_) ?_
    · rw [Array.getElem?_push, if_neg (by omega)]
    · show (H.push (zoc (E.2.2.1 4) H.size 4))[E.1 + S.length]? = some (vp_cell (E.2.2.1 4) (4, .inr (.inr (.inr (.inr (fun j => (([some (S.length + 1), some (S.length + 2), some (S.length + 3), some (S.length + 4)] : List (Option Nat)).getD j none).map (zad E)))))))
      rw [Array.getElem?_push, if_pos (by rw [hz]), vp_cell_q]
      unfold zoc
      congr 2
      funext j
      match j with
      | 0 => rw [if_pos (by decide)]; show _ = Value.ref (zad E (S.length + 1)); rw [ead 1 (by decide)]
      | 1 => rw [if_pos (by decide)]; show _ = Value.ref (zad E (S.length + 2)); rw [ead 2 (by decide)]
      | 2 => rw [if_pos (by decide)]; show _ = Value.ref (zad E (S.length + 3)); rw [ead 3 (by decide)]
      | 3 => rw [if_pos (by decide)]; show _ = Value.ref (zad E (S.length + 4)); rw [ead 4 (by decide)]
      | j + 4 => rw [if_neg (by omega)]; rfl
  have hP2 := zP_row (n := S.length + 1) hP1 (by simp) (by omega)
  have hP3 := zP_row (n := S.length + 2) hP2 (by simp) (by omega)
  have hP4 := zP_row (n := S.length + 3) hP3 (by simp) (by omega)
  have hP5 := zP_row (n := S.length + 4) hP4 (by simp) (by omega)
  rw [← hheap] at hP5
  have hsz : (zfS (T.setVm vm₁) (E.2.2.1 4) (E.2.2.1 0) 4).heap.size = H.size + 5 := by
    rw [hheap]
    simp only [Array.size_push]
  have hold : ∀ q, q < H.size → (zfS (T.setVm vm₁) (E.2.2.1 4) (E.2.2.1 0) 4).heap[q]? = H[q]? := by
    intro q hq
    have := (zfS_all (T.setVm vm₁) (E.2.2.1 4) (E.2.2.1 0) 4).2.2.2.2.1 q (by rw [show (T.setVm vm₁).heap = H from hTH]; exact hq)
    rw [show (T.setVm vm₁).heap = H from hTH] at this
    exact this
  have hS1 : va_S (zAr E) s.heap (zfS (T.setVm vm₁) (E.2.2.1 4) (E.2.2.1 0) 4).heap locs1 := by
    refine ⟨by have := hS.1; omega, fun q q1 q2 => ?_, fun q hq => ?_⟩
    · rw [hold q (Nat.lt_of_lt_of_le q1 hS.1)]
      exact hS.2.1 q q1 q2
    · rcases hlocs q hq with h | h
      · exact hS.2.2 q h
      · show E.1 ≤ q.base
        rw [h, hTH, hz]
        omega
  have h9 := w p l e s m args below meth cc E L xs _ locs1 lsA hC hT (by show grM mm S.length 1000000 = xs; unfold grM; rw [zz_far (by omega), zz_far (by omega), zz_far (by omega), zz_far (by omega), zz_far (by omega)]; exact h1) (by show grM mm S.length 1000001 0 = _; unfold grM; rw [zz_far (by omega), zz_far (by omega), zz_far (by omega), zz_far (by omega), zz_far (by omega)]; exact h2) hP5 hS1 hl
  obtain ⟨t, b1, b2⟩ := h9 _ rfl XF
  refine ⟨t, step t ?_, b2⟩
  have e9 : (.ref S.length :: r : List Value).map (zv E) = .ref T.heap.size :: r.map (zv E) := by
    show Value.ref (zad E S.length) :: _ = _
    rw [show S.length = S.length + 0 from rfl, ead 0 (by decide), hTH]
    rfl
  have b3 : Steps p.tables e below ((zfS (T.setVm vm₁) (E.2.2.1 4) (E.2.2.1 0) 4).setTop (F0 m (pc + 4) lsA ((.ref S.length :: r : List Value).map (zv E)))) t := b1
  rw [e9] at b3
  exact b3
