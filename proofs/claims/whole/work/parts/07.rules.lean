/-! THE EVALUATOR IS SOUND -/
theorem zgD {α : Type} {l : List α} {n : Nat} {d : α} (h : l.length ≤ n) : l.getD n d = d := by
  rw [List.getD_eq_getElem?_getD, List.getElem?_eq_none h]
  rfl
theorem W.mono {p : Program} {l : Launch} {e : Env} {R : Room} {s : State} {m : MethodId} {args : Array Value} {below : List Frame} {meth : Method} {c : Code} {H : Heap} {locs : List Loc} {cells slots : Nat} {Q Q' : State → Prop} {g : JFrame} (hq : ∀ t, Q t → Q' t) (k : W p l e R s m args below meth c H locs cells slots Q g) : W p l e R s m args below meth c H locs cells slots Q' g := fun T hT X => by
  obtain ⟨t, a, b⟩ := k T hT X
  exact ⟨t, a, hq t b⟩
theorem ZW.mono {k : Nat} {g : Nat × Nat × Nat × Nat} {pc : Nat} {ls : zLs} {st : List Value} {h : zH} {Q Q' : zQ} (hq : ∀ r h, Q r h → Q' r h) (w : ZW k g pc ls st h Q) : ZW k g pc ls st h Q' := by
  intro p l e s m args below meth cc E L xs H locs lsA hC hT h1 h2 hP hS hl
  refine W.mono (fun t ht => ?_) (w p l e s m args below meth cc E L xs H locs lsA hC hT h1 h2 hP hS hl)
  obtain ⟨o, a1, a2, ⟨r, h', b1, b2⟩, a4⟩ := ht
  exact ⟨o, a1, a2, ⟨r, h', hq _ _ b1, b2⟩, a4⟩
/-! inversions -/
theorem zi1_inv {st : List Value} {f : Int32 → List Value → Prop} (h : zi1 st f) : ∃ x r, st = .int x :: r ∧ f x r := by
  unfold zi1 at h
  split at h
  · exact ⟨_, _, rfl, h⟩
  · exact h.elim
theorem zi2_inv {st : List Value} {f : Int32 → Int32 → List Value → Prop} (h : zi2 st f) : ∃ x y r, st = .int y :: .int x :: r ∧ f x y r := by
  unfold zi2 at h
  split at h
  · exact ⟨_, _, _, rfl, h⟩
  · exact h.elim
theorem zl1_inv {st : List Value} {f : Int64 → List Value → Prop} (h : zl1 st f) : ∃ x r, st = .long x :: r ∧ f x r := by
  unfold zl1 at h
  split at h
  · exact ⟨_, _, rfl, h⟩
  · exact h.elim
theorem zl2_inv {st : List Value} {f : Int64 → Int64 → List Value → Prop} (h : zl2 st f) : ∃ x y r, st = .long y :: .long x :: r ∧ f x y r := by
  unfold zl2 at h
  split at h
  · exact ⟨_, _, _, rfl, h⟩
  · exact h.elim
theorem zli_inv {st : List Value} {f : Int64 → Int32 → List Value → Prop} (h : zli st f) : ∃ x y r, st = .int y :: .long x :: r ∧ f x y r := by
  unfold zli at h
  split at h
  · exact ⟨_, _, _, rfl, h⟩
  · exact h.elim
theorem za1_inv {st : List Value} {f : Nat → List Value → Prop} (h : za1 st f) : ∃ x r, st = .ref x :: r ∧ f x r := by
  unfold za1 at h
  split at h
  · exact ⟨_, _, rfl, h⟩
  · exact h.elim
theorem zai_inv {st : List Value} {f : Nat → Int32 → List Value → Prop} (h : zai st f) : ∃ a i r, st = .int i :: .ref a :: r ∧ f a i r := by
  unfold zai at h
  split at h
  · exact ⟨_, _, _, rfl, h⟩
  · exact h.elim
theorem zaii_inv {st : List Value} {f : Nat → Int32 → Int32 → List Value → Prop} (h : zaii st f) : ∃ a i x r, st = .int x :: .int i :: .ref a :: r ∧ f a i x r := by
  unfold zaii at h
  split at h
  · exact ⟨_, _, _, _, rfl, h⟩
  · exact h.elim
theorem zav_inv {st : List Value} {f : Nat → Value → List Value → Prop} (h : zav st f) : ∃ a v r, st = v :: .ref a :: r ∧ f a v r := by
  unfold zav at h
  split at h
  · exact ⟨_, _, _, rfl, h⟩
  · exact h.elim
theorem zld_inv {ls : zLs} {i : Nat} {f : Value → Prop} (h : zld ls i f) : ∃ v, (i, v) ∈ ls ∧ f v := by
  unfold zld at h
  split at h
  · rename_i q hq
    have h1 := List.mem_of_find?_eq_some hq
    have h2 := List.find?_some hq
    simp only [beq_iff_eq] at h2
    subst h2
    exact ⟨_, h1, h⟩
  · exact h.elim
theorem zIv_inv {v : Value} {f : Int32 → Prop} (h : zIv v f) : ∃ x, v = .int x ∧ f x := by
  unfold zIv at h
  split at h
  · exact ⟨_, rfl, h⟩
  · exact h.elim
theorem zLv_inv {v : Value} {f : Int64 → Prop} (h : zLv v f) : ∃ x, v = .long x ∧ f x := by
  unfold zLv at h
  split at h
  · exact ⟨_, rfl, h⟩
  · exact h.elim
theorem zRv_inv {v : Value} {f : Nat → Prop} (h : zRv v f) : ∃ x, v = .ref x ∧ f x := by
  unfold zRv at h
  split at h
  · exact ⟨_, rfl, h⟩
  · exact h.elim
theorem zo1_inv {o : Option Nat} {f : Nat → Prop} (h : zo1 o f) : ∃ x, o = some x ∧ f x := by
  unfold zo1 at h
  split at h
  · exact ⟨_, rfl, h⟩
  · exact h.elim
theorem zob2_inv {o : Option (Nat × Nat)} {f : Nat → Nat → Prop} (h : zob2 o f) : ∃ x y, o = some (x, y) ∧ f x y := by
  unfold zob2 at h
  split at h
  · exact ⟨_, _, rfl, h⟩
  · exact h.elim
theorem zob_inv {h : zH} {a c : Nat} {f : List (Option Nat) → Prop} (w : zob h a c f) : ∃ n rs, h.1[a]? = some (.inr c, n, rs) ∧ f rs := by
  unfold zob at w
  split at w
  · rename_i d n rs hd
    by_cases e : d = c
    · subst e
      rw [if_pos rfl] at w
      exact ⟨_, _, hd, w⟩
    · rw [if_neg e] at w
      exact w.elim
  · exact w.elim
theorem zar_inv {h : zH} {a t : Nat} {f : Nat → Prop} (w : zar h a t f) : ∃ n rs, h.1[a]? = some (.inl t, n, rs) ∧ f n := by
  unfold zar at w
  split at w
  · rename_i d n rs hd
    by_cases e : d = t
    · subst e
      rw [if_pos rfl] at w
      exact ⟨_, _, hd, w⟩
    · rw [if_neg e] at w
      exact w.elim
  · exact w.elim
/-! the instructions -/
theorem zgetL {E : zE} {k : Nat} {ls : zLs} {lsA : Array Slot} (hl : lv_has lsA (zL k) (ls.map (fun q => (q.1, zv E q.2)))) {i : Nat} {v : Value} (h : (i, v) ∈ ls) : lsA[i]? = some (.val (zv E v)) :=
  hl.2.2 (i, zv E v) (List.mem_map.mpr ⟨(i, v), h, rfl⟩)
theorem zvcat (E : zE) (v : Value) : (zv E v).category = v.category := by cases v <;> rfl
theorem zs1_map (E : zE) (ls : zLs) (i : Nat) (v : Value) : (zs1 ls i v).map (fun q => (q.1, zv E q.2)) = (i, zv E v) :: (ls.map (fun q => (q.1, zv E q.2))).filter (fun q => !(q.1 == i) && !(q.1 + 1 == i && q.2.category == 2)) := by
  unfold zs1
  rw [List.map_cons, List.filter_map]
  congr 2
  apply List.filter_congr
  intro q _
  simp only [Function.comp, zvcat]
theorem zs2_map (E : zE) (ls : zLs) (i : Nat) (v : Value) : (zs2 ls i v).map (fun q => (q.1, zv E q.2)) = (i, zv E v) :: (ls.map (fun q => (q.1, zv E q.2))).filter (fun q => !(q.1 == i) && (!(q.1 == i + 1) && !(q.1 + 1 == i && q.2.category == 2))) := by
  unfold zs2
  rw [List.map_cons, List.filter_map]
  congr 2
  apply List.filter_congr
  intro q _
  simp only [Function.comp, zvcat]
theorem ZW.iconst {k : Nat} {g : Nat × Nat × Nat × Nat} {pc : Nat} {ls : zLs} {r : List Value} {h : zH} {Q : zQ} {c : Int} (hd : decode (zC k) pc = .ok (.iconst c, 1)) (w : ZW k g (pc + 1) ls (.int (Int32.ofInt c) :: r) h Q) : ZW k g pc ls (r) h Q := by
  intro p l e s m args below meth cc E L xs H locs lsA hC hT h1 h2 hP hS hl
  exact lv_iconst hC.1 hC.2.1 hd rfl (w p l e s m args below meth cc E L xs H locs lsA hC hT h1 h2 hP hS hl)
theorem ZW.bipush {k : Nat} {g : Nat × Nat × Nat × Nat} {pc : Nat} {ls : zLs} {r : List Value} {h : zH} {Q : zQ} {c : Int} (hd : decode (zC k) pc = .ok (.bipush c, 2)) (w : ZW k g (pc + 2) ls (.int (Int8.ofInt c).toInt32 :: r) h Q) : ZW k g pc ls (r) h Q := by
  intro p l e s m args below meth cc E L xs H locs lsA hC hT h1 h2 hP hS hl
  exact lv_bipush hC.1 hC.2.1 hd rfl (w p l e s m args below meth cc E L xs H locs lsA hC hT h1 h2 hP hS hl)
theorem ZW.sipush {k : Nat} {g : Nat × Nat × Nat × Nat} {pc : Nat} {ls : zLs} {r : List Value} {h : zH} {Q : zQ} {c : Int} (hd : decode (zC k) pc = .ok (.sipush c, 3)) (w : ZW k g (pc + 3) ls (.int (Int16.ofInt c).toInt32 :: r) h Q) : ZW k g pc ls (r) h Q := by
  intro p l e s m args below meth cc E L xs H locs lsA hC hT h1 h2 hP hS hl
  exact lv_sipush hC.1 hC.2.1 hd rfl (w p l e s m args below meth cc E L xs H locs lsA hC hT h1 h2 hP hS hl)
theorem ZW.iadd {k : Nat} {g : Nat × Nat × Nat × Nat} {pc : Nat} {ls : zLs} {r : List Value} {h : zH} {Q : zQ} {x y : Int32} (hd : decode (zC k) pc = .ok (.iadd, 1)) (w : ZW k g (pc + 1) ls (.int (x + y) :: r) h Q) : ZW k g pc ls (.int y :: .int x :: r) h Q := by
  intro p l e s m args below meth cc E L xs H locs lsA hC hT h1 h2 hP hS hl
  exact lv_iadd hC.1 hC.2.1 hd (w p l e s m args below meth cc E L xs H locs lsA hC hT h1 h2 hP hS hl)
theorem ZW.isub {k : Nat} {g : Nat × Nat × Nat × Nat} {pc : Nat} {ls : zLs} {r : List Value} {h : zH} {Q : zQ} {x y : Int32} (hd : decode (zC k) pc = .ok (.isub, 1)) (w : ZW k g (pc + 1) ls (.int (x - y) :: r) h Q) : ZW k g pc ls (.int y :: .int x :: r) h Q := by
  intro p l e s m args below meth cc E L xs H locs lsA hC hT h1 h2 hP hS hl
  exact lv_isub hC.1 hC.2.1 hd (w p l e s m args below meth cc E L xs H locs lsA hC hT h1 h2 hP hS hl)
theorem ZW.imul {k : Nat} {g : Nat × Nat × Nat × Nat} {pc : Nat} {ls : zLs} {r : List Value} {h : zH} {Q : zQ} {x y : Int32} (hd : decode (zC k) pc = .ok (.imul, 1)) (w : ZW k g (pc + 1) ls (.int (x * y) :: r) h Q) : ZW k g pc ls (.int y :: .int x :: r) h Q := by
  intro p l e s m args below meth cc E L xs H locs lsA hC hT h1 h2 hP hS hl
  exact lv_imul hC.1 hC.2.1 hd (w p l e s m args below meth cc E L xs H locs lsA hC hT h1 h2 hP hS hl)
theorem ZW.iand {k : Nat} {g : Nat × Nat × Nat × Nat} {pc : Nat} {ls : zLs} {r : List Value} {h : zH} {Q : zQ} {x y : Int32} (hd : decode (zC k) pc = .ok (.iand, 1)) (w : ZW k g (pc + 1) ls (.int (x &&& y) :: r) h Q) : ZW k g pc ls (.int y :: .int x :: r) h Q := by
  intro p l e s m args below meth cc E L xs H locs lsA hC hT h1 h2 hP hS hl
  exact lv_iand hC.1 hC.2.1 hd (w p l e s m args below meth cc E L xs H locs lsA hC hT h1 h2 hP hS hl)
theorem ZW.ior {k : Nat} {g : Nat × Nat × Nat × Nat} {pc : Nat} {ls : zLs} {r : List Value} {h : zH} {Q : zQ} {x y : Int32} (hd : decode (zC k) pc = .ok (.ior, 1)) (w : ZW k g (pc + 1) ls (.int (x ||| y) :: r) h Q) : ZW k g pc ls (.int y :: .int x :: r) h Q := by
  intro p l e s m args below meth cc E L xs H locs lsA hC hT h1 h2 hP hS hl
  exact lv_ior hC.1 hC.2.1 hd (w p l e s m args below meth cc E L xs H locs lsA hC hT h1 h2 hP hS hl)
theorem ZW.ishl {k : Nat} {g : Nat × Nat × Nat × Nat} {pc : Nat} {ls : zLs} {r : List Value} {h : zH} {Q : zQ} {x y : Int32} (hd : decode (zC k) pc = .ok (.ishl, 1)) (w : ZW k g (pc + 1) ls (.int (x <<< (y &&& 31)) :: r) h Q) : ZW k g pc ls (.int y :: .int x :: r) h Q := by
  intro p l e s m args below meth cc E L xs H locs lsA hC hT h1 h2 hP hS hl
  exact lv_ishl hC.1 hC.2.1 hd (w p l e s m args below meth cc E L xs H locs lsA hC hT h1 h2 hP hS hl)
theorem ZW.ishr {k : Nat} {g : Nat × Nat × Nat × Nat} {pc : Nat} {ls : zLs} {r : List Value} {h : zH} {Q : zQ} {x y : Int32} (hd : decode (zC k) pc = .ok (.ishr, 1)) (w : ZW k g (pc + 1) ls (.int (x >>> (y &&& 31)) :: r) h Q) : ZW k g pc ls (.int y :: .int x :: r) h Q := by
  intro p l e s m args below meth cc E L xs H locs lsA hC hT h1 h2 hP hS hl
  exact lv_ishr hC.1 hC.2.1 hd (w p l e s m args below meth cc E L xs H locs lsA hC hT h1 h2 hP hS hl)
theorem ZW.idiv {k : Nat} {g : Nat × Nat × Nat × Nat} {pc : Nat} {ls : zLs} {r : List Value} {h : zH} {Q : zQ} {x y : Int32} (hne : ¬ y = 0) (hd : decode (zC k) pc = .ok (.idiv, 1)) (w : ZW k g (pc + 1) ls (.int (x / y) :: r) h Q) : ZW k g pc ls (.int y :: .int x :: r) h Q := by
  intro p l e s m args below meth cc E L xs H locs lsA hC hT h1 h2 hP hS hl
  exact lv_idiv hC.1 hC.2.1 hd hne (w p l e s m args below meth cc E L xs H locs lsA hC hT h1 h2 hP hS hl)
theorem ZW.irem {k : Nat} {g : Nat × Nat × Nat × Nat} {pc : Nat} {ls : zLs} {r : List Value} {h : zH} {Q : zQ} {x y : Int32} (hne : ¬ y = 0) (hd : decode (zC k) pc = .ok (.irem, 1)) (w : ZW k g (pc + 1) ls (.int (x - x / y * y) :: r) h Q) : ZW k g pc ls (.int y :: .int x :: r) h Q := by
  intro p l e s m args below meth cc E L xs H locs lsA hC hT h1 h2 hP hS hl
  exact lv_irem hC.1 hC.2.1 hd hne (w p l e s m args below meth cc E L xs H locs lsA hC hT h1 h2 hP hS hl)
theorem ZW.ineg {k : Nat} {g : Nat × Nat × Nat × Nat} {pc : Nat} {ls : zLs} {r : List Value} {h : zH} {Q : zQ} {x : Int32} (hd : decode (zC k) pc = .ok (.ineg, 1)) (w : ZW k g (pc + 1) ls (.int (-x) :: r) h Q) : ZW k g pc ls (.int x :: r) h Q := by
  intro p l e s m args below meth cc E L xs H locs lsA hC hT h1 h2 hP hS hl
  exact lv_ineg hC.1 hC.2.1 hd (w p l e s m args below meth cc E L xs H locs lsA hC hT h1 h2 hP hS hl)
theorem ZW.land {k : Nat} {g : Nat × Nat × Nat × Nat} {pc : Nat} {ls : zLs} {r : List Value} {h : zH} {Q : zQ} {x y : Int64} (hd : decode (zC k) pc = .ok (.land, 1)) (w : ZW k g (pc + 1) ls (.long (x &&& y) :: r) h Q) : ZW k g pc ls (.long y :: .long x :: r) h Q := by
  intro p l e s m args below meth cc E L xs H locs lsA hC hT h1 h2 hP hS hl
  exact lv_land hC.1 hC.2.1 hd (w p l e s m args below meth cc E L xs H locs lsA hC hT h1 h2 hP hS hl)
theorem ZW.lor {k : Nat} {g : Nat × Nat × Nat × Nat} {pc : Nat} {ls : zLs} {r : List Value} {h : zH} {Q : zQ} {x y : Int64} (hd : decode (zC k) pc = .ok (.lor, 1)) (w : ZW k g (pc + 1) ls (.long (x ||| y) :: r) h Q) : ZW k g pc ls (.long y :: .long x :: r) h Q := by
  intro p l e s m args below meth cc E L xs H locs lsA hC hT h1 h2 hP hS hl
  exact lv_lor hC.1 hC.2.1 hd (w p l e s m args below meth cc E L xs H locs lsA hC hT h1 h2 hP hS hl)
theorem ZW.lshl {k : Nat} {g : Nat × Nat × Nat × Nat} {pc : Nat} {ls : zLs} {r : List Value} {h : zH} {Q : zQ} {x : Int64} {y : Int32} (hd : decode (zC k) pc = .ok (.lshl, 1)) (w : ZW k g (pc + 1) ls (.long (x <<< (y.toInt64 &&& 63)) :: r) h Q) : ZW k g pc ls (.int y :: .long x :: r) h Q := by
  intro p l e s m args below meth cc E L xs H locs lsA hC hT h1 h2 hP hS hl
  exact lv_lshl hC.1 hC.2.1 hd rfl (w p l e s m args below meth cc E L xs H locs lsA hC hT h1 h2 hP hS hl)
theorem ZW.lshr {k : Nat} {g : Nat × Nat × Nat × Nat} {pc : Nat} {ls : zLs} {r : List Value} {h : zH} {Q : zQ} {x : Int64} {y : Int32} (hd : decode (zC k) pc = .ok (.lshr, 1)) (w : ZW k g (pc + 1) ls (.long (x >>> (y.toInt64 &&& 63)) :: r) h Q) : ZW k g pc ls (.int y :: .long x :: r) h Q := by
  intro p l e s m args below meth cc E L xs H locs lsA hC hT h1 h2 hP hS hl
  exact lv_lshr hC.1 hC.2.1 hd rfl (w p l e s m args below meth cc E L xs H locs lsA hC hT h1 h2 hP hS hl)
theorem ZW.lushr {k : Nat} {g : Nat × Nat × Nat × Nat} {pc : Nat} {ls : zLs} {r : List Value} {h : zH} {Q : zQ} {x : Int64} {y : Int32} (hd : decode (zC k) pc = .ok (.lushr, 1)) (w : ZW k g (pc + 1) ls (.long ((x.toUInt64 >>> (y.toInt64.toUInt64 &&& Int64.toUInt64 63)).toInt64) :: r) h Q) : ZW k g pc ls (.int y :: .long x :: r) h Q := by
  intro p l e s m args below meth cc E L xs H locs lsA hC hT h1 h2 hP hS hl
  exact lv_lushr hC.1 hC.2.1 hd rfl (w p l e s m args below meth cc E L xs H locs lsA hC hT h1 h2 hP hS hl)
theorem ZW.lcmp {k : Nat} {g : Nat × Nat × Nat × Nat} {pc : Nat} {ls : zLs} {r : List Value} {h : zH} {Q : zQ} {x y : Int64} (hd : decode (zC k) pc = .ok (.lcmp, 1)) (w : ZW k g (pc + 1) ls (.int (lg_cmp x y) :: r) h Q) : ZW k g pc ls (.long y :: .long x :: r) h Q := by
  intro p l e s m args below meth cc E L xs H locs lsA hC hT h1 h2 hP hS hl
  exact W.lcmp hC.1 hC.2.1 hd (w p l e s m args below meth cc E L xs H locs lsA hC hT h1 h2 hP hS hl)
theorem ZW.i2l {k : Nat} {g : Nat × Nat × Nat × Nat} {pc : Nat} {ls : zLs} {r : List Value} {h : zH} {Q : zQ} {x : Int32} (hd : decode (zC k) pc = .ok (.i2l, 1)) (w : ZW k g (pc + 1) ls (.long x.toInt64 :: r) h Q) : ZW k g pc ls (.int x :: r) h Q := by
  intro p l e s m args below meth cc E L xs H locs lsA hC hT h1 h2 hP hS hl
  exact lv_i2l hC.1 hC.2.1 hd rfl (w p l e s m args below meth cc E L xs H locs lsA hC hT h1 h2 hP hS hl)
theorem ZW.l2i {k : Nat} {g : Nat × Nat × Nat × Nat} {pc : Nat} {ls : zLs} {r : List Value} {h : zH} {Q : zQ} {x : Int64} (hd : decode (zC k) pc = .ok (.l2i, 1)) (w : ZW k g (pc + 1) ls (.int x.toInt32 :: r) h Q) : ZW k g pc ls (.long x :: r) h Q := by
  intro p l e s m args below meth cc E L xs H locs lsA hC hT h1 h2 hP hS hl
  exact lv_l2i hC.1 hC.2.1 hd rfl (w p l e s m args below meth cc E L xs H locs lsA hC hT h1 h2 hP hS hl)
theorem ZW.i2b {k : Nat} {g : Nat × Nat × Nat × Nat} {pc : Nat} {ls : zLs} {r : List Value} {h : zH} {Q : zQ} {x : Int32} (hd : decode (zC k) pc = .ok (.i2b, 1)) (w : ZW k g (pc + 1) ls (.int x.toInt8.toInt32 :: r) h Q) : ZW k g pc ls (.int x :: r) h Q := by
  intro p l e s m args below meth cc E L xs H locs lsA hC hT h1 h2 hP hS hl
  exact lv_i2b hC.1 hC.2.1 hd rfl (w p l e s m args below meth cc E L xs H locs lsA hC hT h1 h2 hP hS hl)
theorem ZW.i2c {k : Nat} {g : Nat × Nat × Nat × Nat} {pc : Nat} {ls : zLs} {r : List Value} {h : zH} {Q : zQ} {x : Int32} (hd : decode (zC k) pc = .ok (.i2c, 1)) (w : ZW k g (pc + 1) ls (.int (x.toUInt32 % 65536).toInt32 :: r) h Q) : ZW k g pc ls (.int x :: r) h Q := by
  intro p l e s m args below meth cc E L xs H locs lsA hC hT h1 h2 hP hS hl
  exact lv_i2c hC.1 hC.2.1 hd rfl (w p l e s m args below meth cc E L xs H locs lsA hC hT h1 h2 hP hS hl)
theorem ZW.dup {k : Nat} {g : Nat × Nat × Nat × Nat} {pc : Nat} {ls : zLs} {r : List Value} {h : zH} {Q : zQ} {v : Value} (hv : v.category = 1) (hd : decode (zC k) pc = .ok (.dup, 1)) (w : ZW k g (pc + 1) ls (v :: v :: r) h Q) : ZW k g pc ls (v :: r) h Q := by
  intro p l e s m args below meth cc E L xs H locs lsA hC hT h1 h2 hP hS hl
  exact lv_dup hC.1 hC.2.1 hd ((zvcat E v).trans hv) (w p l e s m args below meth cc E L xs H locs lsA hC hT h1 h2 hP hS hl)
theorem ZW.dup2 {k : Nat} {g : Nat × Nat × Nat × Nat} {pc : Nat} {ls : zLs} {r : List Value} {h : zH} {Q : zQ} {v u : Value} (hv : v.category = 1) (hu : u.category = 1) (hd : decode (zC k) pc = .ok (.dup2, 1)) (w : ZW k g (pc + 1) ls (v :: u :: v :: u :: r) h Q) : ZW k g pc ls (v :: u :: r) h Q := by
  intro p l e s m args below meth cc E L xs H locs lsA hC hT h1 h2 hP hS hl
  exact lv_dup2_11 hC.1 hC.2.1 hd ((zvcat E v).trans hv) ((zvcat E u).trans hu) (w p l e s m args below meth cc E L xs H locs lsA hC hT h1 h2 hP hS hl)
theorem ZW.pop {k : Nat} {g : Nat × Nat × Nat × Nat} {pc : Nat} {ls : zLs} {r : List Value} {h : zH} {Q : zQ} {v : Value} (hv : v.category = 1) (hd : decode (zC k) pc = .ok (.pop, 1)) (w : ZW k g (pc + 1) ls (r) h Q) : ZW k g pc ls (v :: r) h Q := by
  intro p l e s m args below meth cc E L xs H locs lsA hC hT h1 h2 hP hS hl
  exact lv_pop hC.1 hC.2.1 hd ((zvcat E v).trans hv) (w p l e s m args below meth cc E L xs H locs lsA hC hT h1 h2 hP hS hl)
theorem ZW.iload {k : Nat} {g : Nat × Nat × Nat × Nat} {pc : Nat} {ls : zLs} {r : List Value} {h : zH} {Q : zQ} {i : Nat} {x : Int32} (hm : (i, Value.int x) ∈ ls) (hd : decode (zC k) pc = .ok (.iload i, 2)) (w : ZW k g (pc + 2) ls (.int x :: r) h Q) : ZW k g pc ls (r) h Q := by
  intro p l e s m args below meth cc E L xs H locs lsA hC hT h1 h2 hP hS hl
  exact lv_iload hC.1 hC.2.1 hd (zgetL hl hm) (w p l e s m args below meth cc E L xs H locs lsA hC hT h1 h2 hP hS hl)
theorem ZW.iload_n {k : Nat} {g : Nat × Nat × Nat × Nat} {pc : Nat} {ls : zLs} {r : List Value} {h : zH} {Q : zQ} {i : Fin 4} {x : Int32} (hm : (i.val, Value.int x) ∈ ls) (hd : decode (zC k) pc = .ok (.iload_n i, 1)) (w : ZW k g (pc + 1) ls (.int x :: r) h Q) : ZW k g pc ls (r) h Q := by
  intro p l e s m args below meth cc E L xs H locs lsA hC hT h1 h2 hP hS hl
  exact lv_iload_n hC.1 hC.2.1 hd rfl (zgetL hl hm) (w p l e s m args below meth cc E L xs H locs lsA hC hT h1 h2 hP hS hl)
theorem ZW.lload {k : Nat} {g : Nat × Nat × Nat × Nat} {pc : Nat} {ls : zLs} {r : List Value} {h : zH} {Q : zQ} {i : Nat} {x : Int64} (hm : (i, Value.long x) ∈ ls) (hd : decode (zC k) pc = .ok (.lload i, 2)) (w : ZW k g (pc + 2) ls (.long x :: r) h Q) : ZW k g pc ls (r) h Q := by
  intro p l e s m args below meth cc E L xs H locs lsA hC hT h1 h2 hP hS hl
  exact lv_lload hC.1 hC.2.1 hd (zgetL hl hm) (w p l e s m args below meth cc E L xs H locs lsA hC hT h1 h2 hP hS hl)
theorem ZW.lload_n {k : Nat} {g : Nat × Nat × Nat × Nat} {pc : Nat} {ls : zLs} {r : List Value} {h : zH} {Q : zQ} {i : Fin 4} {x : Int64} (hm : (i.val, Value.long x) ∈ ls) (hd : decode (zC k) pc = .ok (.lload_n i, 1)) (w : ZW k g (pc + 1) ls (.long x :: r) h Q) : ZW k g pc ls (r) h Q := by
  intro p l e s m args below meth cc E L xs H locs lsA hC hT h1 h2 hP hS hl
  exact lv_lload_n hC.1 hC.2.1 hd rfl (zgetL hl hm) (w p l e s m args below meth cc E L xs H locs lsA hC hT h1 h2 hP hS hl)
theorem ZW.aload {k : Nat} {g : Nat × Nat × Nat × Nat} {pc : Nat} {ls : zLs} {r : List Value} {h : zH} {Q : zQ} {i : Nat} {x : Nat} (hm : (i, Value.ref x) ∈ ls) (hd : decode (zC k) pc = .ok (.aload i, 2)) (w : ZW k g (pc + 2) ls (.ref x :: r) h Q) : ZW k g pc ls (r) h Q := by
  intro p l e s m args below meth cc E L xs H locs lsA hC hT h1 h2 hP hS hl
  exact lv_aload hC.1 hC.2.1 hd (zgetL hl hm) (w p l e s m args below meth cc E L xs H locs lsA hC hT h1 h2 hP hS hl)
theorem ZW.aload_n {k : Nat} {g : Nat × Nat × Nat × Nat} {pc : Nat} {ls : zLs} {r : List Value} {h : zH} {Q : zQ} {i : Fin 4} {x : Nat} (hm : (i.val, Value.ref x) ∈ ls) (hd : decode (zC k) pc = .ok (.aload_n i, 1)) (w : ZW k g (pc + 1) ls (.ref x :: r) h Q) : ZW k g pc ls (r) h Q := by
  intro p l e s m args below meth cc E L xs H locs lsA hC hT h1 h2 hP hS hl
  exact lv_aload_n hC.1 hC.2.1 hd rfl (zgetL hl hm) (w p l e s m args below meth cc E L xs H locs lsA hC hT h1 h2 hP hS hl)
theorem ZW.istore {k : Nat} {g : Nat × Nat × Nat × Nat} {pc : Nat} {ls : zLs} {r : List Value} {h : zH} {Q : zQ} {i : Nat} {x : Int32} (hi : i < zL k) (hd : decode (zC k) pc = .ok (.istore i, 2)) (w : ZW k g (pc + 2) (zs1 ls i (.int x)) r h Q) : ZW k g pc ls (.int x :: r) h Q := by
  intro p l e s m args below meth cc E L xs H locs lsA hC hT h1 h2 hP hS hl
  exact lv_istore hC.1 hC.2.1 hd hl hi (zs1_map E ls i (.int x)).symm (fun lsB hlB => w p l e s m args below meth cc E L xs H locs lsB hC hT h1 h2 hP hS hlB)
theorem ZW.istore_n {k : Nat} {g : Nat × Nat × Nat × Nat} {pc : Nat} {ls : zLs} {r : List Value} {h : zH} {Q : zQ} {i : Fin 4} {x : Int32} (hi : i.val < zL k) (hd : decode (zC k) pc = .ok (.istore_n i, 1)) (w : ZW k g (pc + 1) (zs1 ls i.val (.int x)) r h Q) : ZW k g pc ls (.int x :: r) h Q := by
  intro p l e s m args below meth cc E L xs H locs lsA hC hT h1 h2 hP hS hl
  exact lv_istore_n hC.1 hC.2.1 hd rfl hl hi (zs1_map E ls i.val (.int x)).symm (fun lsB hlB => w p l e s m args below meth cc E L xs H locs lsB hC hT h1 h2 hP hS hlB)
theorem ZW.astore {k : Nat} {g : Nat × Nat × Nat × Nat} {pc : Nat} {ls : zLs} {r : List Value} {h : zH} {Q : zQ} {i : Nat} {x : Nat} (hi : i < zL k) (hd : decode (zC k) pc = .ok (.astore i, 2)) (w : ZW k g (pc + 2) (zs1 ls i (.ref x)) r h Q) : ZW k g pc ls (.ref x :: r) h Q := by
  intro p l e s m args below meth cc E L xs H locs lsA hC hT h1 h2 hP hS hl
  exact lv_astore hC.1 hC.2.1 hd hl hi (zs1_map E ls i (.ref x)).symm (fun lsB hlB => w p l e s m args below meth cc E L xs H locs lsB hC hT h1 h2 hP hS hlB)
theorem ZW.astore_n {k : Nat} {g : Nat × Nat × Nat × Nat} {pc : Nat} {ls : zLs} {r : List Value} {h : zH} {Q : zQ} {i : Fin 4} {x : Nat} (hi : i.val < zL k) (hd : decode (zC k) pc = .ok (.astore_n i, 1)) (w : ZW k g (pc + 1) (zs1 ls i.val (.ref x)) r h Q) : ZW k g pc ls (.ref x :: r) h Q := by
  intro p l e s m args below meth cc E L xs H locs lsA hC hT h1 h2 hP hS hl
  exact lv_astore_n hC.1 hC.2.1 hd rfl hl hi (zs1_map E ls i.val (.ref x)).symm (fun lsB hlB => w p l e s m args below meth cc E L xs H locs lsB hC hT h1 h2 hP hS hlB)
theorem ZW.lstore {k : Nat} {g : Nat × Nat × Nat × Nat} {pc : Nat} {ls : zLs} {r : List Value} {h : zH} {Q : zQ} {i : Nat} {x : Int64} (hi : i + 1 < zL k) (hd : decode (zC k) pc = .ok (.lstore i, 2)) (w : ZW k g (pc + 2) (zs2 ls i (.long x)) r h Q) : ZW k g pc ls (.long x :: r) h Q := by
  intro p l e s m args below meth cc E L xs H locs lsA hC hT h1 h2 hP hS hl
  exact lv_lstore hC.1 hC.2.1 hd hl hi (zs2_map E ls i (.long x)).symm (fun lsB hlB => w p l e s m args below meth cc E L xs H locs lsB hC hT h1 h2 hP hS hlB)
theorem ZW.iinc {k : Nat} {g : Nat × Nat × Nat × Nat} {pc : Nat} {ls : zLs} {r : List Value} {h : zH} {Q : zQ} {i : Nat} {c : Int} {x : Int32} (hm : (i, Value.int x) ∈ ls) (hi : i < zL k) (hd : decode (zC k) pc = .ok (.iinc i c, 3)) (w : ZW k g (pc + 3) (zs1 ls i (.int (x + Int32.ofInt c))) r h Q) : ZW k g pc ls r h Q := by
  intro p l e s m args below meth cc E L xs H locs lsA hC hT h1 h2 hP hS hl
  obtain ⟨j, hj⟩ := List.getElem?_of_mem (List.mem_map.mpr ⟨(i, Value.int x), hm, rfl⟩ : (i, Value.int x) ∈ ls.map (fun q => (q.1, zv E q.2)))
  exact lv_iinc hC.1 hC.2.1 hd hl hj rfl hi (zs1_map E ls i (.int (x + Int32.ofInt c))).symm (fun lsB hlB => w p l e s m args below meth cc E L xs H locs lsB hC hT h1 h2 hP hS hlB)
theorem ztg_eq {pc : Nat} {off : Int} (h : 0 ≤ (pc : Int) + off) : (pc : Int) + off = ((ztg pc off : Nat) : Int) := by
  unfold ztg
  omega
theorem ZW.goto {k : Nat} {g : Nat × Nat × Nat × Nat} {pc : Nat} {ls : zLs} {r : List Value} {h : zH} {Q : zQ} {off : Int} (h0 : 0 ≤ (pc : Int) + off) (hd : decode (zC k) pc = .ok (.goto off, 3)) (w : ZW k g (ztg pc off) ls r h Q) : ZW k g pc ls r h Q := by
  intro p l e s m args below meth cc E L xs H locs lsA hC hT h1 h2 hP hS hl
  exact lv_goto hC.1 hC.2.1 hd (ztg_eq h0) (w p l e s m args below meth cc E L xs H locs lsA hC hT h1 h2 hP hS hl)
theorem ZW.ifc {k : Nat} {g : Nat × Nat × Nat × Nat} {pc : Nat} {ls : zLs} {r : List Value} {h : zH} {Q : zQ} {x : Int32} {o : ClassFile.Cond} {off : Int} (h0 : 0 ≤ (pc : Int) + off) (hd : decode (zC k) pc = .ok (.ifCond o off, 3)) (wt : zcn o x 0 → ZW k g (ztg pc off) ls r h Q) (wf : ¬ zcn o x 0 → ZW k g (pc + 3) ls r h Q) : ZW k g pc ls (.int x :: r) h Q := by
  intro p l e s m args below meth cc E L xs H locs lsA hC hT h1 h2 hP hS hl
  cases o with
  | eq => exact lv_if_eq hC.1 hC.2.1 hd (ztg_eq h0) (fun hc => wt hc p l e s m args below meth cc E L xs H locs lsA hC hT h1 h2 hP hS hl) (fun hc => wf hc p l e s m args below meth cc E L xs H locs lsA hC hT h1 h2 hP hS hl)
  | ne => exact lv_if_ne hC.1 hC.2.1 hd (ztg_eq h0) (fun hc => wt hc p l e s m args below meth cc E L xs H locs lsA hC hT h1 h2 hP hS hl) (fun hc => wf (fun hn => hn hc) p l e s m args below meth cc E L xs H locs lsA hC hT h1 h2 hP hS hl)
  | lt => exact lv_if_lt hC.1 hC.2.1 hd (ztg_eq h0) (fun hc => wt hc p l e s m args below meth cc E L xs H locs lsA hC hT h1 h2 hP hS hl) (fun hc => wf hc p l e s m args below meth cc E L xs H locs lsA hC hT h1 h2 hP hS hl)
  | ge => exact lv_if_ge hC.1 hC.2.1 hd (ztg_eq h0) (fun hc => wt hc p l e s m args below meth cc E L xs H locs lsA hC hT h1 h2 hP hS hl) (fun hc => wf hc p l e s m args below meth cc E L xs H locs lsA hC hT h1 h2 hP hS hl)
  | gt => exact lv_if_gt hC.1 hC.2.1 hd (ztg_eq h0) (fun hc => wt hc p l e s m args below meth cc E L xs H locs lsA hC hT h1 h2 hP hS hl) (fun hc => wf hc p l e s m args below meth cc E L xs H locs lsA hC hT h1 h2 hP hS hl)
  | le => exact lv_if_le hC.1 hC.2.1 hd (ztg_eq h0) (fun hc => wt hc p l e s m args below meth cc E L xs H locs lsA hC hT h1 h2 hP hS hl) (fun hc => wf hc p l e s m args below meth cc E L xs H locs lsA hC hT h1 h2 hP hS hl)
theorem ZW.icmp {k : Nat} {g : Nat × Nat × Nat × Nat} {pc : Nat} {ls : zLs} {r : List Value} {h : zH} {Q : zQ} {x y : Int32} {o : ClassFile.Cond} {off : Int} (h0 : 0 ≤ (pc : Int) + off) (hd : decode (zC k) pc = .ok (.if_icmp o off, 3)) (wt : zcn o x y → ZW k g (ztg pc off) ls r h Q) (wf : ¬ zcn o x y → ZW k g (pc + 3) ls r h Q) : ZW k g pc ls (.int y :: .int x :: r) h Q := by
  intro p l e s m args below meth cc E L xs H locs lsA hC hT h1 h2 hP hS hl
  cases o with
  | eq => exact lv_icmp_eq hC.1 hC.2.1 hd (ztg_eq h0) (fun hc => wt hc p l e s m args below meth cc E L xs H locs lsA hC hT h1 h2 hP hS hl) (fun hc => wf hc p l e s m args below meth cc E L xs H locs lsA hC hT h1 h2 hP hS hl)
  | ne => exact lv_icmp_ne hC.1 hC.2.1 hd (ztg_eq h0) (fun hc => wt hc p l e s m args below meth cc E L xs H locs lsA hC hT h1 h2 hP hS hl) (fun hc => wf (fun hn => hn hc) p l e s m args below meth cc E L xs H locs lsA hC hT h1 h2 hP hS hl)
  | lt => exact lv_icmp_lt hC.1 hC.2.1 hd (ztg_eq h0) (fun hc => wt hc p l e s m args below meth cc E L xs H locs lsA hC hT h1 h2 hP hS hl) (fun hc => wf hc p l e s m args below meth cc E L xs H locs lsA hC hT h1 h2 hP hS hl)
  | ge => exact lv_icmp_ge hC.1 hC.2.1 hd (ztg_eq h0) (fun hc => wt hc p l e s m args below meth cc E L xs H locs lsA hC hT h1 h2 hP hS hl) (fun hc => wf hc p l e s m args below meth cc E L xs H locs lsA hC hT h1 h2 hP hS hl)
  | gt => exact lv_icmp_gt hC.1 hC.2.1 hd (ztg_eq h0) (fun hc => wt hc p l e s m args below meth cc E L xs H locs lsA hC hT h1 h2 hP hS hl) (fun hc => wf hc p l e s m args below meth cc E L xs H locs lsA hC hT h1 h2 hP hS hl)
  | le => exact lv_icmp_le hC.1 hC.2.1 hd (ztg_eq h0) (fun hc => wt hc p l e s m args below meth cc E L xs H locs lsA hC hT h1 h2 hP hS hl) (fun hc => wf hc p l e s m args below meth cc E L xs H locs lsA hC hT h1 h2 hP hS hl)
/-! the heap's picture under reads and writes -/
theorem zF_ok {o i c f : Nat} (h : zF o i = some (c, f)) : c < 12 ∧ f < zN c ∧ ((.fieldLink (zRN o) i (zTt c f).1 (zTt c f).2.1 (zTt c f).2.2.1 : Cond) ∈ zTB ∨ ((.fieldLinkNest (zRN o) i (zTt c f).1 (zTt c f).2.1 (zTt c f).2.2.1 "PaymentHub" : Cond) ∈ zNW ∧ zFw c f = false ∧ o = 10 ∧ c = 2)) := by
  unfold zF at h
  rw [Option.map_eq_some_iff] at h
  obtain ⟨e, he, h2⟩ := h
  have hm := List.mem_of_find?_eq_some he
  have hi := List.find?_some he
  simp only [beq_iff_eq] at hi
  cases h2
  have ho : o < 12 := by
    apply Decidable.byContradiction
    intro hn
    have : zFT.getD o [] = [] := zgD (by show 12 ≤ o; omega)
    rw [this] at hm
    cases hm
  have h1 := List.all_eq_true.mp (zfks o ho) e hm
  simp only [zfk, Bool.and_eq_true, decide_eq_true_eq] at h1
  obtain ⟨⟨a1, a2⟩, a3⟩ := h1
  refine ⟨a1, a2, ?_⟩
  by_cases hp : e.2.2.2 = 9999
  · rw [if_pos hp] at a3
    simp only [Bool.and_eq_true, decide_eq_true_eq, Bool.not_eq_true'] at a3
    rw [← hi]
    exact Or.inr ⟨a3.1.1.1, a3.1.1.2, a3.1.2, a3.2⟩
  · rw [if_neg hp] at a3
    simp only [decide_eq_true_eq] at a3
    rw [← hi]
    exact Or.inl (zin _ a3 rfl)
theorem zad_lt {E : zE} {h : zH} {H : Heap} (hP : zP E h H) {a : Nat} {e : zK × Nat × List (Option Nat)} (ha : h.1[a]? = some e) : zad E a = E.1 + a := by
  have h1 := (List.getElem?_eq_some_iff.mp ha).1
  have h2 := hP.2.1
  unfold zad
  rw [if_pos (by omega)]
theorem zws_get {E : zE} {h : zH} {a : Nat} {e : zK × Nat × List (Option Nat)} (ha : h.1[a]? = some e) : (zws E h)[a]? = some (E.1 + a, zce E e (h.2 a)) := by
  have h1 := (List.getElem?_eq_some_iff.mp ha).1
  unfold zws
  rw [List.getElem?_map, List.getElem?_range h1]
  show some (E.1 + a, zce E (h.1.getD a (.inl 0, 0, [])) (h.2 a)) = _
  rw [List.getD_eq_getElem?_getD, ha]
  rfl
theorem zfl_get {E : zE} {c f : Nat} {rs : List (Option Nat)} {m : Nat → Int32} (hf : f < zN c) : ((List.range (zN c)).map (zfl E c rs m))[f]? = some (zfl E c rs m f) := by
  rw [List.getElem?_map, List.getElem?_range hf]
  rfl
theorem zrv_v (E : zE) (x : Option Nat) : zrf E x = zv E (zrv x) := by cases x <;> rfl
theorem ZW.getfield {k : Nat} {g : Nat × Nat × Nat × Nat} {pc : Nat} {ls : zLs} {r : List Value} {h : zH} {Q : zQ} {x a c f n : Nat} {rs : List (Option Nat)} (hF : zF (zO k) x = some (c, f)) (ho : h.1[a]? = some (.inr c, n, rs)) (hd : decode (zC k) pc = .ok (.getfield x, 3))
    (w : ZW k g (pc + 3) ls ((if zFk c f = 2 then zrv (rs.getD f none) else .int (h.2 a f)) :: r) h Q) : ZW k g pc ls (.ref a :: r) h Q := by
  intro p l e s m args below meth cc E L xs H locs lsA hC hT h1 h2 hP hS hl
  obtain ⟨c12, fN, hw⟩ := zF_ok hF
  obtain ⟨hc, hin, -, -, hfo⟩ := zcls c c12
  have hfo1 := List.all_eq_true.mp hfo f (List.mem_range.mpr fN)
  simp only [Bool.and_eq_true, decide_eq_true_eq] at hfo1
  have hv := w p l e s m args below meth cc E L xs H locs lsA hC hT h1 h2 hP hS hl
  show W p l e _ s m args below meth cc H locs _ _ _ (F0 m pc lsA (.ref (zad E a) :: r.map (zv E)))
  rw [zad_lt hP ho]
  have e1 : zfl E c rs (h.2 a) f = zv E (if zFk c f = 2 then zrv (rs.getD f none) else .int (h.2 a f)) := by
    unfold zfl
    split
    · exact zrv_v E _
    · rfl
  have hv2 : W p l e (zRm k g) s m args below meth cc H locs g.2.2.1 g.2.2.2 (MQ below (zQc E L xs Q) args s g.1 g.2.1 (zAr E)) (F0 m (pc + 3) lsA (zfl E c rs (h.2 a) f :: r.map (zv E))) := by
    rw [e1]
    exact hv
  rcases hw with hw | ⟨hw, -⟩
  · exact va_get hC.1 hC.2.1 hC.2.2.2.2.2.2.1 hin hC.2.2.2.2.2.1 hT.1 hP.2.2 a (zws_get ho) hc f fN (hC.2.2.2.2.2.2.1 _ hw) (fun _ h9 => h9) (zfl_get fN) hd hv2
  · exact va_getN hC.1 hC.2.1 hC.2.2.2.2.2.2.1 hin hC.2.2.2.2.2.1 hT.1 hP.2.2 a (zws_get ho) hc f fN ((hT.2.2.2.2.2.1 _ hw).use rfl) (fun _ h9 => h9) (zfl_get fN) hd hv2
theorem zws_len (E : zE) (h : zH) : (zws E h).length = h.1.length := by
  unfold zws
  rw [List.length_map, List.length_range]
/-- a cell's ints change -/
theorem zws_up {E : zE} {S : zS} {m : zM} {a k : Nat} {v : Int32} {e : zK × Nat × List (Option Nat)} (ha : S[a]? = some e) : zws E (S, zup m a k v) = (zws E (S, m)).set a (E.1 + a, zce E e (upd (m a) k v)) := by
  apply List.ext_getElem?
  intro i
  have h1 := (List.getElem?_eq_some_iff.mp ha).1
  by_cases hi : i = a
  · subst hi
    rw [List.getElem?_set_self (by rw [zws_len]; exact h1), zws_get (h := (S, zup m i k v)) ha]
    simp [zup]
  · rw [List.getElem?_set_ne (Ne.symm hi)]
    cases hc : S[i]? with
    | none =>
      have : S.length ≤ i := by simpa using hc
      rw [List.getElem?_eq_none (by rw [zws_len]; exact this), List.getElem?_eq_none (by rw [zws_len]; exact this)]
    | some x =>
      rw [zws_get (h := (S, zup m a k v)) hc, zws_get (h := (S, m)) hc]
      simp [zup, hi]
/-- a cell's shape changes -/
theorem zws_sh {E : zE} {S : zS} {m : zM} {a : Nat} {e e' : zK × Nat × List (Option Nat)} (ha : S[a]? = some e) : zws E (S.set a e', m) = (zws E (S, m)).set a (E.1 + a, zce E e' (m a)) := by
  apply List.ext_getElem?
  intro i
  have h1 := (List.getElem?_eq_some_iff.mp ha).1
  by_cases hi : i = a
  · subst hi
    rw [List.getElem?_set_self (by rw [zws_len]; exact h1), zws_get (h := (S.set i e', m)) (e := e') (by simp [h1])]
  · rw [List.getElem?_set_ne (Ne.symm hi)]
    cases hc : S[i]? with
    | none =>
      have : S.length ≤ i := by simpa using hc
      rw [List.getElem?_eq_none (by rw [zws_len]; simpa using this), List.getElem?_eq_none (by rw [zws_len]; exact this)]
    | some x =>
      rw [zws_get (h := (S.set a e', m)) (e := x) (by simp [Ne.symm hi, hc]), zws_get (h := (S, m)) hc]
theorem zce_up {E : zE} {c f n : Nat} {rs : List (Option Nat)} {m : Nat → Int32} {y : Int32} (hk : ¬ zFk c f = 2) : zce E (.inr c, n, rs) (upd m f y) = .inr (c, ((List.range (zN c)).map (zfl E c rs m)).set f (.int y)) := by
  show Sum.inr (c, _) = Sum.inr (c, _)
  congr 2
  apply List.ext_getElem?
  intro i
  by_cases hi : i < zN c
  · rw [zfl_get hi]
    by_cases e : i = f
    · subst e
      rw [List.getElem?_set_self (by simpa using hi)]
      simp [zfl, hk, upd]
    · rw [List.getElem?_set_ne (Ne.symm e), zfl_get hi]
      simp [zfl, upd, e]
  · rw [List.getElem?_eq_none (by simpa using Nat.not_lt.mp hi), List.getElem?_eq_none (by simpa using Nat.not_lt.mp hi)]
theorem zce_ref {E : zE} {c f n b : Nat} {rs : List (Option Nat)} {m : Nat → Int32} (hk : zFk c f = 2) (hl : rs.length = zN c) (hf : f < zN c) : zce E (.inr c, n, rs.set f (some b)) m = .inr (c, ((List.range (zN c)).map (zfl E c rs m)).set f (.ref (zad E b))) := by
  show Sum.inr (c, _) = Sum.inr (c, _)
  congr 2
  apply List.ext_getElem?
  intro i
  by_cases hi : i < zN c
  · rw [zfl_get hi]
    by_cases e : i = f
    · subst e
      rw [List.getElem?_set_self (by simpa using hi)]
      have : (rs.set i (some b)).getD i none = some b := by
        rw [List.getD_eq_getElem?_getD, List.getElem?_set_self (by omega)]
        rfl
      simp only [zfl, hk, if_true, this]
      rfl
    · rw [List.getElem?_set_ne (Ne.symm e), zfl_get hi]
      have : (rs.set f (some b)).getD i none = rs.getD i none := by
        rw [List.getD_eq_getElem?_getD, List.getD_eq_getElem?_getD, List.getElem?_set_ne (Ne.symm e)]
      simp only [zfl, this]
  · rw [List.getElem?_eq_none (by simpa using Nat.not_lt.mp hi), List.getElem?_eq_none (by simpa using Nat.not_lt.mp hi)]
theorem zD_ws (E : zE) (h : zH) : va_D (zAr E) (zws E h) := by
  have key : ∀ (i : Nat) (q : Nat × va_E), (zws E h)[i]? = some q → q.1 = E.1 + i := by
    intro i q hq
    have hi : i < h.1.length := by
      have := (List.getElem?_eq_some_iff.mp hq).1
      rwa [zws_len] at this
    have hg : h.1[i]? = some h.1[i] := List.getElem?_eq_getElem hi
    rw [zws_get hg] at hq
    cases hq
    rfl
  refine ⟨fun i j x y hi hj hxy => ?_, fun i q hq => ?_⟩
  · have a1 := key i x hi
    have a2 := key j y hj
    omega
  · show E.1 ≤ q.1
    rw [key i q hq]
    omega
theorem zup_far {m : zM} {a k b : Nat} {v : Int32} (h : b ≠ a) : zup m a k v b = m b := if_neg h
theorem zP_set {E : zE} {h : zH} {H H' : Heap} {a k : Nat} {v : Int32} {e : zK × Nat × List (Option Nat)} (hP : zP E h H) (ha : h.1[a]? = some e) (hz : H'.size = H.size) (oq : ∀ q, q ≠ E.1 + a → H'[q]? = H[q]?) (hat : va_at E.2.1 vwCl (E.1 + a, zce E e (upd (h.2 a) k v)) H') : zP E (h.1, zup h.2 a k v) H' := by
  refine ⟨by rw [hz]; exact hP.1, hP.2.1, ?_⟩
  rw [zws_up ha]
  exact hP.2.2.set (zD_ws E h) (zws_get ha) hat oq
theorem zP_sh {E : zE} {h : zH} {H H' : Heap} {a : Nat} {e e' : zK × Nat × List (Option Nat)} (hP : zP E h H) (ha : h.1[a]? = some e) (hz : H'.size = H.size) (oq : ∀ q, q ≠ E.1 + a → H'[q]? = H[q]?) (hat : va_at E.2.1 vwCl (E.1 + a, zce E e' (h.2 a)) H') : zP E (h.1.set a e', h.2) H' := by
  refine ⟨by rw [hz, List.length_set]; exact hP.1, by rw [List.length_set]; exact hP.2.1, ?_⟩
  rw [zws_sh ha]
  exact hP.2.2.set (zD_ws E h) (zws_get ha) hat oq
theorem zS_put {E : zE} {s : State} {h : zH} {H H' : Heap} {locs : List Loc} {a j : Nat} (hS : va_S (zAr E) s.heap H locs) (hz : H'.size = H.size) (oq : ∀ q, q ≠ E.1 + a → H'[q]? = H[q]?) : va_S (zAr E) s.heap H' (locs ++ [⟨E.1 + a, j⟩]) := hS.put hz oq (Nat.le_add_right _ _)
/-- a field is written: final or not -/
theorem zputV {k : Nat} {g : Nat × Nat × Nat × Nat} {pc : Nat} {r : List Value} {h : zH} {x a c f n : Nat} {v : Value} {rs : List (Option Nat)} (hF : zF (zO k) x = some (c, f)) (ho : h.1[a]? = some (.inr c, n, rs)) (hw : zFw c f = true ∨ ((zY k).name = "<init>" ∧ zO k = c)) (hd : decode (zC k) pc = .ok (.putfield x, 3))
    {p : Program} {l : Launch} {e : Env} {s : State} {m : MethodId} {args : Array Value} {below : List Frame} {meth : Method} {cc : Code} {E : zE} {L : Nat} {xs : Nat → Int32} {H : Heap} {locs : List Loc} {lsA : Array Slot} {R : Room} {cells slots : Nat} {Z : State → Prop} {rest : List Value} (hC : zCx k p s m args meth cc) (hT : zT E L xs s) (hP : zP E h H) (hnar : narrow (zTy c f) v = v ∧ fits (zTy c f) v = true)
    (kk : ∀ (H' : Heap) (j : Nat), H'.size = H.size → (∀ q, q ≠ E.1 + a → H'[q]? = H[q]?) → va_at E.2.1 vwCl (E.1 + a, .inr (c, ((List.range (zN c)).map (zfl E c rs (h.2 a))).set f v)) H' → W p l e R s m args below meth cc H' (locs ++ [⟨E.1 + a, j⟩]) cells slots Z (F0 m (pc + 3) lsA rest)) :
    W p l e R s m args below meth cc H locs cells slots Z (F0 m pc lsA (v :: .ref (E.1 + a) :: rest)) := by
  obtain ⟨c12, fN, hwd⟩ := zF_ok hF
  obtain ⟨hc, hin, hty, hnm, hfo⟩ := zcls c c12
  have hfo1 := List.all_eq_true.mp hfo f (List.mem_range.mpr fN)
  simp only [Bool.and_eq_true, decide_eq_true_eq] at hfo1
  obtain ⟨⟨hf1, hf2⟩, -⟩ := hfo1
  have hts := hC.2.2.2.2.2.2.1
  have hown := hC.2.2.2.2.2.1
  have hlink : (Cond.fieldLink (zRN (zO k)) x (zTt c f).1 (zTt c f).2.1 (zTt c f).2.2.1).before args s = true := by
    rcases hwd with hwd | ⟨-, b1, b2, b3⟩
    · exact hts _ hwd
    · rcases hw with hw | ⟨-, hw⟩
      · rw [hw] at b1; cases b1
      · omega
  have hap := va_apart (own := zRN (zO k)) hts hin (zTy c) hty hnm hT.1 hc
  obtain ⟨rr, g1, cell, q1, q2, q3, q4⟩ := hP.2.2 a _ (zws_get ho)
  have hr : rr = (zRN c, zTt c, zN c) := Option.some.inj (g1.symm.trans hc)
  subst hr
  obtain ⟨hS0, hfc, kC, hkC, hkind⟩ := hT.1.1 c _ hc
  obtain ⟨cf, kf, fi, fd, hi, hsl⟩ := hS0 f fN
  have hlay := hts _ (hin _ (u_in_lay fN))
  have hst := (u_facts hfc hkC (u_lays hts hin fN) hi).1
  have hl : f < ((List.range (zN c)).map (zfl E c rs (h.2 a))).length := by simpa using fN
  have fin : ∀ H' : Heap, H'[E.1 + a]? = some (cell.setSlot fd.slot v) → H'.size = H.size → (∀ q, q ≠ E.1 + a → H'[q]? = H[q]?) → W p l e R s m args below meth cc H' (locs ++ [⟨E.1 + a, fd.slot⟩]) cells slots Z (F0 m (pc + 3) lsA rest) := by
    intro H' e1 e2 e3
    rw [hsl] at e1 ⊢
    exact kk H' _ e2 e3 ⟨_, hc, t_OB.to (V := updV (vp_V ((List.range (zN c)).map (zfl E c rs (h.2 a)))) f v) ⟨_, e1, q2, q3, t_set q4 hap fN v⟩ (fun j _ => vp_updV_set hl v j)⟩
  by_cases hz : zFw c f = true
  · unfold u_lay at hlay
    rw [if_neg (by rw [hf2, hz]; decide)] at hlay
    exact W.putK hC.1 hC.2.1 (f := fd) ⟨hown, hlink, ⟨_, _, _, hi⟩, hst⟩ (by rw [q2]; exact u_store hfc hkC hkind hlay hi (hty f fN) hnar.1 hnar.2) q1 q3 (by rw [hsl]; exact k2_hasslot (q4 f fN)) rfl rfl hd fin
  · have hz2 : zFw c f = false := by simpa using hz
    have hini : (zY k).name = "<init>" ∧ zO k = c := by
      rcases hw with hw | hw
      · exact absurd hw hz
      · exact hw
    unfold u_lay at hlay
    rw [if_pos (by rw [hf2, hz2]; rfl)] at hlay
    have hcf : m.cls = cf := by
      obtain ⟨_, _, c', _, _, _, -, -, hf', -, -, -, hown2, -⟩ := Cond.laysFinal_spec hlay
      have e1 : c' = cf := by have := hi.symm.trans hf'; simp at this; exact this.1.symm
      rw [hf1, ← hini.2] at hown2
      rw [← e1]
      exact Option.some.inj (hown.symm.trans hown2)
    exact W.putFinK hC.1 hC.2.1 hown hlink hi hst hcf (hC.2.2.2.2.2.2.2.trans hini.1) (by rw [q2]; exact u_fits hfc hkC hkind (Or.inr hlay) hi (hty f fN) hnar.1 hnar.2) q1 q3 (by rw [hsl]; exact k2_hasslot (q4 f fN)) rfl rfl hd fin
theorem ZW.putI {k : Nat} {g : Nat × Nat × Nat × Nat} {pc : Nat} {ls : zLs} {r : List Value} {h : zH} {Q : zQ} {x a c f n : Nat} {y : Int32} {rs : List (Option Nat)} (hF : zF (zO k) x = some (c, f)) (ho : h.1[a]? = some (.inr c, n, rs)) (hw : zFw c f = true ∨ ((zY k).name = "<init>" ∧ zO k = c)) (hk : ¬ zFk c f = 2) (hy : zFk c f = 0 ∨ (y = 0 ∨ y = 1)) (hd : decode (zC k) pc = .ok (.putfield x, 3))
    (w : ZW k g (pc + 3) ls r (h.1, zup h.2 a f y) Q) : ZW k g pc ls (.int y :: .ref a :: r) h Q := by
  intro p l e s m args below meth cc E L xs H locs lsA hC hT h1 h2 hP hS hl
  obtain ⟨c12, fN, -⟩ := zF_ok hF
  obtain ⟨-, -, -, -, hfo⟩ := zcls c c12
  have hfo1 := List.all_eq_true.mp hfo f (List.mem_range.mpr fN)
  simp only [Bool.and_eq_true, decide_eq_true_eq] at hfo1
  obtain ⟨-, hf3⟩ := hfo1
  have halt : a < h.1.length := (List.getElem?_eq_some_iff.mp ho).1
  have hlen := hP.2.1
  have hnar : narrow (zTy c f) (.int y) = .int y ∧ fits (zTy c f) (.int y) = true := by
    generalize hz : zFk c f = z at hf3 hk hy
    match z, hf3, hk, hy with
    | 0, hf3, _, _ =>
      simp only [decide_eq_true_eq] at hf3
      rw [hf3]
      exact ⟨rfl, rfl⟩
    | 1, hf3, _, hy =>
      simp only [decide_eq_true_eq] at hf3
      rw [hf3]
      rcases hy with h9 | rfl | rfl
      · cases h9
      · exact ⟨rfl, rfl⟩
      · exact ⟨rfl, rfl⟩
    | 2, _, q, _ => exact absurd rfl q
    | n + 3, hf3, _, _ => simp at hf3
  show W p l e _ s m args below meth cc H locs _ _ _ (F0 m pc lsA (.int y :: .ref (zad E a) :: r.map (zv E)))
  rw [zad_lt hP ho]
  refine zputV (g := g) (r := r) hF ho hw hd hC hT hP hnar (fun H' j e2 e3 hat => ?_)
  refine w p l e s m args below meth cc E L xs H' _ lsA hC hT ?_ ?_ (zP_set hP ho e2 e3 (by rw [zce_up hk]; exact hat)) (zS_put (h := h) hS e2 e3) hl
  · show zup h.2 a f y 1000000 = xs
    rw [zup_far (by omega)]
    exact h1
  · show zup h.2 a f y 1000001 0 = _
    rw [zup_far (by omega)]
    exact h2
theorem ZW.putR {k : Nat} {g : Nat × Nat × Nat × Nat} {pc : Nat} {ls : zLs} {r : List Value} {h : zH} {Q : zQ} {x a c f n b : Nat} {rs : List (Option Nat)} (hF : zF (zO k) x = some (c, f)) (ho : h.1[a]? = some (.inr c, n, rs)) (hw : zFw c f = true ∨ ((zY k).name = "<init>" ∧ zO k = c)) (hk : zFk c f = 2) (hrs : rs.length = zN c) (hd : decode (zC k) pc = .ok (.putfield x, 3))
    (w : ZW k g (pc + 3) ls r (h.1.set a (.inr c, 0, rs.set f (some b)), h.2) Q) : ZW k g pc ls (.ref b :: .ref a :: r) h Q := by
  intro p l e s m args below meth cc E L xs H locs lsA hC hT h1 h2 hP hS hl
  obtain ⟨c12, fN, -⟩ := zF_ok hF
  obtain ⟨-, -, -, -, hfo⟩ := zcls c c12
  have hfo1 := List.all_eq_true.mp hfo f (List.mem_range.mpr fN)
  simp only [Bool.and_eq_true, decide_eq_true_eq, hk] at hfo1
  obtain ⟨-, hf3⟩ := hfo1
  have hnar : narrow (zTy c f) (.ref (zad E b)) = .ref (zad E b) ∧ fits (zTy c f) (.ref (zad E b)) = true := by
    cases hz : zTy c f <;> rw [hz] at hf3 <;> first | exact ⟨rfl, rfl⟩ | cases hf3
  show W p l e _ s m args below meth cc H locs _ _ _ (F0 m pc lsA (.ref (zad E b) :: .ref (zad E a) :: r.map (zv E)))
  rw [zad_lt hP ho]
  refine zputV (g := g) (r := r) hF ho hw hd hC hT hP hnar (fun H' j e2 e3 hat => ?_)
  exact w p l e s m args below meth cc E L xs H' _ lsA hC hT h1 h2 (zP_sh hP ho e2 e3 (by rw [zce_ref hk hrs fN]; exact hat)) (zS_put (h := h) hS e2 e3) hl
theorem zarr_set (cA : ClassId) (n j : Nat) (f : Nat → Int32) (x : Int32) : (vp_cell cA (n, .inl f)).setSlot j (.int x) = vp_cell cA (n, .inl (upd f j x)) := by
  rw [vp_cell_i, vp_cell_i, arrV_store]
  congr 2
  funext q
  by_cases hq : q = j
  · subst hq
    simp [updV, upd]
  · simp [updV, upd, hq]
theorem zin_arr {cA : ClassId} {n : Nat} {f : Nat → Int32} {i : Int32} (h : vp_in i n) : ¬ (i < 0 ∨ (vp_cell cA (n, .inl f)).slots.size ≤ i.toNatClampNeg) := by
  rw [vp_cell_i]
  show ¬ (i < 0 ∨ (arrV _ _ _).slots.size ≤ _)
  rw [arrV_size]
  exact h
theorem zna_all (ty : FieldType) (x : Int32) (h : ty = .byte ∨ ty = .boolean ∨ ty = .char) : narrow ty (.int x) = .int (vp_nar ty x) := by
  rcases h with rfl | rfl | rfl <;> rfl
theorem ZW.iald {k : Nat} {g : Nat × Nat × Nat × Nat} {pc : Nat} {ls : zLs} {r : List Value} {h : zH} {Q : zQ} {a n : Nat} {j : Int32} {rs : List (Option Nat)} (ha : h.1[a]? = some (.inl 0, n, rs)) (hj : vp_in j n) (hd : decode (zC k) pc = .ok (.iaload, 1)) (w : ZW k g (pc + 1) ls (.int (h.2 a j.toNatClampNeg) :: r) h Q) : ZW k g pc ls (.int j :: .ref a :: r) h Q := by
  intro p l e s m args below meth cc E L xs H locs lsA hC hT h1 h2 hP hS hl
  show W p l e _ s m args below meth cc H locs _ _ _ (F0 m pc lsA (.int j :: .ref (zad E a) :: r.map (zv E)))
  rw [zad_lt hP ha]
  exact va_iald hC.1 hC.2.1 hT.1 hP.2.2 a 0 (zws_get ha) rfl hj hd (w p l e s m args below meth cc E L xs H locs lsA hC hT h1 h2 hP hS hl)
theorem ZW.bald {k : Nat} {g : Nat × Nat × Nat × Nat} {pc : Nat} {ls : zLs} {r : List Value} {h : zH} {Q : zQ} {a n : Nat} {j : Int32} {rs : List (Option Nat)} (ha : h.1[a]? = some (.inl 1, n, rs)) (hj : vp_in j n) (hd : decode (zC k) pc = .ok (.baload, 1)) (w : ZW k g (pc + 1) ls (.int (h.2 a j.toNatClampNeg) :: r) h Q) : ZW k g pc ls (.int j :: .ref a :: r) h Q := by
  intro p l e s m args below meth cc E L xs H locs lsA hC hT h1 h2 hP hS hl
  show W p l e _ s m args below meth cc H locs _ _ _ (F0 m pc lsA (.int j :: .ref (zad E a) :: r.map (zv E)))
  rw [zad_lt hP ha]
  exact va_bald hC.1 hC.2.1 hT.1 hP.2.2 a 1 (zws_get ha) rfl hj hd (w p l e s m args below meth cc E L xs H locs lsA hC hT h1 h2 hP hS hl)
theorem ZW.zald {k : Nat} {g : Nat × Nat × Nat × Nat} {pc : Nat} {ls : zLs} {r : List Value} {h : zH} {Q : zQ} {a n : Nat} {j : Int32} {rs : List (Option Nat)} (ha : h.1[a]? = some (.inl 2, n, rs)) (hj : vp_in j n) (hd : decode (zC k) pc = .ok (.baload, 1)) (w : ZW k g (pc + 1) ls (.int (h.2 a j.toNatClampNeg) :: r) h Q) : ZW k g pc ls (.int j :: .ref a :: r) h Q := by
  intro p l e s m args below meth cc E L xs H locs lsA hC hT h1 h2 hP hS hl
  show W p l e _ s m args below meth cc H locs _ _ _ (F0 m pc lsA (.int j :: .ref (zad E a) :: r.map (zv E)))
  rw [zad_lt hP ha]
  exact va_zald hC.1 hC.2.1 hT.1 hP.2.2 a 2 (zws_get ha) rfl hj hd (w p l e s m args below meth cc E L xs H locs lsA hC hT h1 h2 hP hS hl)
theorem ZW.cald {k : Nat} {g : Nat × Nat × Nat × Nat} {pc : Nat} {ls : zLs} {r : List Value} {h : zH} {Q : zQ} {a n : Nat} {j : Int32} {rs : List (Option Nat)} (ha : h.1[a]? = some (.inl 3, n, rs)) (hj : vp_in j n) (hd : decode (zC k) pc = .ok (.caload, 1)) (w : ZW k g (pc + 1) ls (.int (h.2 a j.toNatClampNeg) :: r) h Q) : ZW k g pc ls (.int j :: .ref a :: r) h Q := by
  intro p l e s m args below meth cc E L xs H locs lsA hC hT h1 h2 hP hS hl
  show W p l e _ s m args below meth cc H locs _ _ _ (F0 m pc lsA (.int j :: .ref (zad E a) :: r.map (zv E)))
  rw [zad_lt hP ha]
  exact va_cald hC.1 hC.2.1 hT.1 hP.2.2 a 3 (zws_get ha) rfl hj hd (w p l e s m args below meth cc E L xs H locs lsA hC hT h1 h2 hP hS hl)
theorem ZW.iast {k : Nat} {g : Nat × Nat × Nat × Nat} {pc : Nat} {ls : zLs} {r : List Value} {h : zH} {Q : zQ} {a n : Nat} {j x : Int32} {rs : List (Option Nat)} (ha : h.1[a]? = some (.inl 0, n, rs)) (hj : vp_in j n) (hd : decode (zC k) pc = .ok (.iastore, 1)) (w : ZW k g (pc + 1) ls r (h.1, zup h.2 a j.toNatClampNeg x) Q) : ZW k g pc ls (.int x :: .int j :: .ref a :: r) h Q := by
  intro p l e s m args below meth cc E L xs H locs lsA hC hT h1 h2 hP hS hl
  show W p l e _ s m args below meth cc H locs _ _ _ (F0 m pc lsA (.int x :: .int j :: .ref (zad E a) :: r.map (zv E)))
  have halt : a < h.1.length := (List.getElem?_eq_some_iff.mp ha).1
  have hlen := hP.2.1
  rw [zad_lt hP ha]
  have hc : H[E.1 + a]? = some (vp_cell (E.2.2.1 0) (n, .inl (h.2 a))) := hP.2.2 a _ (zws_get ha)
  refine W.iast hC.1 hC.2.1 hc ((hT.1.2 0 _ rfl).1 n (fun j => .int (h.2 a j))) (fun q => by cases q) (zin_arr hj) rfl rfl hd (fun H' e1 e2 e3 => ?_)
  refine w p l e s m args below meth cc E L xs H' _ lsA hC hT ?_ ?_ (zP_set hP ha e2 e3 ?_) (zS_put (h := h) hS e2 e3) hl
  · show zup h.2 a _ _ 1000000 = xs
    rw [zup_far (by omega)]
    exact h1
  · show zup h.2 a _ _ 1000001 0 = _
    rw [zup_far (by omega)]
    exact h2
  · show H'[E.1 + a]? = some (vp_cell (E.2.2.1 0) (n, .inl (upd (h.2 a) j.toNatClampNeg x)))
    rw [e1, ← zarr_set]
theorem ZW.bast {k : Nat} {g : Nat × Nat × Nat × Nat} {pc : Nat} {ls : zLs} {r : List Value} {h : zH} {Q : zQ} {a n : Nat} {j x : Int32} {rs : List (Option Nat)} (ha : h.1[a]? = some (.inl 1, n, rs)) (hj : vp_in j n) (hd : decode (zC k) pc = .ok (.bastore, 1)) (w : ZW k g (pc + 1) ls r (h.1, zup h.2 a j.toNatClampNeg (vp_nar .byte x)) Q) : ZW k g pc ls (.int x :: .int j :: .ref a :: r) h Q := by
  intro p l e s m args below meth cc E L xs H locs lsA hC hT h1 h2 hP hS hl
  show W p l e _ s m args below meth cc H locs _ _ _ (F0 m pc lsA (.int x :: .int j :: .ref (zad E a) :: r.map (zv E)))
  have halt : a < h.1.length := (List.getElem?_eq_some_iff.mp ha).1
  have hlen := hP.2.1
  rw [zad_lt hP ha]
  have hc : H[E.1 + a]? = some (vp_cell (E.2.2.1 1) (n, .inl (h.2 a))) := hP.2.2 a _ (zws_get ha)
  refine W.bast hC.1 hC.2.1 hc ((hT.1.2 1 _ rfl).1 n (fun j => .int (h.2 a j))) (fun q => by cases q) (zin_arr hj) rfl rfl hd (fun H' e1 e2 e3 => ?_)
  refine w p l e s m args below meth cc E L xs H' _ lsA hC hT ?_ ?_ (zP_set hP ha e2 e3 ?_) (zS_put (h := h) hS e2 e3) hl
  · show zup h.2 a _ _ 1000000 = xs
    rw [zup_far (by omega)]
    exact h1
  · show zup h.2 a _ _ 1000001 0 = _
    rw [zup_far (by omega)]
    exact h2
  · show H'[E.1 + a]? = some (vp_cell (E.2.2.1 1) (n, .inl (upd (h.2 a) j.toNatClampNeg (vp_nar .byte x))))
    rw [e1, ← zarr_set]
    rfl
theorem ZW.zast {k : Nat} {g : Nat × Nat × Nat × Nat} {pc : Nat} {ls : zLs} {r : List Value} {h : zH} {Q : zQ} {a n : Nat} {j x : Int32} {rs : List (Option Nat)} (ha : h.1[a]? = some (.inl 2, n, rs)) (hj : vp_in j n) (hd : decode (zC k) pc = .ok (.bastore, 1)) (w : ZW k g (pc + 1) ls r (h.1, zup h.2 a j.toNatClampNeg (vp_nar .boolean x)) Q) : ZW k g pc ls (.int x :: .int j :: .ref a :: r) h Q := by
  intro p l e s m args below meth cc E L xs H locs lsA hC hT h1 h2 hP hS hl
  show W p l e _ s m args below meth cc H locs _ _ _ (F0 m pc lsA (.int x :: .int j :: .ref (zad E a) :: r.map (zv E)))
  have halt : a < h.1.length := (List.getElem?_eq_some_iff.mp ha).1
  have hlen := hP.2.1
  rw [zad_lt hP ha]
  have hc : H[E.1 + a]? = some (vp_cell (E.2.2.1 2) (n, .inl (h.2 a))) := hP.2.2 a _ (zws_get ha)
  refine W.zast hC.1 hC.2.1 hc ((hT.1.2 2 _ rfl).1 n (fun j => .int (h.2 a j))) (fun q => by cases q) (zin_arr hj) rfl rfl hd (fun H' e1 e2 e3 => ?_)
  refine w p l e s m args below meth cc E L xs H' _ lsA hC hT ?_ ?_ (zP_set hP ha e2 e3 ?_) (zS_put (h := h) hS e2 e3) hl
  · show zup h.2 a _ _ 1000000 = xs
    rw [zup_far (by omega)]
    exact h1
  · show zup h.2 a _ _ 1000001 0 = _
    rw [zup_far (by omega)]
    exact h2
  · show H'[E.1 + a]? = some (vp_cell (E.2.2.1 2) (n, .inl (upd (h.2 a) j.toNatClampNeg (vp_nar .boolean x))))
    rw [e1, ← zarr_set]
    rfl
theorem ZW.cast {k : Nat} {g : Nat × Nat × Nat × Nat} {pc : Nat} {ls : zLs} {r : List Value} {h : zH} {Q : zQ} {a n : Nat} {j x : Int32} {rs : List (Option Nat)} (ha : h.1[a]? = some (.inl 3, n, rs)) (hj : vp_in j n) (hd : decode (zC k) pc = .ok (.castore, 1)) (w : ZW k g (pc + 1) ls r (h.1, zup h.2 a j.toNatClampNeg (vp_nar .char x)) Q) : ZW k g pc ls (.int x :: .int j :: .ref a :: r) h Q := by
  intro p l e s m args below meth cc E L xs H locs lsA hC hT h1 h2 hP hS hl
  show W p l e _ s m args below meth cc H locs _ _ _ (F0 m pc lsA (.int x :: .int j :: .ref (zad E a) :: r.map (zv E)))
  have halt : a < h.1.length := (List.getElem?_eq_some_iff.mp ha).1
  have hlen := hP.2.1
  rw [zad_lt hP ha]
  have hc : H[E.1 + a]? = some (vp_cell (E.2.2.1 3) (n, .inl (h.2 a))) := hP.2.2 a _ (zws_get ha)
  refine W.cast hC.1 hC.2.1 hc ((hT.1.2 3 _ rfl).1 n (fun j => .int (h.2 a j))) (fun q => by cases q) (zin_arr hj) rfl rfl hd (fun H' e1 e2 e3 => ?_)
  refine w p l e s m args below meth cc E L xs H' _ lsA hC hT ?_ ?_ (zP_set hP ha e2 e3 ?_) (zS_put (h := h) hS e2 e3) hl
  · show zup h.2 a _ _ 1000000 = xs
    rw [zup_far (by omega)]
    exact h1
  · show zup h.2 a _ _ 1000001 0 = _
    rw [zup_far (by omega)]
    exact h2
  · show H'[E.1 + a]? = some (vp_cell (E.2.2.1 3) (n, .inl (upd (h.2 a) j.toNatClampNeg (vp_nar .char x))))
    rw [e1, ← zarr_set]
    rfl
theorem ZW.alen {k : Nat} {g : Nat × Nat × Nat × Nat} {pc : Nat} {ls : zLs} {r : List Value} {h : zH} {Q : zQ} {a n t : Nat} {rs : List (Option Nat)} (ha : h.1[a]? = some (.inl t, n, rs)) (ht : t < 5) (hd : decode (zC k) pc = .ok (.arraylength, 1)) (w : ZW k g (pc + 1) ls (.int (Int32.ofNat n) :: r) h Q) : ZW k g pc ls (.ref a :: r) h Q := by
  intro p l e s m args below meth cc E L xs H locs lsA hC hT h1 h2 hP hS hl
  show W p l e _ s m args below meth cc H locs _ _ _ (F0 m pc lsA (.ref (zad E a) :: r.map (zv E)))
  rw [zad_lt hP ha]
  have hw := w p l e s m args below meth cc E L xs H locs lsA hC hT h1 h2 hP hS hl
  match t, ht, ha with
  | 0, _, ha => exact va_alen hC.1 hC.2.1 hT.1 hP.2.2 a 0 (zws_get ha) rfl rfl hd hw
  | 1, _, ha => exact va_alen hC.1 hC.2.1 hT.1 hP.2.2 a 1 (zws_get ha) rfl rfl hd hw
  | 2, _, ha => exact va_alen hC.1 hC.2.1 hT.1 hP.2.2 a 2 (zws_get ha) rfl rfl hd hw
  | 3, _, ha => exact va_alen hC.1 hC.2.1 hT.1 hP.2.2 a 3 (zws_get ha) rfl rfl hd hw
  | 4, _, ha => exact va_alen hC.1 hC.2.1 hT.1 hP.2.2 a 4 (zws_get ha) rfl rfl hd hw
theorem ZW.sld {k : Nat} {g : Nat × Nat × Nat × Nat} {pc : Nat} {ls : zLs} {r : List Value} {h : zH} {Q : zQ} {j : Int32} (hj : vp_in j (h.2 1000001 0).toNatClampNeg) (hd : decode (zC k) pc = .ok (.iaload, 1)) (w : ZW k g (pc + 1) ls (.int (h.2 1000000 j.toNatClampNeg) :: r) h Q) : ZW k g pc ls (.int j :: .ref 1000000 :: r) h Q := by
  intro p l e s m args below meth cc E L xs H locs lsA hC hT h1 h2 hP hS hl
  have hw := w p l e s m args below meth cc E L xs H locs lsA hC hT h1 h2 hP hS hl
  rw [h2] at hj
  have hLL : (Int32.ofNat L).toNatClampNeg = L := nI_clamp (by have := hT.2.2.2.2.1; omega)
  rw [hLL] at hj
  rw [h1] at hw
  exact va_sld hC.1 hC.2.1 hT.2.2.1 (Nat.lt_of_lt_of_le hT.2.2.2.1 hT.2.1) (Nat.not_le.mpr hT.2.2.2.1) hS hj hd hw
theorem ZW.slen {k : Nat} {g : Nat × Nat × Nat × Nat} {pc : Nat} {ls : zLs} {r : List Value} {h : zH} {Q : zQ} (hd : decode (zC k) pc = .ok (.arraylength, 1)) (w : ZW k g (pc + 1) ls (.int (h.2 1000001 0) :: r) h Q) : ZW k g pc ls (.ref 1000000 :: r) h Q := by
  intro p l e s m args below meth cc E L xs H locs lsA hC hT h1 h2 hP hS hl
  have hw := w p l e s m args below meth cc E L xs H locs lsA hC hT h1 h2 hP hS hl
  rw [h2] at hw
  exact va_slen hC.1 hC.2.1 hT.2.2.1 (Nat.lt_of_lt_of_le hT.2.2.2.1 hT.2.1) (Nat.not_le.mpr hT.2.2.2.1) hS hd hw
theorem ZW.aald {k : Nat} {g : Nat × Nat × Nat × Nat} {pc : Nat} {ls : zLs} {r : List Value} {h : zH} {Q : zQ} {a n b : Nat} {j : Int32} {rs : List (Option Nat)} (ha : h.1[a]? = some (.inl 4, n, rs)) (hj : vp_in j n) (hb : rs.getD j.toNatClampNeg none = some b) (hd : decode (zC k) pc = .ok (.aaload, 1)) (w : ZW k g (pc + 1) ls (.ref b :: r) h Q) : ZW k g pc ls (.int j :: .ref a :: r) h Q := by
  intro p l e s m args below meth cc E L xs H locs lsA hC hT h1 h2 hP hS hl
  show W p l e _ s m args below meth cc H locs _ _ _ (F0 m pc lsA (.int j :: .ref (zad E a) :: r.map (zv E)))
  rw [zad_lt hP ha]
  have hc : H[E.1 + a]? = some (vp_cell (E.2.2.1 4) (n, .inr (.inr (.inr (.inr (fun j => (rs.getD j none).map (zad E))))))) := hP.2.2 a _ (zws_get ha)
  rw [vp_cell_q] at hc
  refine W.aald hC.1 hC.2.1 hc ((hT.1.2 4 _ rfl).1 n _) rfl (fun q => by cases q) ?_ (v := .ref (zad E b)) ?_ rfl rfl hd (w p l e s m args below meth cc E L xs H locs lsA hC hT h1 h2 hP hS hl)
  · rw [arrV_size]
    exact hj
  · have hlt : j.toNatClampNeg < n := by
      have := hj
      unfold vp_in at this
      omega
    simp only [arrV]
    rw [Array.getElem?_ofFn, dif_pos hlt]
    simp only [hb]
    rfl
