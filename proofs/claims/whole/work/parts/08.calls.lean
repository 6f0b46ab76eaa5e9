/-! calls, returns, new cells -/
theorem zLk_ok {o i j : Nat} (h : zLk o i = some j) : (j = 999 ∧ (.methodLink (zRN o) i objectInit : Cond) ∈ zTB) ∨ (j ≠ 999 ∧ j < 234 ∧ ((.methodLink (zRN o) i (zY j) : Cond) ∈ zTB ∨ ((.methodLinkNest (zRN o) i (zY j) "PaymentHub" : Cond) ∈ zNW ∧ zSt j = true))) := by
  unfold zLk at h
  rw [Option.map_eq_some_iff] at h
  obtain ⟨e, he, h2⟩ := h
  have hm := List.mem_of_find?_eq_some he
  have hi := List.find?_some he
  simp only [beq_iff_eq] at hi
  cases h2
  have ho : o < 18 := by
    apply Decidable.byContradiction
    intro hn
    have : zLT.getD o [] = [] := zgD (by show 18 ≤ o; omega)
    rw [this] at hm
    cases hm
  have h1 := List.all_eq_true.mp (zmks o ho) e hm
  unfold zmk at h1
  rw [← hi]
  by_cases h9 : e.2.1 = 999
  · rw [if_pos h9] at h1
    simp only [decide_eq_true_eq] at h1
    exact Or.inl ⟨h9, zin _ h1 rfl⟩
  · rw [if_neg h9] at h1
    simp only [Bool.and_eq_true, decide_eq_true_eq] at h1
    refine Or.inr ⟨h9, h1.1, ?_⟩
    by_cases hp : e.2.2 = 9999
    · have h3 := h1.2
      rw [if_pos hp] at h3
      simp only [Bool.and_eq_true, decide_eq_true_eq] at h3
      exact Or.inr h3
    · have h3 := h1.2
      rw [if_neg hp] at h3
      simp only [decide_eq_true_eq] at h3
      exact Or.inl (zin _ h3 rfl)
theorem zGd {ws : List Cond} (h : ∀ w ∈ ws, w ∈ zTB) : GoodIn zTB ws := fun w hw => ⟨h w hw, good_of_word (List.mem_filter.mp (h w hw)).2⟩
theorem zini (o : Nat) (ho : o < 18) : (.initialized (zRN o) : Cond) ∈ zTB := by
  have h := List.all_eq_true.mp zio_all o (List.mem_range.mpr ho)
  simp only [zio, decide_eq_true_eq] at h
  exact zin _ h rfl
theorem zsl_map (E : zE) (as : List Value) : (lg_sl (as.map (zv E))).length = (lg_sl as).length := by
  induction as with
  | nil => rfl
  | cons a l ih =>
    simp only [lg_sl, List.map_cons, List.flatMap_cons, List.length_append] at ih ⊢
    rw [ih, zvcat]
    split <;> rfl
theorem lv_args_map (E : zE) (as : List Value) : ∀ i : Nat, lv_args i (as.map (zv E)) = (lv_args i as).map (fun q => (q.1, zv E q.2)) := by
  induction as with
  | nil => intro i; rfl
  | cons a l ih =>
    intro i
    show (i, zv E a) :: lv_args (if (zv E a).category = 2 then i + 2 else i + 1) (l.map (zv E)) = (i, zv E a) :: (lv_args (if a.category = 2 then i + 2 else i + 1) l).map _
    rw [zvcat, ih]
theorem zNw_warm {s U : State} (hW : s.WarmedH U.vm) (h : ∀ w ∈ zNW, va_Nw w s) : ∀ w ∈ zNW, va_Nw w U := by
  intro w hw
  have h0 := h w hw
  simp only [zNW, List.mem_cons, List.not_mem_nil, or_false] at hw
  rcases hw with rfl | rfl | rfl | rfl | rfl | rfl | rfl | rfl | rfl | rfl | rfl
  · exact va_Nw.warmF hW h0
  · exact va_Nw.warmF hW h0
  · exact va_Nw.warmF hW h0
  all_goals exact va_Nw.warmM hW h0
theorem zNw_tab (w : Cond) (hw : w ∈ zNW) : w.onTables = true := by
  simp only [zNW, List.mem_cons, List.not_mem_nil, or_false] at hw
  rcases hw with rfl | rfl | rfl | rfl | rfl | rfl | rfl | rfl | rfl | rfl | rfl <;> rfl
theorem zAO_moved {u U : State} {A : Array Value} (hvm : u.vm.Alike U.vm) (h : (Jvm.Cond.arrayOver (.array .int)).before A u = true) : (Jvm.Cond.arrayOver (.array .int)).before A U = true := by
  have e := Jvm.Cond.arrayOver_setVmC (args := A) hvm (.array .int)
  rw [h] at e
  exact e
theorem zStr_warm {E : zE} {s U : State} {h : zH} {H : Heap} {locs : List Loc} (hZ : zStr E s) (hb : E.1 ≤ s.heap.size) (hP : zP E h H) (hS : va_S (zAr E) s.heap H locs) (hU : U.heap = H) (hW : s.WarmedH U.vm) : zStr E U := by
  obtain ⟨a1, a2, a3, a4, a5⟩ := hZ
  rw [← hU] at hS
  exact ⟨(a1.moved hW.alike).kept hS.2.1, fun e he => vk_R.warm hW (a2 e he), (va_Z.moved hW.alike a3).kept hS.2.1, a4.imp (fun h => (va_Z.moved hW.alike h).kept hS.2.1) (fun h => (va_Z.moved hW.alike h).kept hS.2.1), zAO_moved hW.alike a5⟩
theorem zStr_call {E : zE} {U : State} {g : JFrame} {mk : MethodId} {a : Array Value} (hT : zStr E U) : zStr E (U.calling g mk a) := by
  obtain ⟨a1, a2, a3, a4, a5⟩ := hT
  exact ⟨vk_S.moved (u := U) (Vm.Alike.refl U.vm) a1, fun e he => vk_R.same (u := U) rfl (a2 e he), va_Z.moved (u := U) (Vm.Alike.refl U.vm) a3, a4.imp (va_Z.moved (u := U) (Vm.Alike.refl U.vm)) (va_Z.moved (u := U) (Vm.Alike.refl U.vm)), zAO_moved (u := U) (Vm.Alike.refl U.vm) a5⟩
theorem zT_warm {E : zE} {L : Nat} {xs : Nat → Int32} {s U : State} {h : zH} {H : Heap} {locs : List Loc} (hT : zT E L xs s) (hP : zP E h H) (hS : va_S (zAr E) s.heap H locs) (hU : U.heap = H) (hW : s.WarmedH U.vm) : zT E L xs U := by
  obtain ⟨a1, a2, a3, a4, a5, a6, a7⟩ := hT
  refine ⟨va_K.moved hW.alike a1, ?_, ?_, a4, a5, zNw_warm hW a6, zStr_warm a7 a2 hP hS hU hW⟩
  · rw [hU, hP.1]
    omega
  · rw [hU]
    exact (va_X.moved hW.alike a3).kept (hS.2.1 _ (Nat.lt_of_lt_of_le a4 a2) (Nat.not_le.mpr a4))
theorem zT_call {E : zE} {L : Nat} {xs : Nat → Int32} {U : State} {g : JFrame} {mk : MethodId} {a : Array Value} (hT : zT E L xs U) : zT E L xs (U.calling g mk a) := by
  obtain ⟨a1, a2, a3, a4, a5, a6, a7⟩ := hT
  exact ⟨va_K.moved (u := U) (Vm.Alike.refl U.vm) a1, a2, va_X.moved (u := U) (Vm.Alike.refl U.vm) a3, a4, a5, fun w hw => va_Nw.same (u := U) (zNw_tab w hw) rfl (a6 w hw), zStr_call a7⟩
theorem zMet {j mc ms : Nat} {as : List Value} {h : zH} {Q : zQ} (w : ZM j mc ms as h Q) (hm : zmo j = true) (hn : zsl as ≤ zL j) (l : Launch) (E : zE) (L : Nat) (xs : Nat → Int32) (h1 : h.2 1000000 = xs) (h2 : h.2 1000001 0 = Int32.ofNat L) :
    Met l (zY j) (.code (zY j) (zC j) (zL j) (zRt j) :: zTB) (zRm j (mc, ms, 0, 0)) (va_Pc (as.map (zv E)) (fun U => zT E L xs U ∧ zP E h U.heap)) (zQc E L xs Q) mc ms (zAr E) := by
  simp only [zmo, Bool.and_eq_true, decide_eq_true_eq] at hm
  obtain ⟨⟨⟨⟨⟨⟨⟨⟨-, -⟩, hcls⟩, -⟩, hpl⟩, -⟩, -⟩, -⟩, -⟩ := hm
  refine Met.ofW (cc := zC j) (maxL := zL j) (ret := zRt j) hpl rfl ?_
  intro p e s m args below meth c s₁ B hml hv
  obtain ⟨rfl, hT, hP⟩ := hv
  have hts := atoms_spec (ws := .code (zY j) (zC j) (zL j) (zRt j) :: zTB) B.pre
  have hown : s.vm.findClass (zY j).cls = some m.cls := findClass_of_methodNamed B.named
  rw [hcls] at hown
  have hl := lv_entry (as.map (zv E)) (n := zL j) (by rw [zsl_map]; exact hn)
  rw [lg_entry_eq]
  rw [lv_args_map] at hl
  exact w p l e s m _ below meth c E L xs s.heap [] _ ⟨B.exec, B.bytes, hml, B.returns, B.notSynchronized, hown, fun w hw => hts w (List.mem_cons_of_mem _ hw), (name_of_methodNamed B.named B.method).1⟩ hT h1 h2 hP va_S.rf hl
theorem zcont {p : Program} {l : Launch} {e : Env} {R : Room} {s : State} {m : MethodId} {args : Array Value} {below : List Frame} {meth : Method} {c : Code} {H : Heap} {locs : List Loc} {cells slots mc ms pc : Nat} {Z : State → Prop} {lsA : Array Slot} {st0 rest : List Value} {E : zE} {L : Nat} {xs : Nat → Int32} {Q : zQ} {aa : Array Value}
    (hr : va_Run p l e R s m args below meth c H locs cells slots mc ms (F0 m pc lsA st0) rest (zQc E L xs Q aa) (zAr E)) (hS : va_S (zAr E) s.heap H locs)
    (kk : ∀ (r : Option Value) (h' : zH) (H1 : Heap) (locs1 : List Loc), Q r h' → zP E h' H1 → h'.2 1000000 = xs → h'.2 1000001 0 = Int32.ofNat L → va_S (zAr E) s.heap H1 locs1 → W p l e R s m args below meth c H1 locs1 (cells + mc) (slots + ms) Z (F0 m (pc + 3) lsA ((r.map (zv E)).toList ++ rest))) : W p l e R s m args below meth c H locs cells slots Z (F0 m pc lsA st0) := by
  intro T hT X
  obtain ⟨v, st₀, t, T', LL, h0, X', hL, e1, e2, ⟨r, h', hq, hv, hp, hx1, hx2, hz, hk⟩, st⟩ := hr T hT X
  cases hv
  rw [h0] at hz hk
  obtain ⟨t2, a1, b1⟩ := kk r h' T'.heap (locs ++ LL) hq (by rw [e1]; exact hp) hx1 hx2 ⟨Nat.le_trans hS.1 (by rw [e1]; exact hz), fun q q1 q2 => by rw [e1, hk q (Nat.lt_of_lt_of_le q1 hS.1) q2]; exact hS.2.1 q q1 q2, fun q hq => by
      rcases List.mem_append.mp hq with h | h
      · exact hS.2.2 q h
      · exact hL q h⟩ T' rfl X'
  exact ⟨t2, st t2 a1, b1⟩
theorem zap_map (E : zE) (r : Option Value) (rest : List Value) : (r.map (zv E)).toList ++ rest.map (zv E) = (r.toList ++ rest).map (zv E) := by cases r <;> rfl
theorem zcs_map (E : zE) (rest : List Value) : ((rest.map (zv E)).map fun v => v.category).sum = zcs rest := by
  unfold zcs
  rw [List.map_map]
  congr 1
  apply List.map_congr_left
  intro v _
  exact zvcat E v
theorem zcr_ok {k j : Nat} {rest : List Value} (h : zcr k j rest = true) : zFr j + 1 ≤ zFr k ∧ 8 + (zL j + 11) + zLo j ≤ zLo k ∧ zcs rest ≤ 8 := by
  simp only [zcr, Bool.and_eq_true, decide_eq_true_eq] at h
  exact ⟨h.1.1, h.1.2, h.2⟩
theorem ZW.callV {k : Nat} {g : Nat × Nat × Nat × Nat} {pc : Nat} {ls : zLs} {h : zH} {Q : zQ} {x j a n : Nat} {as rest : List Value} {rs : List (Option Nat)} (hlk : zLk (zO k) x = some j) (hj : j < 219) (hst : zSt j = false) (hni : (zY j).name ≠ "<init>") (ho : h.1[a]? = some (.inr (zO j), n, rs)) (hr : zcr k j rest = true) (hsl : zsl (.ref a :: as) ≤ zL j) (hna : as.length + 1 = zNa j) (hgc : g.2.2.1 ≤ g.1 ∧ g.2.2.2 ≤ g.2.1) (hd : decode (zC k) pc = .ok (.invokevirtual x, 3))
    (w : ZM j 0 0 (.ref a :: as) h (fun r h => ZW k g (pc + 3) ls (r.toList ++ rest) h Q)) : ZW k g pc ls (as.reverse ++ .ref a :: rest) h Q := by
  intro p l e s m args below meth cc E L xs H locs lsA hC hT h1 h2 hP hS hl
  have hm := zmo_all j hj
  simp only [zmo, Bool.and_eq_true, decide_eq_true_eq, hst, Bool.false_eq_true, if_false, Bool.or_eq_true, hni, false_or] at hm
  obtain ⟨⟨⟨⟨⟨⟨⟨⟨hcode, hin, hsel⟩, hcls⟩, h18⟩, hpl⟩, hm1⟩, hm2⟩, hpar⟩, -⟩ := hm
  obtain ⟨hr1, hr2, hr3⟩ := zcr_ok hr
  have hts := hC.2.2.2.2.2.2.1
  have hcodeT := zin _ hcode rfl
  have hinT := zin _ hin rfl
  have hselT := zin _ hsel rfl
  have hiniT := zini (zO j) h18
  have hlink : (.methodLink (zRN (zO k)) x (zY j) : Cond) ∈ zTB := by
    rcases zLk_ok hlk with ⟨q, -⟩ | ⟨-, -, q | q⟩
    · omega
    · exact q
    · rw [hst] at q
      cases q.2
  have hC12 : zO j < 12 := by
    obtain ⟨rr, g1, -⟩ := hP.2.2 a _ (zws_get ho)
    have := (List.getElem?_eq_some_iff.mp g1).1
    exact this
  obtain ⟨hvc, -, -, -, -⟩ := zcls (zO j) hC12
  have hrecv := va_recv hT.1 hP.2.2 hvc (zws_get ho)
  have hst2 : (as.reverse ++ Value.ref a :: rest).map (zv E) = (as.map (zv E)).reverse ++ Value.ref (E.1 + a) :: rest.map (zv E) := by
    rw [List.map_append, List.map_reverse, List.map_cons]
    show _ ++ Value.ref (zad E a) :: _ = _
    rw [zad_lt hP ho]
  rw [hst2]
  have hM := zMet w (zmo_all j hj) hsl l E L xs h1 h2
  have hargs : (Value.ref a :: as).map (zv E) = Value.ref (E.1 + a) :: as.map (zv E) := by
    rw [List.map_cons]
    show Value.ref (zad E a) :: _ = _
    rw [zad_lt hP ho]
  rw [hargs] at hM
  refine zcont (va_runV (C := zRN (zO j)) (As := as.map (zv E)) (n := zNa j - 1) ⟨hC.1, hC.2.1, hC.2.2.1, hC.2.2.2.2.2.1, hts⟩ hM (cwV (zNa j - 1) hts (zGd (fun w hw => ?_)) rfl rfl rfl ⟨hcls, hm1, hm2, hpar⟩ ⟨hr1, hr2⟩) ⟨fun a U g mk q => ⟨q.1, zT_call q.2.1, q.2.2⟩, hrecv, fun U hU hW => ⟨rfl, zT_warm hT hP hS hU hW, by rw [hU]; exact hP⟩⟩ rfl (by rw [List.length_map]; omega) hl.1 rfl (lv_room (by rw [zcs_map]; exact hr3)) hd hgc) hS (fun r h' H1 locs1 hq hP1 hx1 hx2 hS1 => ?_)
  · simp only [wsV, List.mem_append, List.mem_cons, List.not_mem_nil, or_false] at hw
    rcases hw with (rfl | rfl | rfl | rfl) | rfl | hw
    · exact hlink
    · exact hinT
    · rw [hcls] at hselT
      exact hselT
    · exact hiniT
    · exact hcodeT
    · exact hw
  · rw [zap_map]
    exact hq p l e s m args below meth cc E L xs H1 locs1 lsA hC hT hx1 hx2 hP1 hS1 hl
