/-! the law: the same fifteen calls on both sides; written by wip/gen/law.py -/
theorem ZW.kp {k : Nat} {g : Nat × Nat × Nat × Nat} {pc : Nat} {ls : zLs} {st : List Value} {h : zH} {Q : zQ} (w : ZW k g pc ls st h (fun r h' => h'.2 1000000 = h.2 1000000 → h'.2 1000001 0 = h.2 1000001 0 → Q r h')) : ZW k g pc ls st h Q := by
  intro p l e s m args below meth cc E L xs H locs lsA hC hT h1 h2 hP hS hl
  refine W.mono (fun t ht => ?_) (w p l e s m args below meth cc E L xs H locs lsA hC hT h1 h2 hP hS hl)
  obtain ⟨o, a1, a2, ⟨r, h', b1, b2, b3, b4, b5, b6⟩, a4⟩ := ht
  exact ⟨o, a1, a2, ⟨r, h', b1 (b4.trans h1.symm) (b5.trans h2.symm), b2, b3, b4, b5, b6⟩, a4⟩
abbrev GL : Nat × Nat × Nat × Nat := (600000, 7302250, 75, 16772)
abbrev lvL (i : Nat) : zLs := [(3, .int (nI (2 + 4 * i))), (2, .ref 42), (1, .ref 0), (0, .ref 1000000)]
def NX (xs : Nat → Int32) (L i : Nat) (Q : zQ) : Prop := ∀ m : zM, Rl m (i + 1) → m 1000000 = xs → m 1000001 0 = nI L → ZW 219 GL 38 (lvL (i + 1)) [] (SH, m) Q
theorem jR_of {m : zM} {J : Nat → Nat} {n W d nT nQ nR nM : Nat} (h : IX m m J n W d nT nQ nR nM) : jR m J n W := h.1
theorem pR_of {m : zM} {J : Nat → Nat} {n W d nT nQ nR nM : Nat} (h : IX m m J n W d nT nQ nR nM) : pR m d := h.2.1
theorem tR_kp {m m2 : zM} {w : Nat → Nat} {wl : Nat} (ht : tR m w wl) (h9 : m2 9 = m 9) (h10 : m2 10 = m 10) (h43 : m2 43 = m 43) (h7 : m2 42 7 = m 42 7) : tR m2 w wl := by
  refine ⟨by rw [h9]; exact ht.1, by rw [h7]; exact ht.2.1, ht.2.2.1, ?_⟩
  rw [h10, h43]
  exact ht.2.2.2
theorem lv_1 {i L : Nat} (hi : 6 + 4 * i ≤ L) (hL5 : L ≤ 2050) : vp_in (nI (2 + 4 * i) + Int32.ofInt 1) (nI L).toNatClampNeg ∧ vp_in (nI (2 + 4 * i) + Int32.ofInt 2) (nI L).toNatClampNeg ∧ vp_in (nI (2 + 4 * i) + Int32.ofInt 3) (nI L).toNatClampNeg := by
  refine ⟨?_, ?_, ?_⟩
  all_goals simp (disch := first | omega | decide) only [zcn, zkpl, zki, zki1, zk8, zk16, zo32, zlt0, zle0, zeq0, zgt0, zLe0, nI_ltI, nI_leI, nI_eq, nI_add, nI_clamp, vp_in_nI, zup_s, zup_n, upd_s, upd_n, ne_eq, not_true_eq_false, not_false_eq_true]
theorem nx_i {m : zM} {i : Nat} {Q : zQ} (W : ZW 219 GL 38 (lvL (i + 1)) [] (SH, m) Q) : ZW 219 GL 38 [(3, .int (nI (2 + 4 * i) + Int32.ofInt 4)), (2, .ref 42), (1, .ref 0), (0, .ref 1000000)] [] (SH, m) Q := by
  have e : nI (2 + 4 * i) + Int32.ofInt 4 = nI (2 + 4 * (i + 1)) := by
    rw [show (Int32.ofInt 4) = nI 4 from rfl]
    simp only [nI, ← Int32.ofNat_add]
    congr 1
  rw [e]
  exact W
set_option maxRecDepth 6000 in
theorem l_put {m : zM} {xs : Nat → Int32} {L i : Nat} {Q : zQ} (hR : Rl m i) (hi : 6 + 4 * i ≤ L) (hL5 : L ≤ 2050) (hx : m 1000000 = xs) (hL : m 1000001 0 = nI L) (hn : NX xs L i Q) : ZW 219 GL 128 (lvL i) [] (SH, m) Q := by
  have v2 : ∀ M : zM, M 1000001 0 = nI L → vp_in (nI (2 + 4 * i) + Int32.ofInt 1) (M 1000001 0).toNatClampNeg ∧ vp_in (nI (2 + 4 * i) + Int32.ofInt 2) (M 1000001 0).toNatClampNeg ∧ vp_in (nI (2 + 4 * i) + Int32.ofInt 3) (M 1000001 0).toNatClampNeg := fun M h => by rw [h]; exact lv_1 hi hL5
  obtain ⟨J, n, W, d, nT, nQ, nR, nM, w, wl, c, h, ht, hcl, hcm, hcb⟩ := id hR
  have fin : ∀ r : Int32, ∀ m2 : zM, Rl m2 (i + 1) → m2 1000000 = xs → m2 1000001 0 = nI L → ZW 219 GL 186 (lvL i) [.int r, .int r] (SH, m2) Q := by
    intro r m2 hr x1 x2
    have W := hn m2 hr x1 x2
    refine zgo 10 [] ?_
    refine ⟨fun _ => ?_, fun hc => absurd rfl hc⟩
    exact nx_i W
  obtain ⟨r, m1, m2, w2, wl2, e1, e2, i2, t2, k1, k2⟩ := op_put h ht ((m 1000000 (nI (2 + 4 * i) + Int32.ofInt 1).toNatClampNeg).toInt64 <<< (((Int8.ofInt 32).toInt32).toInt64 &&& 63) ||| (m 1000000 (nI (2 + 4 * i) + Int32.ofInt 2).toNatClampNeg).toInt64 &&& Int64.ofNat 4294967295) (m 1000000 (nI (2 + 4 * i) + Int32.ofInt 3).toNatClampNeg)
  have hr2 : Rl m2 (i + 1) := ⟨J, n, W, d, nT, nQ, nR, nM, w2, wl2, c, i2, t2, by rw [k1]; exact hcl, by rw [k2]; exact hcm, by omega⟩
  refine zgo 30 [] ?_
  refine ⟨(v2 m hL).1, ⟨(v2 m hL).2.1, ⟨(v2 m hL).2.2, ?_⟩⟩⟩
  show ZM 132 0 0 [.ref 0, .long ((m 1000000 (nI (2 + 4 * i) + Int32.ofInt 1).toNatClampNeg).toInt64 <<< (((Int8.ofInt 32).toInt32).toInt64 &&& 63) ||| (m 1000000 (nI (2 + 4 * i) + Int32.ofInt 2).toNatClampNeg).toInt64 &&& Int64.ofNat 4294967295), .int (m 1000000 (nI (2 + 4 * i) + Int32.ofInt 3).toNatClampNeg)] (SH, m) _
  refine ZW.kp ?_
  refine Ev.use e1 (fun y1 y2 => ?_)
  replace y1 : m1 1000000 = m 1000000 := y1
  replace y2 : m1 1000001 0 = m 1000001 0 := y2
  show ZW 219 GL 157 (lvL i) [.int r] (SH, m1) Q
  refine zgo 30 [] ?_
  refine ⟨(v2 m1 (y2.trans hL)).1, ⟨(v2 m1 (y2.trans hL)).2.1, ⟨(v2 m1 (y2.trans hL)).2.2, ?_⟩⟩⟩
  show ZM 161 0 0 [.ref 42, .long ((m1 1000000 (nI (2 + 4 * i) + Int32.ofInt 1).toNatClampNeg).toInt64 <<< (((Int8.ofInt 32).toInt32).toInt64 &&& 63) ||| (m1 1000000 (nI (2 + 4 * i) + Int32.ofInt 2).toNatClampNeg).toInt64 &&& Int64.ofNat 4294967295), .int (m1 1000000 (nI (2 + 4 * i) + Int32.ofInt 3).toNatClampNeg)] (SH, m1) _
  rw [y1]
  refine ZW.kp ?_
  refine Ev.use e2 (fun z1 z2 => ?_)
  exact fin r m2 hr2 (z1.trans (y1.trans hx)) (z2.trans (y2.trans hL))
set_option maxRecDepth 6000 in
theorem l_submit {m : zM} {xs : Nat → Int32} {L i : Nat} {Q : zQ} (hR : Rl m i) (hi : 6 + 4 * i ≤ L) (hL5 : L ≤ 2050) (hx : m 1000000 = xs) (hL : m 1000001 0 = nI L) (hn : NX xs L i Q) : ZW 219 GL 191 (lvL i) [] (SH, m) Q := by
  have v2 : ∀ M : zM, M 1000001 0 = nI L → vp_in (nI (2 + 4 * i) + Int32.ofInt 1) (M 1000001 0).toNatClampNeg ∧ vp_in (nI (2 + 4 * i) + Int32.ofInt 2) (M 1000001 0).toNatClampNeg ∧ vp_in (nI (2 + 4 * i) + Int32.ofInt 3) (M 1000001 0).toNatClampNeg := fun M h => by rw [h]; exact lv_1 hi hL5
  obtain ⟨J, n, W, d, nT, nQ, nR, nM, w, wl, c, h, ht, hcl, hcm, hcb⟩ := id hR
  have fin : ∀ r : Int32, ∀ m2 : zM, Rl m2 (i + 1) → m2 1000000 = xs → m2 1000001 0 = nI L → ZW 219 GL 199 (lvL i) [.int r, .int r] (SH, m2) Q := by
    intro r m2 hr x1 x2
    have W := hn m2 hr x1 x2
    refine zgo 10 [] ?_
    refine ⟨fun _ => ?_, fun hc => absurd rfl hc⟩
    exact nx_i W
  refine zgo 30 [] ?_
  show ZM 133 0 0 [.ref 0] (SH, m) _
  refine ZW.kp ?_
  refine op_submit h ht _ (fun r m1 hm y1 y2 => ?_)
  replace y1 : m1 1000000 = m 1000000 := y1
  replace y2 : m1 1000001 0 = m 1000001 0 := y2
  show ZW 219 GL 195 (lvL i) [.int r] (SH, m1) Q
  refine zgo 30 [] ?_
  show ZM 204 0 0 [.ref 42] (SH, m1) _
  refine ZW.kp ?_
  refine hm _ (fun m2 hse z1 z2 => ?_)
  obtain ⟨J2, n2, W2, d2, nT2, nQ2, nR2, nM2, w2, wl2, i2, t2, s1, s2⟩ := hse
  exact fin r m2 ⟨J2, n2, W2, d2, nT2, nQ2, nR2, nM2, w2, wl2, c, i2, t2, by rw [s1]; exact hcl, by rw [s2]; exact hcm, by omega⟩ (z1.trans (y1.trans hx)) (z2.trans (y2.trans hL))
set_option maxRecDepth 6000 in
theorem l_work {m : zM} {xs : Nat → Int32} {L i : Nat} {Q : zQ} (hR : Rl m i) (hi : 6 + 4 * i ≤ L) (hL5 : L ≤ 2050) (hx : m 1000000 = xs) (hL : m 1000001 0 = nI L) (hn : NX xs L i Q) : ZW 219 GL 204 (lvL i) [] (SH, m) Q := by
  have v2 : ∀ M : zM, M 1000001 0 = nI L → vp_in (nI (2 + 4 * i) + Int32.ofInt 1) (M 1000001 0).toNatClampNeg ∧ vp_in (nI (2 + 4 * i) + Int32.ofInt 2) (M 1000001 0).toNatClampNeg ∧ vp_in (nI (2 + 4 * i) + Int32.ofInt 3) (M 1000001 0).toNatClampNeg := fun M h => by rw [h]; exact lv_1 hi hL5
  obtain ⟨J, n, W, d, nT, nQ, nR, nM, w, wl, c, h, ht, hcl, hcm, hcb⟩ := id hR
  have fin : ∀ r : Int32, ∀ m2 : zM, Rl m2 (i + 1) → m2 1000000 = xs → m2 1000001 0 = nI L → ZW 219 GL 212 (lvL i) [.int r, .int r] (SH, m2) Q := by
    intro r m2 hr x1 x2
    have W := hn m2 hr x1 x2
    refine zgo 10 [] ?_
    refine ⟨fun _ => ?_, fun hc => absurd rfl hc⟩
    exact nx_i W
  obtain ⟨r, m1, m2, J2, n2, W2, d2, nQ2, e1, e2, i2, k⟩ := op_work h hcl hcm (by omega)
  have hr2 : Rl m2 (i + 1) := ⟨J2, n2, W2, d2, nT, nQ2, nR, nM, w, wl, c, i2, tR_kp ht k.2.1 k.2.2.1 k.2.2.2.1 k.2.2.2.2.2, by rw [k.1]; exact hcl, by rw [k.2.2.2.2.1]; exact hcm, by omega⟩
  refine zgo 30 [] ?_
  show ZM 134 0 0 [.ref 0] (SH, m) _
  refine ZW.kp ?_
  refine Ev.use e1 (fun y1 y2 => ?_)
  replace y1 : m1 1000000 = m 1000000 := y1
  replace y2 : m1 1000001 0 = m 1000001 0 := y2
  show ZW 219 GL 208 (lvL i) [.int r] (SH, m1) Q
  refine zgo 30 [] ?_
  show ZM 205 0 0 [.ref 42] (SH, m1) _
  refine ZW.kp ?_
  refine Ev.use e2 (fun z1 z2 => ?_)
  exact fin r m2 hr2 (z1.trans (y1.trans hx)) (z2.trans (y2.trans hL))
set_option maxRecDepth 6000 in
theorem l_tick {m : zM} {xs : Nat → Int32} {L i : Nat} {Q : zQ} (hR : Rl m i) (hi : 6 + 4 * i ≤ L) (hL5 : L ≤ 2050) (hx : m 1000000 = xs) (hL : m 1000001 0 = nI L) (hn : NX xs L i Q) : ZW 219 GL 217 (lvL i) [] (SH, m) Q := by
  have v2 : ∀ M : zM, M 1000001 0 = nI L → vp_in (nI (2 + 4 * i) + Int32.ofInt 1) (M 1000001 0).toNatClampNeg ∧ vp_in (nI (2 + 4 * i) + Int32.ofInt 2) (M 1000001 0).toNatClampNeg ∧ vp_in (nI (2 + 4 * i) + Int32.ofInt 3) (M 1000001 0).toNatClampNeg := fun M h => by rw [h]; exact lv_1 hi hL5
  obtain ⟨J, n, W, d, nT, nQ, nR, nM, w, wl, c, h, ht, hcl, hcm, hcb⟩ := id hR
  have fin : ∀ r : Int32, ∀ m2 : zM, Rl m2 (i + 1) → m2 1000000 = xs → m2 1000001 0 = nI L → ZW 219 GL 235 (lvL i) [.int r, .int r] (SH, m2) Q := by
    intro r m2 hr x1 x2
    have W := hn m2 hr x1 x2
    refine zgo 10 [] ?_
    refine ⟨fun _ => ?_, fun hc => absurd rfl hc⟩
    exact nx_i W
  obtain ⟨r, m1, m2, J2, n2, W2, d2, nQ2, nR2, c2, e1, e2, i2, k1, k2, k3, k4, k5, k6, k7⟩ := op_tick h hcl hcm (m 1000000 (nI (2 + 4 * i) + Int32.ofInt 1).toNatClampNeg)
  have hr2 : Rl m2 (i + 1) := ⟨J2, n2, W2, d2, nT, nQ2, nR2, nM, w, wl, c2, i2, tR_kp ht k4 k5 k6 k7, k1, k2, by omega⟩
  refine zgo 30 [] ?_
  refine ⟨(v2 m hL).1, ?_⟩
  show ZM 135 0 0 [.ref 0, .int (m 1000000 (nI (2 + 4 * i) + Int32.ofInt 1).toNatClampNeg)] (SH, m) _
  refine ZW.kp ?_
  refine Ev.use e1 (fun y1 y2 => ?_)
  replace y1 : m1 1000000 = m 1000000 := y1
  replace y2 : m1 1000001 0 = m 1000001 0 := y2
  show ZW 219 GL 226 (lvL i) [.int r] (SH, m1) Q
  refine zgo 30 [] ?_
  refine ⟨(v2 m1 (y2.trans hL)).1, ?_⟩
  show ZM 206 0 0 [.ref 42, .int (m1 1000000 (nI (2 + 4 * i) + Int32.ofInt 1).toNatClampNeg)] (SH, m1) _
  rw [y1]
  refine ZW.kp ?_
  refine Ev.use e2 (fun z1 z2 => ?_)
  exact fin r m2 hr2 (z1.trans (y1.trans hx)) (z2.trans (y2.trans hL))
set_option maxRecDepth 6000 in
theorem l_send {m : zM} {xs : Nat → Int32} {L i : Nat} {Q : zQ} (hR : Rl m i) (hi : 6 + 4 * i ≤ L) (hL5 : L ≤ 2050) (hx : m 1000000 = xs) (hL : m 1000001 0 = nI L) (hn : NX xs L i Q) : ZW 219 GL 240 (lvL i) [] (SH, m) Q := by
  have v2 : ∀ M : zM, M 1000001 0 = nI L → vp_in (nI (2 + 4 * i) + Int32.ofInt 1) (M 1000001 0).toNatClampNeg ∧ vp_in (nI (2 + 4 * i) + Int32.ofInt 2) (M 1000001 0).toNatClampNeg ∧ vp_in (nI (2 + 4 * i) + Int32.ofInt 3) (M 1000001 0).toNatClampNeg := fun M h => by rw [h]; exact lv_1 hi hL5
  obtain ⟨J, n, W, d, nT, nQ, nR, nM, w, wl, c, h, ht, hcl, hcm, hcb⟩ := id hR
  have fin : ∀ r : Int32, ∀ m2 : zM, Rl m2 (i + 1) → m2 1000000 = xs → m2 1000001 0 = nI L → ZW 219 GL 248 (lvL i) [.int r, .int r] (SH, m2) Q := by
    intro r m2 hr x1 x2
    have W := hn m2 hr x1 x2
    refine zgo 10 [] ?_
    refine ⟨fun _ => ?_, fun hc => absurd rfl hc⟩
    exact nx_i W
  obtain ⟨r, m1, m2, J2, n2, W2, d2, e1, e2, i2, k⟩ := op_send h
  have hr2 : Rl m2 (i + 1) := ⟨J2, n2, W2, d2, nT, nQ, nR, nM, w, wl, c, i2, tR_kp ht k.2.1 k.2.2.1 k.2.2.2.1 k.2.2.2.2.2, by rw [k.1]; exact hcl, by rw [k.2.2.2.2.1]; exact hcm, by omega⟩
  refine zgo 30 [] ?_
  show ZM 136 0 0 [.ref 0] (SH, m) _
  refine ZW.kp ?_
  refine Ev.use e1 (fun y1 y2 => ?_)
  replace y1 : m1 1000000 = m 1000000 := y1
  replace y2 : m1 1000001 0 = m 1000001 0 := y2
  show ZW 219 GL 244 (lvL i) [.int r] (SH, m1) Q
  refine zgo 30 [] ?_
  show ZM 207 0 0 [.ref 42] (SH, m1) _
  refine ZW.kp ?_
  refine Ev.use e2 (fun z1 z2 => ?_)
  exact fin r m2 hr2 (z1.trans (y1.trans hx)) (z2.trans (y2.trans hL))
set_option maxRecDepth 6000 in
theorem l_fail {m : zM} {xs : Nat → Int32} {L i : Nat} {Q : zQ} (hR : Rl m i) (hi : 6 + 4 * i ≤ L) (hL5 : L ≤ 2050) (hx : m 1000000 = xs) (hL : m 1000001 0 = nI L) (hn : NX xs L i Q) : ZW 219 GL 253 (lvL i) [] (SH, m) Q := by
  have v2 : ∀ M : zM, M 1000001 0 = nI L → vp_in (nI (2 + 4 * i) + Int32.ofInt 1) (M 1000001 0).toNatClampNeg ∧ vp_in (nI (2 + 4 * i) + Int32.ofInt 2) (M 1000001 0).toNatClampNeg ∧ vp_in (nI (2 + 4 * i) + Int32.ofInt 3) (M 1000001 0).toNatClampNeg := fun M h => by rw [h]; exact lv_1 hi hL5
  obtain ⟨J, n, W, d, nT, nQ, nR, nM, w, wl, c, h, ht, hcl, hcm, hcb⟩ := id hR
  have fin : ∀ r : Int32, ∀ m2 : zM, Rl m2 (i + 1) → m2 1000000 = xs → m2 1000001 0 = nI L → ZW 219 GL 281 (lvL i) [.int r, .int r] (SH, m2) Q := by
    intro r m2 hr x1 x2
    have W := hn m2 hr x1 x2
    refine zgo 10 [] ?_
    refine ⟨fun _ => ?_, fun hc => absurd rfl hc⟩
    exact nx_i W
  obtain ⟨r, m1, m2, e1, e2, i2, k1, k2⟩ := op_fail h (m 1000000 (nI (2 + 4 * i) + Int32.ofInt 1).toNatClampNeg) (m 1000000 (nI (2 + 4 * i) + Int32.ofInt 2).toNatClampNeg)
  have hr2 : Rl m2 (i + 1) := ⟨J, n, W, d, nT, nQ, nR, nM, w, wl, c, i2, ⟨by rw [k1 9 (by decide) (by decide)]; exact ht.1, by rw [k2 7 (by decide) (by decide)]; exact ht.2.1, ht.2.2.1, by rw [k1 10 (by decide) (by decide), k1 43 (by decide) (by decide)]; exact ht.2.2.2⟩, by rw [k1 0 (by decide) (by decide)]; exact hcl, by rw [k2 2 (by decide) (by decide)]; exact hcm, by omega⟩
  refine zgo 30 [] ?_
  refine ⟨(v2 m hL).1, ⟨(v2 m hL).2.1, ?_⟩⟩
  show ZM 137 0 0 [.ref 0, .int (m 1000000 (nI (2 + 4 * i) + Int32.ofInt 1).toNatClampNeg), .int (m 1000000 (nI (2 + 4 * i) + Int32.ofInt 2).toNatClampNeg)] (SH, m) _
  refine ZW.kp ?_
  refine Ev.use e1 (fun y1 y2 => ?_)
  replace y1 : m1 1000000 = m 1000000 := y1
  replace y2 : m1 1000001 0 = m 1000001 0 := y2
  show ZW 219 GL 267 (lvL i) [.int r] (SH, m1) Q
  refine zgo 30 [] ?_
  refine ⟨(v2 m1 (y2.trans hL)).1, ⟨(v2 m1 (y2.trans hL)).2.1, ?_⟩⟩
  show ZM 208 0 0 [.ref 42, .int (m1 1000000 (nI (2 + 4 * i) + Int32.ofInt 1).toNatClampNeg), .int (m1 1000000 (nI (2 + 4 * i) + Int32.ofInt 2).toNatClampNeg)] (SH, m1) _
  rw [y1]
  refine ZW.kp ?_
  refine Ev.use e2 (fun z1 z2 => ?_)
  exact fin r m2 hr2 (z1.trans (y1.trans hx)) (z2.trans (y2.trans hL))
set_option maxRecDepth 6000 in
theorem l_recover {m : zM} {xs : Nat → Int32} {L i : Nat} {Q : zQ} (hR : Rl m i) (hi : 6 + 4 * i ≤ L) (hL5 : L ≤ 2050) (hx : m 1000000 = xs) (hL : m 1000001 0 = nI L) (hn : NX xs L i Q) : ZW 219 GL 286 (lvL i) [] (SH, m) Q := by
  have v2 : ∀ M : zM, M 1000001 0 = nI L → vp_in (nI (2 + 4 * i) + Int32.ofInt 1) (M 1000001 0).toNatClampNeg ∧ vp_in (nI (2 + 4 * i) + Int32.ofInt 2) (M 1000001 0).toNatClampNeg ∧ vp_in (nI (2 + 4 * i) + Int32.ofInt 3) (M 1000001 0).toNatClampNeg := fun M h => by rw [h]; exact lv_1 hi hL5
  obtain ⟨J, n, W, d, nT, nQ, nR, nM, w, wl, c, h, ht, hcl, hcm, hcb⟩ := id hR
  have fin : ∀ r : Int32, ∀ m2 : zM, Rl m2 (i + 1) → m2 1000000 = xs → m2 1000001 0 = nI L → ZW 219 GL 294 (lvL i) [.int r, .int r] (SH, m2) Q := by
    intro r m2 hr x1 x2
    have W := hn m2 hr x1 x2
    refine zgo 10 [] ?_
    refine ⟨fun _ => ?_, fun hc => absurd rfl hc⟩
    exact nx_i W
  obtain ⟨r, m1, m2, n2, wl2, e1, e2, i2, t2, k1, k2⟩ := op_recover h ht
  have hr2 : Rl m2 (i + 1) := ⟨J, n2, W, 0, nT, nQ, nR, nM, w, wl2, c, i2, t2, by rw [k1]; exact hcl, by rw [k2]; exact hcm, by omega⟩
  refine zgo 30 [] ?_
  show ZM 138 0 0 [.ref 0] (SH, m) _
  refine ZW.kp ?_
  refine Ev.use e1 (fun y1 y2 => ?_)
  replace y1 : m1 1000000 = m 1000000 := y1
  replace y2 : m1 1000001 0 = m 1000001 0 := y2
  show ZW 219 GL 290 (lvL i) [.int r] (SH, m1) Q
  refine zgo 30 [] ?_
  show ZM 209 0 0 [.ref 42] (SH, m1) _
  refine ZW.kp ?_
  refine Ev.use e2 (fun z1 z2 => ?_)
  exact fin r m2 hr2 (z1.trans (y1.trans hx)) (z2.trans (y2.trans hL))
set_option maxRecDepth 6000 in
theorem l_journal {m : zM} {xs : Nat → Int32} {L i : Nat} {Q : zQ} (hR : Rl m i) (hi : 6 + 4 * i ≤ L) (hL5 : L ≤ 2050) (hx : m 1000000 = xs) (hL : m 1000001 0 = nI L) (hn : NX xs L i Q) : ZW 219 GL 299 (lvL i) [] (SH, m) Q := by
  have v2 : ∀ M : zM, M 1000001 0 = nI L → vp_in (nI (2 + 4 * i) + Int32.ofInt 1) (M 1000001 0).toNatClampNeg ∧ vp_in (nI (2 + 4 * i) + Int32.ofInt 2) (M 1000001 0).toNatClampNeg ∧ vp_in (nI (2 + 4 * i) + Int32.ofInt 3) (M 1000001 0).toNatClampNeg := fun M h => by rw [h]; exact lv_1 hi hL5
  obtain ⟨J, n, W, d, nT, nQ, nR, nM, w, wl, c, h, ht, hcl, hcm, hcb⟩ := id hR
  have fin : ∀ r : Int32, ∀ m2 : zM, Rl m2 (i + 1) → m2 1000000 = xs → m2 1000001 0 = nI L → ZW 219 GL 307 (lvL i) [.int r, .int r] (SH, m2) Q := by
    intro r m2 hr x1 x2
    have W := hn m2 hr x1 x2
    refine zgo 10 [] ?_
    refine ⟨fun _ => ?_, fun hc => absurd rfl hc⟩
    exact nx_i W
  obtain ⟨r, e1, e2⟩ := op_journal (jR_of h) 
  have hr2 : Rl m (i + 1) := ⟨J, n, W, d, nT, nQ, nR, nM, w, wl, c, h, ht, hcl, hcm, by omega⟩
  refine zgo 30 [] ?_
  show ZM 139 0 0 [.ref 0] (SH, m) _
  refine ZW.kp ?_
  refine Ev.use e1 (fun y1 y2 => ?_)
  replace y1 : m 1000000 = m 1000000 := y1
  replace y2 : m 1000001 0 = m 1000001 0 := y2
  show ZW 219 GL 303 (lvL i) [.int r] (SH, m) Q
  refine zgo 30 [] ?_
  show ZM 210 0 0 [.ref 42] (SH, m) _
  refine ZW.kp ?_
  refine Ev.use e2 (fun z1 z2 => ?_)
  exact fin r m hr2 (z1.trans (y1.trans hx)) (z2.trans (y2.trans hL))
set_option maxRecDepth 6000 in
theorem l_octet {m : zM} {xs : Nat → Int32} {L i : Nat} {Q : zQ} (hR : Rl m i) (hi : 6 + 4 * i ≤ L) (hL5 : L ≤ 2050) (hx : m 1000000 = xs) (hL : m 1000001 0 = nI L) (hn : NX xs L i Q) : ZW 219 GL 312 (lvL i) [] (SH, m) Q := by
  have v2 : ∀ M : zM, M 1000001 0 = nI L → vp_in (nI (2 + 4 * i) + Int32.ofInt 1) (M 1000001 0).toNatClampNeg ∧ vp_in (nI (2 + 4 * i) + Int32.ofInt 2) (M 1000001 0).toNatClampNeg ∧ vp_in (nI (2 + 4 * i) + Int32.ofInt 3) (M 1000001 0).toNatClampNeg := fun M h => by rw [h]; exact lv_1 hi hL5
  obtain ⟨J, n, W, d, nT, nQ, nR, nM, w, wl, c, h, ht, hcl, hcm, hcb⟩ := id hR
  have fin : ∀ r : Int32, ∀ m2 : zM, Rl m2 (i + 1) → m2 1000000 = xs → m2 1000001 0 = nI L → ZW 219 GL 330 (lvL i) [.int r, .int r] (SH, m2) Q := by
    intro r m2 hr x1 x2
    have W := hn m2 hr x1 x2
    refine zgo 10 [] ?_
    refine ⟨fun _ => ?_, fun hc => absurd rfl hc⟩
    exact nx_i W
  obtain ⟨r, e1, e2⟩ := op_octet (jR_of h) (m 1000000 (nI (2 + 4 * i) + Int32.ofInt 1).toNatClampNeg)
  have hr2 : Rl m (i + 1) := ⟨J, n, W, d, nT, nQ, nR, nM, w, wl, c, h, ht, hcl, hcm, by omega⟩
  refine zgo 30 [] ?_
  refine ⟨(v2 m hL).1, ?_⟩
  show ZM 140 0 0 [.ref 0, .int (m 1000000 (nI (2 + 4 * i) + Int32.ofInt 1).toNatClampNeg)] (SH, m) _
  refine ZW.kp ?_
  refine Ev.use e1 (fun y1 y2 => ?_)
  replace y1 : m 1000000 = m 1000000 := y1
  replace y2 : m 1000001 0 = m 1000001 0 := y2
  show ZW 219 GL 321 (lvL i) [.int r] (SH, m) Q
  refine zgo 30 [] ?_
  refine ⟨(v2 m hL).1, ?_⟩
  show ZM 211 0 0 [.ref 42, .int (m 1000000 (nI (2 + 4 * i) + Int32.ofInt 1).toNatClampNeg)] (SH, m) _
  refine ZW.kp ?_
  refine Ev.use e2 (fun z1 z2 => ?_)
  exact fin r m hr2 (z1.trans (y1.trans hx)) (z2.trans (y2.trans hL))
set_option maxRecDepth 6000 in
theorem l_transaction {m : zM} {xs : Nat → Int32} {L i : Nat} {Q : zQ} (hR : Rl m i) (hi : 6 + 4 * i ≤ L) (hL5 : L ≤ 2050) (hx : m 1000000 = xs) (hL : m 1000001 0 = nI L) (hn : NX xs L i Q) : ZW 219 GL 335 (lvL i) [] (SH, m) Q := by
  have v2 : ∀ M : zM, M 1000001 0 = nI L → vp_in (nI (2 + 4 * i) + Int32.ofInt 1) (M 1000001 0).toNatClampNeg ∧ vp_in (nI (2 + 4 * i) + Int32.ofInt 2) (M 1000001 0).toNatClampNeg ∧ vp_in (nI (2 + 4 * i) + Int32.ofInt 3) (M 1000001 0).toNatClampNeg := fun M h => by rw [h]; exact lv_1 hi hL5
  obtain ⟨J, n, W, d, nT, nQ, nR, nM, w, wl, c, h, ht, hcl, hcm, hcb⟩ := id hR
  have fin : ∀ r : Int32, ∀ m2 : zM, Rl m2 (i + 1) → m2 1000000 = xs → m2 1000001 0 = nI L → ZW 219 GL 363 (lvL i) [.int r, .int r] (SH, m2) Q := by
    intro r m2 hr x1 x2
    have W := hn m2 hr x1 x2
    refine zgo 10 [] ?_
    refine ⟨fun _ => ?_, fun hc => absurd rfl hc⟩
    exact nx_i W
  obtain ⟨r, e1, e2⟩ := op_transaction (pR_of h) h.2.2.2.1 (m 1000000 (nI (2 + 4 * i) + Int32.ofInt 1).toNatClampNeg) (m 1000000 (nI (2 + 4 * i) + Int32.ofInt 2).toNatClampNeg)
  have hr2 : Rl m (i + 1) := ⟨J, n, W, d, nT, nQ, nR, nM, w, wl, c, h, ht, hcl, hcm, by omega⟩
  refine zgo 30 [] ?_
  refine ⟨(v2 m hL).1, ⟨(v2 m hL).2.1, ?_⟩⟩
  show ZM 141 0 0 [.ref 0, .int (m 1000000 (nI (2 + 4 * i) + Int32.ofInt 1).toNatClampNeg), .int (m 1000000 (nI (2 + 4 * i) + Int32.ofInt 2).toNatClampNeg)] (SH, m) _
  refine ZW.kp ?_
  refine Ev.use e1 (fun y1 y2 => ?_)
  replace y1 : m 1000000 = m 1000000 := y1
  replace y2 : m 1000001 0 = m 1000001 0 := y2
  show ZW 219 GL 349 (lvL i) [.int r] (SH, m) Q
  refine zgo 30 [] ?_
  refine ⟨(v2 m hL).1, ⟨(v2 m hL).2.1, ?_⟩⟩
  show ZM 212 0 0 [.ref 42, .int (m 1000000 (nI (2 + 4 * i) + Int32.ofInt 1).toNatClampNeg), .int (m 1000000 (nI (2 + 4 * i) + Int32.ofInt 2).toNatClampNeg)] (SH, m) _
  refine ZW.kp ?_
  refine Ev.use e2 (fun z1 z2 => ?_)
  exact fin r m hr2 (z1.trans (y1.trans hx)) (z2.trans (y2.trans hL))
set_option maxRecDepth 6000 in
theorem l_queue {m : zM} {xs : Nat → Int32} {L i : Nat} {Q : zQ} (hR : Rl m i) (hi : 6 + 4 * i ≤ L) (hL5 : L ≤ 2050) (hx : m 1000000 = xs) (hL : m 1000001 0 = nI L) (hn : NX xs L i Q) : ZW 219 GL 368 (lvL i) [] (SH, m) Q := by
  have v2 : ∀ M : zM, M 1000001 0 = nI L → vp_in (nI (2 + 4 * i) + Int32.ofInt 1) (M 1000001 0).toNatClampNeg ∧ vp_in (nI (2 + 4 * i) + Int32.ofInt 2) (M 1000001 0).toNatClampNeg ∧ vp_in (nI (2 + 4 * i) + Int32.ofInt 3) (M 1000001 0).toNatClampNeg := fun M h => by rw [h]; exact lv_1 hi hL5
  obtain ⟨J, n, W, d, nT, nQ, nR, nM, w, wl, c, h, ht, hcl, hcm, hcb⟩ := id hR
  have fin : ∀ r : Int32, ∀ m2 : zM, Rl m2 (i + 1) → m2 1000000 = xs → m2 1000001 0 = nI L → ZW 219 GL 386 (lvL i) [.int r, .int r] (SH, m2) Q := by
    intro r m2 hr x1 x2
    have W := hn m2 hr x1 x2
    refine zgo 10 [] ?_
    refine ⟨fun _ => ?_, fun hc => absurd rfl hc⟩
    exact nx_i W
  obtain ⟨r, e1, e2⟩ := op_queue (pR_of h) h.2.2.2.1 (m 1000000 (nI (2 + 4 * i) + Int32.ofInt 1).toNatClampNeg)
  have hr2 : Rl m (i + 1) := ⟨J, n, W, d, nT, nQ, nR, nM, w, wl, c, h, ht, hcl, hcm, by omega⟩
  refine zgo 30 [] ?_
  refine ⟨(v2 m hL).1, ?_⟩
  show ZM 142 0 0 [.ref 0, .int (m 1000000 (nI (2 + 4 * i) + Int32.ofInt 1).toNatClampNeg)] (SH, m) _
  refine ZW.kp ?_
  refine Ev.use e1 (fun y1 y2 => ?_)
  replace y1 : m 1000000 = m 1000000 := y1
  replace y2 : m 1000001 0 = m 1000001 0 := y2
  show ZW 219 GL 377 (lvL i) [.int r] (SH, m) Q
  refine zgo 30 [] ?_
  refine ⟨(v2 m hL).1, ?_⟩
  show ZM 213 0 0 [.ref 42, .int (m 1000000 (nI (2 + 4 * i) + Int32.ofInt 1).toNatClampNeg)] (SH, m) _
  refine ZW.kp ?_
  refine Ev.use e2 (fun z1 z2 => ?_)
  exact fin r m hr2 (z1.trans (y1.trans hx)) (z2.trans (y2.trans hL))
set_option maxRecDepth 6000 in
theorem l_account {m : zM} {xs : Nat → Int32} {L i : Nat} {Q : zQ} (hR : Rl m i) (hi : 6 + 4 * i ≤ L) (hL5 : L ≤ 2050) (hx : m 1000000 = xs) (hL : m 1000001 0 = nI L) (hn : NX xs L i Q) : ZW 219 GL 391 (lvL i) [] (SH, m) Q := by
  have v2 : ∀ M : zM, M 1000001 0 = nI L → vp_in (nI (2 + 4 * i) + Int32.ofInt 1) (M 1000001 0).toNatClampNeg ∧ vp_in (nI (2 + 4 * i) + Int32.ofInt 2) (M 1000001 0).toNatClampNeg ∧ vp_in (nI (2 + 4 * i) + Int32.ofInt 3) (M 1000001 0).toNatClampNeg := fun M h => by rw [h]; exact lv_1 hi hL5
  obtain ⟨J, n, W, d, nT, nQ, nR, nM, w, wl, c, h, ht, hcl, hcm, hcb⟩ := id hR
  have fin : ∀ r : Int32, ∀ m2 : zM, Rl m2 (i + 1) → m2 1000000 = xs → m2 1000001 0 = nI L → ZW 219 GL 419 (lvL i) [.int r, .int r] (SH, m2) Q := by
    intro r m2 hr x1 x2
    have W := hn m2 hr x1 x2
    refine zgo 10 [] ?_
    refine ⟨fun _ => ?_, fun hc => absurd rfl hc⟩
    exact nx_i W
  obtain ⟨r, e1, e2⟩ := op_account (pR_of h) h.2.2.2.1 (m 1000000 (nI (2 + 4 * i) + Int32.ofInt 1).toNatClampNeg) (m 1000000 (nI (2 + 4 * i) + Int32.ofInt 2).toNatClampNeg)
  have hr2 : Rl m (i + 1) := ⟨J, n, W, d, nT, nQ, nR, nM, w, wl, c, h, ht, hcl, hcm, by omega⟩
  refine zgo 30 [] ?_
  refine ⟨(v2 m hL).1, ⟨(v2 m hL).2.1, ?_⟩⟩
  show ZM 143 0 0 [.ref 0, .int (m 1000000 (nI (2 + 4 * i) + Int32.ofInt 1).toNatClampNeg), .int (m 1000000 (nI (2 + 4 * i) + Int32.ofInt 2).toNatClampNeg)] (SH, m) _
  refine ZW.kp ?_
  refine Ev.use e1 (fun y1 y2 => ?_)
  replace y1 : m 1000000 = m 1000000 := y1
  replace y2 : m 1000001 0 = m 1000001 0 := y2
  show ZW 219 GL 405 (lvL i) [.int r] (SH, m) Q
  refine zgo 30 [] ?_
  refine ⟨(v2 m hL).1, ⟨(v2 m hL).2.1, ?_⟩⟩
  show ZM 214 0 0 [.ref 42, .int (m 1000000 (nI (2 + 4 * i) + Int32.ofInt 1).toNatClampNeg), .int (m 1000000 (nI (2 + 4 * i) + Int32.ofInt 2).toNatClampNeg)] (SH, m) _
  refine ZW.kp ?_
  refine Ev.use e2 (fun z1 z2 => ?_)
  exact fin r m hr2 (z1.trans (y1.trans hx)) (z2.trans (y2.trans hL))
set_option maxRecDepth 6000 in
theorem l_entry {m : zM} {xs : Nat → Int32} {L i : Nat} {Q : zQ} (hR : Rl m i) (hi : 6 + 4 * i ≤ L) (hL5 : L ≤ 2050) (hx : m 1000000 = xs) (hL : m 1000001 0 = nI L) (hn : NX xs L i Q) : ZW 219 GL 424 (lvL i) [] (SH, m) Q := by
  have v2 : ∀ M : zM, M 1000001 0 = nI L → vp_in (nI (2 + 4 * i) + Int32.ofInt 1) (M 1000001 0).toNatClampNeg ∧ vp_in (nI (2 + 4 * i) + Int32.ofInt 2) (M 1000001 0).toNatClampNeg ∧ vp_in (nI (2 + 4 * i) + Int32.ofInt 3) (M 1000001 0).toNatClampNeg := fun M h => by rw [h]; exact lv_1 hi hL5
  obtain ⟨J, n, W, d, nT, nQ, nR, nM, w, wl, c, h, ht, hcl, hcm, hcb⟩ := id hR
  have fin : ∀ r : Int32, ∀ m2 : zM, Rl m2 (i + 1) → m2 1000000 = xs → m2 1000001 0 = nI L → ZW 219 GL 452 (lvL i) [.int r, .int r] (SH, m2) Q := by
    intro r m2 hr x1 x2
    have W := hn m2 hr x1 x2
    refine zgo 10 [] ?_
    refine ⟨fun _ => ?_, fun hc => absurd rfl hc⟩
    exact nx_i W
  obtain ⟨r, e1, e2⟩ := op_entry (pR_of h) h.2.2.2.1 (m 1000000 (nI (2 + 4 * i) + Int32.ofInt 1).toNatClampNeg) (m 1000000 (nI (2 + 4 * i) + Int32.ofInt 2).toNatClampNeg)
  have hr2 : Rl m (i + 1) := ⟨J, n, W, d, nT, nQ, nR, nM, w, wl, c, h, ht, hcl, hcm, by omega⟩
  refine zgo 30 [] ?_
  refine ⟨(v2 m hL).1, ⟨(v2 m hL).2.1, ?_⟩⟩
  show ZM 144 0 0 [.ref 0, .int (m 1000000 (nI (2 + 4 * i) + Int32.ofInt 1).toNatClampNeg), .int (m 1000000 (nI (2 + 4 * i) + Int32.ofInt 2).toNatClampNeg)] (SH, m) _
  refine ZW.kp ?_
  refine Ev.use e1 (fun y1 y2 => ?_)
  replace y1 : m 1000000 = m 1000000 := y1
  replace y2 : m 1000001 0 = m 1000001 0 := y2
  show ZW 219 GL 438 (lvL i) [.int r] (SH, m) Q
  refine zgo 30 [] ?_
  refine ⟨(v2 m hL).1, ⟨(v2 m hL).2.1, ?_⟩⟩
  show ZM 215 0 0 [.ref 42, .int (m 1000000 (nI (2 + 4 * i) + Int32.ofInt 1).toNatClampNeg), .int (m 1000000 (nI (2 + 4 * i) + Int32.ofInt 2).toNatClampNeg)] (SH, m) _
  refine ZW.kp ?_
  refine Ev.use e2 (fun z1 z2 => ?_)
  exact fin r m hr2 (z1.trans (y1.trans hx)) (z2.trans (y2.trans hL))
set_option maxRecDepth 6000 in
theorem l_report {m : zM} {xs : Nat → Int32} {L i : Nat} {Q : zQ} (hR : Rl m i) (hi : 6 + 4 * i ≤ L) (hL5 : L ≤ 2050) (hx : m 1000000 = xs) (hL : m 1000001 0 = nI L) (hn : NX xs L i Q) : ZW 219 GL 457 (lvL i) [] (SH, m) Q := by
  have v2 : ∀ M : zM, M 1000001 0 = nI L → vp_in (nI (2 + 4 * i) + Int32.ofInt 1) (M 1000001 0).toNatClampNeg ∧ vp_in (nI (2 + 4 * i) + Int32.ofInt 2) (M 1000001 0).toNatClampNeg ∧ vp_in (nI (2 + 4 * i) + Int32.ofInt 3) (M 1000001 0).toNatClampNeg := fun M h => by rw [h]; exact lv_1 hi hL5
  obtain ⟨J, n, W, d, nT, nQ, nR, nM, w, wl, c, h, ht, hcl, hcm, hcb⟩ := id hR
  have fin : ∀ r : Int32, ∀ m2 : zM, Rl m2 (i + 1) → m2 1000000 = xs → m2 1000001 0 = nI L → ZW 219 GL 485 (lvL i) [.int r, .int r] (SH, m2) Q := by
    intro r m2 hr x1 x2
    have W := hn m2 hr x1 x2
    refine zgo 10 [] ?_
    refine ⟨fun _ => ?_, fun hc => absurd rfl hc⟩
    exact nx_i W
  obtain ⟨r, e1, e2⟩ := op_report (pR_of h) h.2.2.2.1 (m 1000000 (nI (2 + 4 * i) + Int32.ofInt 1).toNatClampNeg) (m 1000000 (nI (2 + 4 * i) + Int32.ofInt 2).toNatClampNeg)
  have hr2 : Rl m (i + 1) := ⟨J, n, W, d, nT, nQ, nR, nM, w, wl, c, h, ht, hcl, hcm, by omega⟩
  refine zgo 30 [] ?_
  refine ⟨(v2 m hL).1, ⟨(v2 m hL).2.1, ?_⟩⟩
  show ZM 145 0 0 [.ref 0, .int (m 1000000 (nI (2 + 4 * i) + Int32.ofInt 1).toNatClampNeg), .int (m 1000000 (nI (2 + 4 * i) + Int32.ofInt 2).toNatClampNeg)] (SH, m) _
  refine ZW.kp ?_
  refine Ev.use e1 (fun y1 y2 => ?_)
  replace y1 : m 1000000 = m 1000000 := y1
  replace y2 : m 1000001 0 = m 1000001 0 := y2
  show ZW 219 GL 471 (lvL i) [.int r] (SH, m) Q
  refine zgo 30 [] ?_
  refine ⟨(v2 m hL).1, ⟨(v2 m hL).2.1, ?_⟩⟩
  show ZM 216 0 0 [.ref 42, .int (m 1000000 (nI (2 + 4 * i) + Int32.ofInt 1).toNatClampNeg), .int (m 1000000 (nI (2 + 4 * i) + Int32.ofInt 2).toNatClampNeg)] (SH, m) _
  refine ZW.kp ?_
  refine Ev.use e2 (fun z1 z2 => ?_)
  exact fin r m hr2 (z1.trans (y1.trans hx)) (z2.trans (y2.trans hL))
set_option maxRecDepth 6000 in
theorem l_copies {m : zM} {xs : Nat → Int32} {L i : Nat} {Q : zQ} (hR : Rl m i) (hi : 6 + 4 * i ≤ L) (hL5 : L ≤ 2050) (hx : m 1000000 = xs) (hL : m 1000001 0 = nI L) (hn : NX xs L i Q) : ZW 219 GL 490 (lvL i) [] (SH, m) Q := by
  have v2 : ∀ M : zM, M 1000001 0 = nI L → vp_in (nI (2 + 4 * i) + Int32.ofInt 1) (M 1000001 0).toNatClampNeg ∧ vp_in (nI (2 + 4 * i) + Int32.ofInt 2) (M 1000001 0).toNatClampNeg ∧ vp_in (nI (2 + 4 * i) + Int32.ofInt 3) (M 1000001 0).toNatClampNeg := fun M h => by rw [h]; exact lv_1 hi hL5
  obtain ⟨J, n, W, d, nT, nQ, nR, nM, w, wl, c, h, ht, hcl, hcm, hcb⟩ := id hR
  have fin : ∀ r : Int32, ∀ m2 : zM, Rl m2 (i + 1) → m2 1000000 = xs → m2 1000001 0 = nI L → ZW 219 GL 508 (lvL i) [.int r, .int r] (SH, m2) Q := by
    intro r m2 hr x1 x2
    have W := hn m2 hr x1 x2
    refine zgo 10 [] ?_
    refine ⟨fun _ => ?_, fun hc => absurd rfl hc⟩
    exact nx_i W
  obtain ⟨r, e1, e2⟩ := op_copies h.2.2.2.1 h.2.2.2.2.2.2.1 (m 1000000 (nI (2 + 4 * i) + Int32.ofInt 1).toNatClampNeg)
  have hr2 : Rl m (i + 1) := ⟨J, n, W, d, nT, nQ, nR, nM, w, wl, c, h, ht, hcl, hcm, by omega⟩
  refine zgo 30 [] ?_
  refine ⟨(v2 m hL).1, ?_⟩
  show ZM 146 0 0 [.ref 0, .int (m 1000000 (nI (2 + 4 * i) + Int32.ofInt 1).toNatClampNeg)] (SH, m) _
  refine ZW.kp ?_
  refine Ev.use e1 (fun y1 y2 => ?_)
  replace y1 : m 1000000 = m 1000000 := y1
  replace y2 : m 1000001 0 = m 1000001 0 := y2
  show ZW 219 GL 499 (lvL i) [.int r] (SH, m) Q
  refine zgo 30 [] ?_
  refine ⟨(v2 m hL).1, ?_⟩
  show ZM 217 0 0 [.ref 42, .int (m 1000000 (nI (2 + 4 * i) + Int32.ofInt 1).toNatClampNeg)] (SH, m) _
  refine ZW.kp ?_
  refine Ev.use e2 (fun z1 z2 => ?_)
  exact fin r m hr2 (z1.trans (y1.trans hx)) (z2.trans (y2.trans hL))
theorem lw_gt {i L : Nat} (h : L < 6 + 4 * i) (hL : L ≤ 2050) (hi : i ≤ 600) : nI L - Int32.ofInt 4 < nI (2 + 4 * i) := by
  rw [show (Int32.ofInt 4) = nI 4 from rfl]
  apply Int32.lt_iff_toInt_lt.mpr
  have e1 : (nI L - nI 4).toInt = (L : Int) - 4 := by
    rw [Int32.toInt_sub]
    rw [show (nI L).toInt = (L : Int) from Int32.toInt_ofNat_of_lt (by omega), show (nI 4).toInt = 4 from rfl]
    exact Int.bmod_eq_of_le (by omega) (by omega)
  rw [e1, show (nI (2 + 4 * i)).toInt = ((2 + 4 * i : Nat) : Int) from Int32.toInt_ofNat_of_lt (by omega)]
  omega
theorem lw_in {m : zM} {i L : Nat} (hL : m 1000001 0 = nI L) (hi : 6 + 4 * i ≤ L) (hL5 : L ≤ 2050) : vp_in (nI (2 + 4 * i)) (m 1000001 0).toNatClampNeg := by
  rw [hL]
  simp (disch := first | omega | decide) only [zcn, zkpl, zki, zki1, zk8, zk16, zo32, zlt0, zle0, zeq0, zgt0, zLe0, nI_ltI, nI_leI, nI_eq, nI_add, nI_clamp, vp_in_nI, zup_s, zup_n, upd_s, upd_n, ne_eq, not_true_eq_false, not_false_eq_true]
theorem Rl_up {m : zM} {i : Nat} (h : Rl m i) : Rl m (i + 1) := by
  obtain ⟨J, n, W, d, nT, nQ, nR, nM, w, wl, c, h, ht, hcl, hcm, hcb⟩ := h
  exact ⟨J, n, W, d, nT, nQ, nR, nM, w, wl, c, h, ht, hcl, hcm, by omega⟩
set_option maxRecDepth 6000 in
theorem lw_def {m : zM} {xs : Nat → Int32} {L i : Nat} {Q : zQ} (hn : NX xs L i Q) (hR : Rl m (i + 1)) (hx : m 1000000 = xs) (hL : m 1000001 0 = nI L) : ZW 219 GL 513 (lvL i) [] (SH, m) Q := by
  have W := hn m hR hx hL
  refine zgo 2 [] ?_
  exact nx_i W
set_option maxRecDepth 6000 in
theorem law_loop {xs : Nat → Int32} {L : Nat} {Q : zQ} (hL5 : L ≤ 2050) (hQ : ∀ h, Q (some (.int 1)) h) : ∀ f i m, L < 6 + 4 * i + 4 * f → Rl m i → m 1000000 = xs → m 1000001 0 = nI L → i ≤ 600 → ZW 219 GL 38 (lvL i) [] (SH, m) Q := by
  intro f
  induction f with
  | zero =>
    intro i m hf hR hx hL h6
    refine zgo 12 [] ?_
    refine ⟨fun _ => ⟨Or.inr rfl, hQ _⟩, fun hc => ?_⟩
    exfalso
    apply hc
    show m 1000001 0 - Int32.ofInt 4 < nI (2 + 4 * i)
    rw [hL]
    exact lw_gt (by omega) (by omega) (by omega)
  | succ f ih =>
    intro i m hf hR hx hL h6
    refine zgo 12 [] ?_
    refine ⟨fun _ => ⟨Or.inr rfl, hQ _⟩, fun hc => ?_⟩
    have hi : 6 + 4 * i ≤ L := by
      apply Decidable.byContradiction
      intro hn
      apply hc
      show m 1000001 0 - Int32.ofInt 4 < nI (2 + 4 * i)
      rw [hL]
      exact lw_gt (by omega) (by omega) (by omega)
    have hn : NX xs L i Q := fun m2 r2 x1 x2 => ih (i + 1) m2 (by omega) r2 x1 x2 (by omega)
    refine ⟨lw_in hL hi hL5, ?_⟩
    exact ⟨fun _ => l_put hR hi hL5 hx hL hn, fun _ => ⟨fun _ => l_submit hR hi hL5 hx hL hn, fun _ => ⟨fun _ => l_work hR hi hL5 hx hL hn, fun _ => ⟨fun _ => l_tick hR hi hL5 hx hL hn, fun _ => ⟨fun _ => l_send hR hi hL5 hx hL hn, fun _ => ⟨fun _ => l_fail hR hi hL5 hx hL hn, fun _ => ⟨fun _ => l_recover hR hi hL5 hx hL hn, fun _ => ⟨fun _ => l_journal hR hi hL5 hx hL hn, fun _ => ⟨fun _ => l_octet hR hi hL5 hx hL hn, fun _ => ⟨fun _ => l_transaction hR hi hL5 hx hL hn, fun _ => ⟨fun _ => l_queue hR hi hL5 hx hL hn, fun _ => ⟨fun _ => l_account hR hi hL5 hx hL hn, fun _ => ⟨fun _ => l_entry hR hi hL5 hx hL hn, fun _ => ⟨fun _ => l_report hR hi hL5 hx hL hn, fun _ => ⟨fun _ => l_copies hR hi hL5 hx hL hn, fun _ => lw_def hn (Rl_up hR) hx hL⟩⟩⟩⟩⟩⟩⟩⟩⟩⟩⟩⟩⟩⟩⟩
