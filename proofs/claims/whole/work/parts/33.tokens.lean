/-! the reader's states behind each sign; the class's signs -/
def addS (s : pS) (c d : Nat) : pS := sp (sp (sp s 8 (s 0 2) c) 6 (s 7 d) (if c = 32 then s 6 (s 7 d) else 1)) 0 2 (s 0 2 + 1)
def endS (s : pS) (d : Nat) : pS := sp (sp s 5 (s 7 d) (s 0 2)) 0 3 d
def begS (s : pS) (c : Nat) : pS := sp (sp (sp (sp (sp (sp (sp (sp (sp s 2 (s 0 1) c) 3 (s 0 1) (s 0 3)) 4 (s 0 1) (s 0 2)) 5 (s 0 1) (s 0 2)) 6 (s 0 1) 0) 9 (s 0 1) (s 7 (s 0 3 - 1))) 7 (s 0 3) (s 0 1)) 0 1 (s 0 1 + 1)) 0 3 (s 0 3 + 1)
theorem ud_id (f : Nat → Nat) (k : Nat) : ud f k (f k) = f := by
  funext j
  unfold ud
  split
  · next e => rw [e]
  · rfl
theorem sI_mono {a a' : Nat} {s : pS} (hi : sI a s) (ha : a ≤ a') : sI a' s := by
  obtain ⟨⟨i1, i2, i3⟩, i4⟩ := hi
  exact ⟨⟨by omega, by omega, i3⟩, i4⟩
theorem addS_I {a a' : Nat} {s : pS} {c d : Nat} (hi : sI a s) (ha : a < a') (hc8 : 32 ≤ c ∧ c ≤ 126) : sI a' (addS s c d) := by
  obtain ⟨⟨i1, i2, i3⟩, i4, i5, i6, i7, i8⟩ := hi
  refine ⟨⟨show 4 * s 0 1 ≤ a' + s 0 3 by omega, show s 0 2 + 1 ≤ a' by omega, i3⟩, fun i hi => ?_, fun j hj => ?_, i6, i7, i8⟩
  · obtain ⟨x1, ⟨x2, x3⟩, x4⟩ := i4 i hi
    refine ⟨x1, ⟨x2, show s 5 i ≤ s 0 2 + 1 by omega⟩, ?_⟩
    show ud (s 6) (s 7 d) (if c = 32 then s 6 (s 7 d) else 1) i ≤ 1
    by_cases e : i = s 7 d
    · rw [e, ud_s]
      split
      · rw [← e]
        exact x4
      · exact Nat.le_refl 1
    · rw [ud_n _ e]
      exact x4
  · show 32 ≤ ud (s 8) (s 0 2) c j ∧ ud (s 8) (s 0 2) c j ≤ 126
    have hj : j < s 0 2 + 1 := hj
    by_cases e : j = s 0 2
    · rw [e, ud_s]
      exact hc8
    · rw [ud_n _ e]
      exact i5 j (by omega)
theorem endS_I {a a' : Nat} {s : pS} {d : Nat} (hi : sI a s) (ha : a < a') (hd : s 0 3 = d + 1) : sI a' (endS s d) := by
  obtain ⟨⟨i1, i2, i3⟩, i4, i5, i6, i7, i8⟩ := hi
  refine ⟨⟨show 4 * s 0 1 ≤ a' + d by omega, show s 0 2 ≤ a' by omega, show d ≤ 4 by omega⟩, fun i hi => ?_, i5, fun j hj => i6 j (by have : j < d := hj; omega), i7, i8⟩
  obtain ⟨x1, ⟨x2, x3⟩, x4⟩ := i4 i hi
  refine ⟨x1, ?_, x4⟩
  show s 4 i ≤ ud (s 5) (s 7 d) (s 0 2) i ∧ ud (s 5) (s 7 d) (s 0 2) i ≤ s 0 2
  by_cases e : i = s 7 d
  · rw [← e, ud_s]
    omega
  · rw [ud_n _ e]
    exact ⟨x2, x3⟩
theorem begS_I {a a' : Nat} {s : pS} {c : Nat} (hi : sI a s) (ha : a + 3 ≤ a') (hc8 : 65 ≤ c ∧ c ≤ 122) (h0 : s 0 3 = 0 → s 0 1 = 0) (hd : s 0 3 < 4) : sI a' (begS s c) := by
  obtain ⟨⟨i1, i2, i3⟩, i4, i5, i6, i7, i8⟩ := hi
  have hz : s 0 1 = 0 → s 0 3 = 0 := fun e => by
    by_cases e2 : s 0 3 = 0
    · exact e2
    · have := (i6 0 (by omega)).1
      omega
  refine ⟨⟨show 4 * (s 0 1 + 1) ≤ a' + (s 0 3 + 1) by omega, show s 0 2 ≤ a' by omega, show s 0 3 + 1 ≤ 4 by omega⟩, fun i hi => ?_, i5, fun j hj => ?_, fun _ => ?_, fun i g0 hi => ?_⟩
  · have hi : i < s 0 1 + 1 := hi
    show (65 ≤ ud (s 2) (s 0 1) c i ∧ ud (s 2) (s 0 1) c i ≤ 122) ∧ (ud (s 4) (s 0 1) (s 0 2) i ≤ ud (s 5) (s 0 1) (s 0 2) i ∧ ud (s 5) (s 0 1) (s 0 2) i ≤ s 0 2) ∧ ud (s 6) (s 0 1) 0 i ≤ 1
    by_cases e : i = s 0 1
    · rw [e, ud_s, ud_s, ud_s, ud_s]
      exact ⟨hc8, ⟨Nat.le_refl _, Nat.le_refl _⟩, by decide⟩
    · rw [ud_n _ e, ud_n _ e, ud_n _ e, ud_n _ e]
      exact i4 i (by omega)
  · have hj : j < s 0 3 + 1 := hj
    show ud (s 7) (s 0 3) (s 0 1) j < s 0 1 + 1 ∧ ud (s 3) (s 0 1) (s 0 3) (ud (s 7) (s 0 3) (s 0 1) j) = j ∧ ∀ i, ud (s 7) (s 0 3) (s 0 1) j < i → i < s 0 1 + 1 → j < ud (s 3) (s 0 1) (s 0 3) i
    by_cases e : j = s 0 3
    · subst e
      rw [ud_s, ud_s]
      exact ⟨by omega, rfl, fun i h1 h2 => by omega⟩
    · obtain ⟨x1, x2, x3⟩ := i6 j (by omega)
      rw [ud_n _ e, ud_n _ (by omega)]
      refine ⟨by omega, x2, fun i h1 h2 => ?_⟩
      by_cases e2 : i = s 0 1
      · rw [e2, ud_s]
        omega
      · rw [ud_n _ e2]
        exact x3 i h1 (by omega)
  · show ud (s 3) (s 0 1) (s 0 3) 0 = 0
    by_cases e : 0 = s 0 1
    · rw [← e, ud_s]
      exact hz e.symm
    · rw [ud_n _ e]
      exact i7 (by omega)
  · have hi : i < s 0 1 + 1 := hi
    show ud (s 9) (s 0 1) (s 7 (s 0 3 - 1)) i < i ∧ ud (s 3) (s 0 1) (s 0 3) (ud (s 9) (s 0 1) (s 7 (s 0 3 - 1)) i) + 1 = ud (s 3) (s 0 1) (s 0 3) i ∧ ∀ j, ud (s 9) (s 0 1) (s 7 (s 0 3 - 1)) i < j → j < i → ud (s 3) (s 0 1) (s 0 3) i ≤ ud (s 3) (s 0 1) (s 0 3) j
    by_cases e : i = s 0 1
    · subst e
      have hd0 : s 0 3 ≠ 0 := fun e => by have := h0 e; omega
      obtain ⟨x1, x2, x3⟩ := i6 (s 0 3 - 1) (by omega)
      rw [ud_s, ud_s, ud_n _ (by omega), x2]
      refine ⟨x1, by omega, fun j h1 h2 => ?_⟩
      rw [ud_n _ (by omega)]
      have := x3 j h1 h2
      omega
    · obtain ⟨x1, x2, x3⟩ := i8 i g0 (by omega)
      rw [ud_n _ e, ud_n _ e, ud_n _ (by omega)]
      refine ⟨x1, x2, fun j h1 h2 => ?_⟩
      rw [ud_n _ (by omega)]
      exact x3 j h1 h2
theorem tD_beg {m : zM} {s : pS} {c : Nat} (h : tD m s) : tD (cbg m c (s 0 1) (s 0 3) (s 0 2)) (begS s c) := by
  obtain ⟨⟨h2, h3, h4⟩, ⟨h5, h6, h7, h8, h9⟩, h10, h11⟩ := h
  exact ⟨⟨rfl, h3, rfl⟩, ⟨aR_push h5 c, aR_push h6 _, aR_push h7 _, aR_push h8 _, aR_push h9 0⟩, aR_push h10 _, h11⟩
theorem tD_end {m : zM} {s : pS} {d : Nat} (h : tD m s) (hd : s 0 3 = d + 1) : tD (zup (zup m 5 (s 7 d) (nI (s 0 2))) 1 7 (nI d)) (endS s d) := by
  obtain ⟨⟨h2, h3, h4⟩, ⟨h5, h6, h7, h8, h9⟩, h10, h11⟩ := h
  exact ⟨⟨h2, h3, rfl⟩, ⟨h5, h6, h7, aR_set h8 _ _, h9⟩, aR_mono h10 (show d ≤ s 0 3 by omega), h11⟩
theorem tD_add {m : zM} {s : pS} {c d : Nat} (h : tD m s) : tD (if c = 32 then zup (zup m 8 (s 0 2) (nI c)) 1 9 (nI (s 0 2 + 1)) else zup (zup (zup m 8 (s 0 2) (nI c)) 1 9 (nI (s 0 2 + 1))) 6 (s 7 d) (nI 1)) (addS s c d) := by
  obtain ⟨⟨h2, h3, h4⟩, ⟨h5, h6, h7, h8, h9⟩, h10, h11⟩ := h
  by_cases e : c = 32
  · rw [if_pos e]
    refine ⟨⟨h2, rfl, h4⟩, ⟨h5, h6, h7, h8, ?_⟩, h10, aR_push h11 c⟩
    show aR (m 6) (ud (s 6) (s 7 d) (if c = 32 then s 6 (s 7 d) else 1)) (s 0 1)
    rw [if_pos e, ud_id]
    exact h9
  · rw [if_neg e]
    refine ⟨⟨h2, rfl, h4⟩, ⟨h5, h6, h7, h8, ?_⟩, h10, aR_push h11 c⟩
    show aR (upd (m 6) (s 7 d) (nI 1)) (ud (s 6) (s 7 d) (if c = 32 then s 6 (s 7 d) else 1)) (s 0 1)
    rw [if_neg e]
    exact aR_set h9 _ _
def cF (m m' : zM) : Prop := ∀ a, a = 0 ∨ 9 < a → m' a = m a
theorem cF.tr {m m' m'' : zM} (h : cF m m') (h' : cF m' m'') : cF m m'' := fun a ha => (h' a ha).trans (h a ha)
theorem cF_at (m : zM) (x : Int32) : cF m (zup m 9 3 x) := fun a ha => zup_n _ (by omega)
theorem tD_at {m : zM} {s : pS} (h : tD m s) (x : Int32) : tD (zup m 9 3 x) s := h.cg (fun a ha => zup_n _ (by omega))
theorem add_9 {m : zM} {s : pS} {c d b : Nat} (hb : b ≠ 1 ∧ b ≠ 6 ∧ b ≠ 8) : (if c = 32 then zup (zup m 8 (s 0 2) (nI c)) 1 9 (nI (s 0 2 + 1)) else zup (zup (zup m 8 (s 0 2) (nI c)) 1 9 (nI (s 0 2 + 1))) 6 (s 7 d) (nI 1)) b = m b := by
  split
  · rw [zup_n _ (by omega), zup_n _ (by omega)]
  · rw [zup_n _ (by omega), zup_n _ (by omega), zup_n _ (by omega)]
theorem c_char {w : Nat → Nat} {wl a d : Nat} {m : zM} {s : pS} (ho : okT w wl) (hx : tX w wl m a) (hd : tD m s) (hi : sI a s) (ha : a < wl) (hc1 : w a ≠ 60) (hc2 : w a ≠ 38) (h3 : s 0 3 = d + 1) : ∃ m', Ev 80 [.ref 9] m (some (.int 1)) m' ∧ tX w wl m' (a + 1) ∧ tD m' (addS s (w a) d) ∧ cF m m' := by
  have hl := ho.1
  have hw := ho.2 a ha
  have hN : s 0 1 ≤ 75 := by have := hi.1; omega
  have hd4 : d ≤ 3 := by have := hi.1; omega
  have hx1 := hx.mv (a + 1)
  have hd1 := tD_at hd (nI (a + 1))
  have hA := et_add (c := w a) hd1 hi hN (by have := hi.1; omega) h3 hw.2
  have hD := tD_add (c := w a) (d := d) hd1
  have h7 := hd.1.2.2
  rw [h3] at h7
  have hp := ev_peek ho hx 0 rfl (by omega) (by omega)
  rw [Nat.add_zero, pe_w ha] at hp
  have e9 : ∀ b, b ≠ 1 ∧ b ≠ 6 ∧ b ≠ 8 → (if w a = 32 then zup (zup (zup m 9 3 (nI (a + 1))) 8 (s 0 2) (nI (w a))) 1 9 (nI (s 0 2 + 1)) else zup (zup (zup (zup m 9 3 (nI (a + 1))) 8 (s 0 2) (nI (w a))) 1 9 (nI (s 0 2 + 1))) 6 (s 7 d) (nI 1)) b = zup m 9 3 (nI (a + 1)) b := fun b hb => add_9 hb
  generalize (if w a = 32 then zup (zup (zup m 9 3 (nI (a + 1))) 8 (s 0 2) (nI (w a))) 1 9 (nI (s 0 2 + 1)) else zup (zup (zup (zup m 9 3 (nI (a + 1))) 8 (s 0 2) (nI (w a))) 1 9 (nI (s 0 2 + 1))) 6 (s 7 d) (nI 1)) = m2 at *
  refine ⟨m2, fun Q hQ => ?_, ?_, hD, ?_⟩
  · have f2 : ZW 80 (0, 0, 0, 0) 56 [(1, .int (nI (w a))), (0, .ref 9)] [.int 1] (SH, m2) Q := by
      refine zgo 20 [] ?_
      repeat' (first
        | (show vp_in _ _; simp (disch := first | omega | decide) only [zcn, zkpl, zki, zki1, zk8, zk16, zo32, zlt0, zle0, zeq0, zgt0, zLe0, nI_ltI, nI_leI, nI_eq, nI_add, nI_clamp, vp_in_nI, zup_s, zup_n, upd_s, upd_n, ne_eq, not_true_eq_false, not_false_eq_true]; done)
        | (intro hc; exfalso; simp (disch := first | omega | decide) only [zcn, zkpl, zki, zki1, zk8, zk16, zo32, zlt0, zle0, zeq0, zgt0, zLe0, nI_ltI, nI_leI, nI_eq, nI_add, nI_clamp, vp_in_nI, zup_s, zup_n, upd_s, upd_n, ne_eq, not_true_eq_false, not_false_eq_true] at hc <;> omega)
        | (intro hc; exact absurd rfl hc)
        | intro hc
        | apply And.intro
        | exact hQ
        | (show Q _ (SH, _); simp (disch := first | omega | decide) only [zcn, zkpl, zki, zki1, zk8, zk16, zo32, zlt0, zle0, zeq0, zgt0, zLe0, nI_ltI, nI_leI, nI_eq, nI_add, nI_clamp, vp_in_nI, zup_s, zup_n, upd_s, upd_n, ne_eq, not_true_eq_false, not_false_eq_true]; exact hQ)
        | exact Or.inl rfl
        | exact Or.inr rfl
        | (show (_ : Int32) = 0 ∨ _ = 1; simp (disch := first | omega | decide) only [zcn, zkpl, zki, zki1, zk8, zk16, zo32, zlt0, zle0, zeq0, zgt0, zLe0, nI_ltI, nI_leI, nI_eq, nI_add, nI_clamp, vp_in_nI, zup_s, zup_n, upd_s, upd_n, ne_eq, not_true_eq_false, not_false_eq_true, zeq1, true_or, or_true]; done))
    have f1 : ZW 80 (0, 0, 0, 0) 5 [(0, .ref 9)] [.int (nI (w a))] (SH, m) Q := by
      refine zgo 40 [109] ?_
      repeat' (first
        | (exact zcm (by rw [ev_tinc hx]) (hA.use f2))
        | (show vp_in _ _; simp (disch := first | omega | decide) only [h7, z10, zcn, zkpl, zki, zki1, zk8, zk16, zo32, zlt0, zle0, zeq0, zgt0, zLe0, nI_ltI, nI_leI, nI_eq, nI_add, nI_clamp, vp_in_nI, zup_s, zup_n, upd_s, upd_n, ne_eq, not_true_eq_false, not_false_eq_true]; done)
        | (intro hc; exfalso; simp (disch := first | omega | decide) only [h7, z10, zcn, zkpl, zki, zki1, zk8, zk16, zo32, zlt0, zle0, zeq0, zgt0, zLe0, nI_ltI, nI_leI, nI_eq, nI_add, nI_clamp, vp_in_nI, zup_s, zup_n, upd_s, upd_n, ne_eq, not_true_eq_false, not_false_eq_true] at hc <;> omega)
        | (intro hc; exact absurd rfl hc)
        | intro hc
        | apply And.intro
        | exact Or.inl rfl
        | exact Or.inr rfl
        | (show (_ : Int32) = 0 ∨ _ = 1; simp (disch := first | omega | decide) only [h7, z10, zcn, zkpl, zki, zki1, zk8, zk16, zo32, zlt0, zle0, zeq0, zgt0, zLe0, nI_ltI, nI_leI, nI_eq, nI_add, nI_clamp, vp_in_nI, zup_s, zup_n, upd_s, upd_n, ne_eq, not_true_eq_false, not_false_eq_true, zeq1, true_or, or_true]; done))
    refine zgo 20 [] ?_
    repeat' (first
      | (exact hp.use f1)
      | (show vp_in _ _; simp (disch := first | omega | decide) only [zcn, zkpl, zki, zki1, zk8, zk16, zo32, zlt0, zle0, zeq0, zgt0, zLe0, nI_ltI, nI_leI, nI_eq, nI_add, nI_clamp, vp_in_nI, zup_s, zup_n, upd_s, upd_n, ne_eq, not_true_eq_false, not_false_eq_true]; done)
      | (intro hc; exfalso; simp (disch := first | omega | decide) only [zcn, zkpl, zki, zki1, zk8, zk16, zo32, zlt0, zle0, zeq0, zgt0, zLe0, nI_ltI, nI_leI, nI_eq, nI_add, nI_clamp, vp_in_nI, zup_s, zup_n, upd_s, upd_n, ne_eq, not_true_eq_false, not_false_eq_true] at hc <;> omega)
      | (intro hc; exact absurd rfl hc)
      | intro hc
      | apply And.intro
      | exact Or.inl rfl
      | exact Or.inr rfl
      | (show (_ : Int32) = 0 ∨ _ = 1; simp (disch := first | omega | decide) only [zcn, zkpl, zki, zki1, zk8, zk16, zo32, zlt0, zle0, zeq0, zgt0, zLe0, nI_ltI, nI_leI, nI_eq, nI_add, nI_clamp, vp_in_nI, zup_s, zup_n, upd_s, upd_n, ne_eq, not_true_eq_false, not_false_eq_true, zeq1, true_or, or_true]; done))
  · exact hx1.cg (e9 _ (by decide)) (e9 _ (by decide))
  · exact (cF_at m _).tr (fun b hb => e9 b (by omega))
theorem c_blank {w : Nat → Nat} {wl a : Nat} {m : zM} {s : pS} (ho : okT w wl) (hx : tX w wl m a) (hd : tD m s) (ha : a < wl) (hc1 : w a ≠ 60) (hc2 : w a ≠ 38) (h3 : s 0 3 = 0) {b : Int32} (hb : (b = 1 ∧ w a = 32) ∨ (b = 0 ∧ w a ≠ 32)) : ∃ m', Ev 80 [.ref 9] m (some (.int b)) m' ∧ tX w wl m' (a + 1) ∧ tD m' s ∧ cF m m' := by
  have hl := ho.1
  have hw := ho.2 a ha
  have h7 := hd.1.2.2
  rw [h3] at h7
  have hp := ev_peek ho hx 0 rfl (by omega) (by omega)
  rw [Nat.add_zero, pe_w ha] at hp
  refine ⟨zup m 9 3 (nI (a + 1)), fun Q hQ => ?_, hx.mv _, tD_at hd _, cF_at m _⟩
  have e := hx.2.2
  have f1 : ZW 80 (0, 0, 0, 0) 5 [(0, .ref 9)] [.int (nI (w a))] (SH, m) Q := by
    rcases hb with ⟨rfl, hb⟩ | ⟨rfl, hb⟩
    · refine zgo 40 [109] ?_
      repeat' (first
        | (show vp_in _ _; simp (disch := first | omega | decide) only [h7, e, z10, zcn, zkpl, zki, zki1, zk8, zk16, zo32, zlt0, zle0, zeq0, zgt0, zLe0, nI_ltI, nI_leI, nI_eq, nI_add, nI_clamp, vp_in_nI, zup_s, zup_n, upd_s, upd_n, ne_eq, not_true_eq_false, not_false_eq_true]; done)
        | (intro hc; exfalso; simp (disch := first | omega | decide) only [h7, e, z10, zcn, zkpl, zki, zki1, zk8, zk16, zo32, zlt0, zle0, zeq0, zgt0, zLe0, nI_ltI, nI_leI, nI_eq, nI_add, nI_clamp, vp_in_nI, zup_s, zup_n, upd_s, upd_n, ne_eq, not_true_eq_false, not_false_eq_true] at hc <;> omega)
        | (intro hc; exact absurd rfl hc)
        | intro hc
        | apply And.intro
        | exact hQ
        | (show Q _ (SH, _); simp (disch := first | omega | decide) only [h7, e, z10, zcn, zkpl, zki, zki1, zk8, zk16, zo32, zlt0, zle0, zeq0, zgt0, zLe0, nI_ltI, nI_leI, nI_eq, nI_add, nI_clamp, vp_in_nI, zup_s, zup_n, upd_s, upd_n, ne_eq, not_true_eq_false, not_false_eq_true]; exact hQ)
        | exact Or.inl rfl
        | exact Or.inr rfl
        | (show (_ : Int32) = 0 ∨ _ = 1; simp (disch := first | omega | decide) only [h7, e, z10, zcn, zkpl, zki, zki1, zk8, zk16, zo32, zlt0, zle0, zeq0, zgt0, zLe0, nI_ltI, nI_leI, nI_eq, nI_add, nI_clamp, vp_in_nI, zup_s, zup_n, upd_s, upd_n, ne_eq, not_true_eq_false, not_false_eq_true, zeq1, true_or, or_true]; done))
    · refine zgo 40 [109] ?_
      repeat' (first
        | (show vp_in _ _; simp (disch := first | omega | decide) only [h7, e, z10, zcn, zkpl, zki, zki1, zk8, zk16, zo32, zlt0, zle0, zeq0, zgt0, zLe0, nI_ltI, nI_leI, nI_eq, nI_add, nI_clamp, vp_in_nI, zup_s, zup_n, upd_s, upd_n, ne_eq, not_true_eq_false, not_false_eq_true]; done)
        | (intro hc; exfalso; simp (disch := first | omega | decide) only [h7, e, z10, zcn, zkpl, zki, zki1, zk8, zk16, zo32, zlt0, zle0, zeq0, zgt0, zLe0, nI_ltI, nI_leI, nI_eq, nI_add, nI_clamp, vp_in_nI, zup_s, zup_n, upd_s, upd_n, ne_eq, not_true_eq_false, not_false_eq_true] at hc <;> omega)
        | (intro hc; exact absurd rfl hc)
        | intro hc
        | apply And.intro
        | exact hQ
        | (show Q _ (SH, _); simp (disch := first | omega | decide) only [h7, e, z10, zcn, zkpl, zki, zki1, zk8, zk16, zo32, zlt0, zle0, zeq0, zgt0, zLe0, nI_ltI, nI_leI, nI_eq, nI_add, nI_clamp, vp_in_nI, zup_s, zup_n, upd_s, upd_n, ne_eq, not_true_eq_false, not_false_eq_true]; exact hQ)
        | exact Or.inl rfl
        | exact Or.inr rfl
        | (show (_ : Int32) = 0 ∨ _ = 1; simp (disch := first | omega | decide) only [h7, e, z10, zcn, zkpl, zki, zki1, zk8, zk16, zo32, zlt0, zle0, zeq0, zgt0, zLe0, nI_ltI, nI_leI, nI_eq, nI_add, nI_clamp, vp_in_nI, zup_s, zup_n, upd_s, upd_n, ne_eq, not_true_eq_false, not_false_eq_true, zeq1, true_or, or_true]; done))
  refine zgo 20 [] ?_
  repeat' (first
    | (exact hp.use f1)
    | (show vp_in _ _; simp (disch := first | omega | decide) only [zcn, zkpl, zki, zki1, zk8, zk16, zo32, zlt0, zle0, zeq0, zgt0, zLe0, nI_ltI, nI_leI, nI_eq, nI_add, nI_clamp, vp_in_nI, zup_s, zup_n, upd_s, upd_n, ne_eq, not_true_eq_false, not_false_eq_true]; done)
    | (intro hc; exfalso; simp (disch := first | omega | decide) only [zcn, zkpl, zki, zki1, zk8, zk16, zo32, zlt0, zle0, zeq0, zgt0, zLe0, nI_ltI, nI_leI, nI_eq, nI_add, nI_clamp, vp_in_nI, zup_s, zup_n, upd_s, upd_n, ne_eq, not_true_eq_false, not_false_eq_true] at hc <;> omega)
    | (intro hc; exact absurd rfl hc)
    | intro hc
    | apply And.intro
    | exact Or.inl rfl
    | exact Or.inr rfl
    | (show (_ : Int32) = 0 ∨ _ = 1; simp (disch := first | omega | decide) only [zcn, zkpl, zki, zki1, zk8, zk16, zo32, zlt0, zle0, zeq0, zgt0, zLe0, nI_ltI, nI_leI, nI_eq, nI_add, nI_clamp, vp_in_nI, zup_s, zup_n, upd_s, upd_n, ne_eq, not_true_eq_false, not_false_eq_true, zeq1, true_or, or_true]; done))
