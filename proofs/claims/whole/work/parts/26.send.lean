/-! send -/
def keep (m m2 : zM) : Prop := m2 0 = m 0 ∧ m2 9 = m 9 ∧ m2 10 = m 10 ∧ m2 43 = m 43 ∧ m2 42 2 = m 42 2 ∧ m2 42 7 = m 42 7
theorem keep.rf (m : zM) : keep m m := ⟨rfl, rfl, rfl, rfl, rfl, rfl⟩
theorem lum_0 {f : Nat → Int32} : ∀ (k i : Nat), lum f i k < i + k → f (lum f i k) = 0
  | 0, i, h => absurd h (by show ¬ i < i + 0; omega)
  | k + 1, i, h => by
    unfold lum at h ⊢
    split
    · assumption
    · rename_i hne
      rw [if_neg hne] at h
      exact lum_0 k (i + 1) (by omega)
theorem IX_copy {m u : zM} {J : Nat → Nat} {n W d nT nQ nR nM r : Nat} (h : IX m u J n W d nT nQ nR nM) (hr : r < nR) : IX (zup m 40 r (m 40 r + nI 1)) (zup u 74 r (u 74 r + nI 1)) J n W d nT nQ nR nM := by
  have hm' : ∀ a, 18 ≤ a → a ≤ 41 → a ≠ 40 → zup m 40 r (m 40 r + nI 1) a = m a := fun a g1 g2 g3 => by rw [zup_n _ g3]
  obtain ⟨h1, h2, h3, h4, h5, h6, ⟨k1, k2, k3⟩, h8, h9, h10⟩ := h
  have hr40 : nR ≤ 40 := h4.2.2.1.2.2
  refine ⟨?_, ?_, ?_, lR_congr h4 hm' (fun a g1 g2 => by rw [zup_n _ (by omega)]) (fun f hf => by rw [zup_n _ (by omega)]), gW_congr h5 hm', ?_, ⟨fun q hq => ?_, fun q g1 g2 => ?_, fun q g1 g2 => ?_⟩, ?_, h9, h10⟩
  · unfold jR2
    simp (disch := first | omega | decide) only [zcn, zkpl, zki, zki1, zk8, zk16, zo32, zlt0, zle0, zeq0, zgt0, zLe0, nI_ltI, nI_leI, nI_eq, nI_add, nI_clamp, vp_in_nI, zup_s, zup_n, upd_s, upd_n, ne_eq, not_true_eq_false, not_false_eq_true]
    exact h1
  · unfold pR2
    simp (disch := first | omega | decide) only [zcn, zkpl, zki, zki1, zk8, zk16, zo32, zlt0, zle0, zeq0, zgt0, zLe0, nI_ltI, nI_leI, nI_eq, nI_add, nI_clamp, vp_in_nI, zup_s, zup_n, upd_s, upd_n, ne_eq, not_true_eq_false, not_false_eq_true]
    exact h2
  · unfold fR2
    simp (disch := first | omega | decide) only [zcn, zkpl, zki, zki1, zk8, zk16, zo32, zlt0, zle0, zeq0, zgt0, zLe0, nI_ltI, nI_leI, nI_eq, nI_add, nI_clamp, vp_in_nI, zup_s, zup_n, upd_s, upd_n, ne_eq, not_true_eq_false, not_false_eq_true]
    exact h3
  · simp (disch := first | omega | decide) only [zcn, zkpl, zki, zki1, zk8, zk16, zo32, zlt0, zle0, zeq0, zgt0, zLe0, nI_ltI, nI_leI, nI_eq, nI_add, nI_clamp, vp_in_nI, zup_s, zup_n, upd_s, upd_n, ne_eq, not_true_eq_false, not_false_eq_true]
    exact RI_congr h6 hm' (fun _ _ => rfl)
  · rw [zup_s, zup_s]
    by_cases e : q = r
    · subst e
      rw [upd_s, upd_s, k1 q hq]
    · rw [upd_n _ e, upd_n _ e, k1 q hq]
  · rw [zup_s, upd_n _ (by omega)]
    exact k2 q g1 g2
  · rw [zup_s, upd_n _ (by omega)]
    exact k3 q g1 g2
  · simp (disch := first | omega | decide) only [zcn, zkpl, zki, zki1, zk8, zk16, zo32, zlt0, zle0, zeq0, zgt0, zLe0, nI_ltI, nI_leI, nI_eq, nI_add, nI_clamp, vp_in_nI, zup_s, zup_n, upd_s, upd_n, ne_eq, not_true_eq_false, not_false_eq_true]
    exact h8
theorem mw_first_loop {m : zM} {n : Nat} (hm : m 42 55 = nI n) (hn : n ≤ 40) (hb : ∀ j, j < n → m 73 j = 0 ∨ m 73 j = 1) (Q : zQ) : ∀ (k i : Nat) (x : Int32), i + k = n → x = nI i → ZW 207 (0, 0, 0, 0) 35 [(1, .int (nI (lum (m 73) i k))), (0, .ref 42)] [] (SH, m) Q → ZW 207 (0, 0, 0, 0) 12 [(1, .int x), (0, .ref 42)] [] (SH, m) Q := by
  intro k
  induction k with
  | zero =>
    intro i x hi hx w
    subst hx
    refine zgo 4 [] ?_
    repeat' (first
      | (exact w)
      | (show vp_in _ _; simp (disch := first | omega | decide) only [hm, zcn, zkpl, zki, zki1, zk8, zk16, zo32, zlt0, zle0, zeq0, zgt0, zLe0, nI_ltI, nI_leI, nI_eq, nI_add, nI_clamp, vp_in_nI, zup_s, zup_n, upd_s, upd_n, ne_eq, not_true_eq_false, not_false_eq_true]; done)
      | (intro hc; exfalso; simp (disch := first | omega | decide) only [hm, zcn, zkpl, zki, zki1, zk8, zk16, zo32, zlt0, zle0, zeq0, zgt0, zLe0, nI_ltI, nI_leI, nI_eq, nI_add, nI_clamp, vp_in_nI, zup_s, zup_n, upd_s, upd_n, ne_eq, not_true_eq_false, not_false_eq_true] at hc <;> omega)
      | (intro hc; exact absurd rfl hc)
      | intro hc
      | apply And.intro
      | exact Or.inl rfl
      | exact Or.inr rfl
      | (show (_ : Int32) = 0 ∨ _ = 1; simp (disch := first | omega | decide) only [hm, zcn, zkpl, zki, zki1, zk8, zk16, zo32, zlt0, zle0, zeq0, zgt0, zLe0, nI_ltI, nI_leI, nI_eq, nI_add, nI_clamp, vp_in_nI, zup_s, zup_n, upd_s, upd_n, ne_eq, not_true_eq_false, not_false_eq_true, zeq1, true_or, or_true]; done))
  | succ k ih =>
    intro i x hi hx w
    subst hx
    rw [lum] at w
    rcases hb i (by omega) with h0 | h1
    · rw [if_pos h0] at w
      refine zgo 9 [] ?_
      repeat' (first
        | (exact w)
        | (show vp_in _ _; simp (disch := first | omega | decide) only [hm, h0, eq_self, zcn, zkpl, zki, zki1, zk8, zk16, zo32, zlt0, zle0, zeq0, zgt0, zLe0, nI_ltI, nI_leI, nI_eq, nI_add, nI_clamp, vp_in_nI, zup_s, zup_n, upd_s, upd_n, ne_eq, not_true_eq_false, not_false_eq_true]; done)
        | (intro hc; exfalso; simp (disch := first | omega | decide) only [hm, h0, eq_self, zcn, zkpl, zki, zki1, zk8, zk16, zo32, zlt0, zle0, zeq0, zgt0, zLe0, nI_ltI, nI_leI, nI_eq, nI_add, nI_clamp, vp_in_nI, zup_s, zup_n, upd_s, upd_n, ne_eq, not_true_eq_false, not_false_eq_true] at hc <;> omega)
        | (intro hc; exact absurd rfl hc)
        | intro hc
        | apply And.intro
        | exact Or.inl rfl
        | exact Or.inr rfl
        | (show (_ : Int32) = 0 ∨ _ = 1; simp (disch := first | omega | decide) only [hm, h0, eq_self, zcn, zkpl, zki, zki1, zk8, zk16, zo32, zlt0, zle0, zeq0, zgt0, zLe0, nI_ltI, nI_leI, nI_eq, nI_add, nI_clamp, vp_in_nI, zup_s, zup_n, upd_s, upd_n, ne_eq, not_true_eq_false, not_false_eq_true, zeq1, true_or, or_true]; done))
    · have e0 : ¬ m 73 i = 0 := by rw [h1]; decide
      rw [if_neg e0] at w
      refine zgo 40 [] ?_
      repeat' (first
        | (exact ih (i + 1) _ (by omega) (show nI i + Int32.ofInt 1 = nI (i + 1) by rw [zki, nI_add]) w)
        | (show vp_in _ _; simp (disch := first | omega | decide) only [hm, h1, z10, eq_self, zcn, zkpl, zki, zki1, zk8, zk16, zo32, zlt0, zle0, zeq0, zgt0, zLe0, nI_ltI, nI_leI, nI_eq, nI_add, nI_clamp, vp_in_nI, zup_s, zup_n, upd_s, upd_n, ne_eq, not_true_eq_false, not_false_eq_true]; done)
        | (intro hc; exfalso; simp (disch := first | omega | decide) only [hm, h1, z10, eq_self, zcn, zkpl, zki, zki1, zk8, zk16, zo32, zlt0, zle0, zeq0, zgt0, zLe0, nI_ltI, nI_leI, nI_eq, nI_add, nI_clamp, vp_in_nI, zup_s, zup_n, upd_s, upd_n, ne_eq, not_true_eq_false, not_false_eq_true] at hc <;> omega)
        | (intro hc; exact absurd rfl hc)
        | intro hc
        | apply And.intro
        | exact Or.inl rfl
        | exact Or.inr rfl
        | (show (_ : Int32) = 0 ∨ _ = 1; simp (disch := first | omega | decide) only [hm, h1, z10, eq_self, zcn, zkpl, zki, zki1, zk8, zk16, zo32, zlt0, zle0, zeq0, zgt0, zLe0, nI_ltI, nI_leI, nI_eq, nI_add, nI_clamp, vp_in_nI, zup_s, zup_n, upd_s, upd_n, ne_eq, not_true_eq_false, not_false_eq_true, zeq1, true_or, or_true]; done))
theorem cnt_upd1 {f : Nat → Int32} {v x : Int32} {t n : Nat} (ht : t < n) (h1 : f t ≠ v) (h2 : x = v) : cnt (upd f t x) v n = cnt f v n + 1 := by
  have := cnt_upd (f := f) (v := v) (x := x) (t := t) n ht
  rw [if_neg h1, if_pos h2] at this
  exact this
theorem op_send {m : zM} {J : Nat → Nat} {n W d nT nQ nR nM : Nat} (h : IX m m J n W d nT nQ nR nM) : ∃ r m1 m2 J' n' W' d', Ev 136 [.ref 0] m (some (.int r)) m1 ∧ Ev 207 [.ref 42] m1 (some (.int r)) m2 ∧ IX m2 m2 J' n' W' d' nT nQ nR nM ∧ keep m m2 := by
  obtain ⟨p1, p2, p3⟩ := id h.p
  obtain ⟨⟨t1, t2, t3⟩, -, ⟨r1, r2, r3⟩, -, -, -, -, -, hrow, -⟩ := id h.l
  obtain rfl | rfl : d = 0 ∨ d = 1 := by omega
  · obtain rfl := h.w rfl
    have hb : ∀ j, j < nR → m 39 j = 0 ∨ m 39 j = 1 := fun j hj => (hrow j hj).2.2.2
    have hb' : ∀ j, j < nR → m 73 j = 0 ∨ m 73 j = 1 := fun j hj => by rw [(hrow j hj).2.2.1]; exact hb j hj
    have hlu : lum (m 73) 0 nR = lum (m 39) 0 nR := lum_ext nR 0 (fun j _ hj => (hrow j (by omega)).2.2.1)
    have hle := lum_le (m 39) nR 0
    by_cases hz : lum (m 39) 0 nR = nR
    · refine ⟨-1, m, m, J, W, W, 0, fun Q hQ => ?_, fun Q hQ => ?_, h, keep.rf m⟩
      · have hf := ev_first r1 r3 hb
        rw [if_pos hz] at hf
        have fin : ZW 136 (0, 0, 0, 0) 23 [(0, .ref 0)] [.int (-1)] (SH, m) Q := by
          refine zgo 20 [] ?_
          repeat' (first
            | (show vp_in _ _; simp (disch := first | omega | decide) only [zcn, zkpl, zki, zki1, zk8, zk16, zo32, zlt0, zle0, zeq0, zgt0, zLe0, nI_ltI, nI_leI, nI_eq, nI_add, nI_clamp, vp_in_nI, zup_s, zup_n, upd_s, upd_n, ne_eq, not_true_eq_false, not_false_eq_true]; done)
            | (intro hc; exfalso; simp (disch := first | omega | decide) only [zcn, zkpl, zki, zki1, zk8, zk16, zo32, zlt0, zle0, zeq0, zgt0, zLe0, nI_ltI, nI_leI, nI_eq, nI_add, nI_clamp, vp_in_nI, zup_s, zup_n, upd_s, upd_n, ne_eq, not_true_eq_false, not_false_eq_true] at hc <;> omega)
            | (intro hc; exact absurd rfl hc)
            | intro hc
            | apply And.intro
            | exact hQ
            | (show Q _ (SH, _); simp (disch := first | omega | decide) only [zcn, zkpl, zki, zki1, zk8, zk16, zo32, zlt0, zle0, zeq0, zgt0, zLe0, nI_ltI, nI_leI, nI_eq, nI_add, nI_clamp, vp_in_nI, zup_s, zup_n, upd_s, upd_n, ne_eq, not_true_eq_false, not_false_eq_true]; exact hQ)
            | exact Or.inl rfl
            | exact Or.inr rfl
            | (show (_ : Int32) = 0 ∨ _ = 1; simp (disch := first | omega | decide) only [zcn, zkpl, zki, zki1, zk8, zk16, zo32, zlt0, zle0, zeq0, zgt0, zLe0, nI_ltI, nI_leI, nI_eq, nI_add, nI_clamp, vp_in_nI, zup_s, zup_n, upd_s, upd_n, ne_eq, not_true_eq_false, not_false_eq_true, zeq1, true_or, or_true]; done))
        refine zgo 20 [53] ?_
        repeat' (first
          | (exact hf.use fin)
          | (show vp_in _ _; simp (disch := first | omega | decide) only [p1, zcn, zkpl, zki, zki1, zk8, zk16, zo32, zlt0, zle0, zeq0, zgt0, zLe0, nI_ltI, nI_leI, nI_eq, nI_add, nI_clamp, vp_in_nI, zup_s, zup_n, upd_s, upd_n, ne_eq, not_true_eq_false, not_false_eq_true]; done)
          | (intro hc; exfalso; simp (disch := first | omega | decide) only [p1, zcn, zkpl, zki, zki1, zk8, zk16, zo32, zlt0, zle0, zeq0, zgt0, zLe0, nI_ltI, nI_leI, nI_eq, nI_add, nI_clamp, vp_in_nI, zup_s, zup_n, upd_s, upd_n, ne_eq, not_true_eq_false, not_false_eq_true] at hc <;> omega)
          | (intro hc; exact absurd rfl hc)
          | intro hc
          | apply And.intro
          | exact Or.inl rfl
          | exact Or.inr rfl
          | (show (_ : Int32) = 0 ∨ _ = 1; simp (disch := first | omega | decide) only [p1, zcn, zkpl, zki, zki1, zk8, zk16, zo32, zlt0, zle0, zeq0, zgt0, zLe0, nI_ltI, nI_leI, nI_eq, nI_add, nI_clamp, vp_in_nI, zup_s, zup_n, upd_s, upd_n, ne_eq, not_true_eq_false, not_false_eq_true, zeq1, true_or, or_true]; done))
      · have w : ZW 207 (0, 0, 0, 0) 35 [(1, .int (nI (lum (m 73) 0 nR))), (0, .ref 42)] [] (SH, m) Q := by
          rw [hlu, hz]
          refine zgo 40 [] ?_
          repeat' (first
            | (show vp_in _ _; simp (disch := first | omega | decide) only [r2, zcn, zkpl, zki, zki1, zk8, zk16, zo32, zlt0, zle0, zeq0, zgt0, zLe0, nI_ltI, nI_leI, nI_eq, nI_add, nI_clamp, vp_in_nI, zup_s, zup_n, upd_s, upd_n, ne_eq, not_true_eq_false, not_false_eq_true]; done)
            | (intro hc; exfalso; simp (disch := first | omega | decide) only [r2, zcn, zkpl, zki, zki1, zk8, zk16, zo32, zlt0, zle0, zeq0, zgt0, zLe0, nI_ltI, nI_leI, nI_eq, nI_add, nI_clamp, vp_in_nI, zup_s, zup_n, upd_s, upd_n, ne_eq, not_true_eq_false, not_false_eq_true] at hc <;> omega)
            | (intro hc; exact absurd rfl hc)
            | intro hc
            | apply And.intro
            | exact hQ
            | (show Q _ (SH, _); simp (disch := first | omega | decide) only [r2, zcn, zkpl, zki, zki1, zk8, zk16, zo32, zlt0, zle0, zeq0, zgt0, zLe0, nI_ltI, nI_leI, nI_eq, nI_add, nI_clamp, vp_in_nI, zup_s, zup_n, upd_s, upd_n, ne_eq, not_true_eq_false, not_false_eq_true]; exact hQ)
            | exact Or.inl rfl
            | exact Or.inr rfl
            | (show (_ : Int32) = 0 ∨ _ = 1; simp (disch := first | omega | decide) only [r2, zcn, zkpl, zki, zki1, zk8, zk16, zo32, zlt0, zle0, zeq0, zgt0, zLe0, nI_ltI, nI_leI, nI_eq, nI_add, nI_clamp, vp_in_nI, zup_s, zup_n, upd_s, upd_n, ne_eq, not_true_eq_false, not_false_eq_true, zeq1, true_or, or_true]; done))
        have l := mw_first_loop r2 r3 hb' Q nR 0 _ (by omega) rfl w
        refine zgo 8 [] ?_
        repeat' (first
          | (exact l)
          | (show vp_in _ _; simp (disch := first | omega | decide) only [p2, zcn, zkpl, zki, zki1, zk8, zk16, zo32, zlt0, zle0, zeq0, zgt0, zLe0, nI_ltI, nI_leI, nI_eq, nI_add, nI_clamp, vp_in_nI, zup_s, zup_n, upd_s, upd_n, ne_eq, not_true_eq_false, not_false_eq_true]; done)
          | (intro hc; exfalso; simp (disch := first | omega | decide) only [p2, zcn, zkpl, zki, zki1, zk8, zk16, zo32, zlt0, zle0, zeq0, zgt0, zLe0, nI_ltI, nI_leI, nI_eq, nI_add, nI_clamp, vp_in_nI, zup_s, zup_n, upd_s, upd_n, ne_eq, not_true_eq_false, not_false_eq_true] at hc <;> omega)
          | (intro hc; exact absurd rfl hc)
          | intro hc
          | apply And.intro
          | exact Or.inl rfl
          | exact Or.inr rfl
          | (show (_ : Int32) = 0 ∨ _ = 1; simp (disch := first | omega | decide) only [p2, zcn, zkpl, zki, zki1, zk8, zk16, zo32, zlt0, zle0, zeq0, zgt0, zLe0, nI_ltI, nI_leI, nI_eq, nI_add, nI_clamp, vp_in_nI, zup_s, zup_n, upd_s, upd_n, ne_eq, not_true_eq_false, not_false_eq_true, zeq1, true_or, or_true]; done))
    · obtain ⟨r, hr, hr2⟩ : ∃ r, r < nR ∧ lum (m 39) 0 nR = r := ⟨_, by omega, rfl⟩
      have hr0 : m 39 r = 0 := by
        rw [← hr2]
        exact lum_0 nR 0 (by omega)
      have hf := ev_first r1 r3 hb
      rw [if_neg hz, hr2] at hf
      rw [hr2] at hlu
      have hX := IX_copy h hr
      have hjB := h.g.2.2.1
      have hcm : cnt (m 39) 1 nR + 1 ≤ nR := by
        have := cnt_upd1 (f := m 39) (v := 1) (x := 1) hr (by rw [hr0]; decide) rfl
        have := cnt_le (f := upd (m 39) r 1) (v := 1) nR
        omega
      have hc5 : cnt (m 33) (nI 5) nT ≤ 20 := Nat.le_trans (cnt_le nT) t3
      have hn4 : W + 4 ≤ 5247 := by
        unfold jB at hjB
        omega
      -- the class up to the write
      have cls : ∀ {b : Int32} {m2 m' : zM} {v : Int32}, Ev 60 [.ref 14, .int (nI 83), .int (nI r)] (zup m 40 r (m 40 r + nI 1)) (some (.int b)) m2 → (∀ Q : zQ, Q (some (.int v)) (SH, m') → ZW 136 (0, 0, 0, 0) 52 [(1, .int (nI r)), (0, .ref 0)] [.int b] (SH, m2) Q) → Ev 136 [.ref 0] m (some (.int v)) m' := by
        intro b m2 m' v hE hfin Q hQ
        have f1 : ZW 136 (0, 0, 0, 0) 23 [(0, .ref 0)] [.int (nI r)] (SH, m) Q := by
          have f2 : ZW 136 (0, 0, 0, 0) 42 [(1, .int (nI r)), (0, .ref 0)] [] (SH, zup m 40 r (m 40 r + nI 1)) Q := by
            refine zgo 20 [] ?_
            exact hE.use (hfin Q hQ)
          have hne : (nI r = -1) = False := eq_false (fun e => by
            have := nI_pos (n := r) (by omega)
            rw [e] at this
            exact this (by decide))
          refine zgo 20 [] ?_
          repeat' (first
            | (exact (ev_rcopy r1 r3 hr).use f2)
            | (show vp_in _ _; simp (disch := first | omega | decide) only [hne, zcn, zkpl, zki, zki1, zk8, zk16, zo32, zlt0, zle0, zeq0, zgt0, zLe0, nI_ltI, nI_leI, nI_eq, nI_add, nI_clamp, vp_in_nI, zup_s, zup_n, upd_s, upd_n, ne_eq, not_true_eq_false, not_false_eq_true]; done)
            | (intro hc; exfalso; simp (disch := first | omega | decide) only [hne, zcn, zkpl, zki, zki1, zk8, zk16, zo32, zlt0, zle0, zeq0, zgt0, zLe0, nI_ltI, nI_leI, nI_eq, nI_add, nI_clamp, vp_in_nI, zup_s, zup_n, upd_s, upd_n, ne_eq, not_true_eq_false, not_false_eq_true] at hc <;> omega)
            | (intro hc; exact absurd rfl hc)
            | intro hc
            | apply And.intro
            | exact Or.inl rfl
            | exact Or.inr rfl
            | (show (_ : Int32) = 0 ∨ _ = 1; simp (disch := first | omega | decide) only [hne, zcn, zkpl, zki, zki1, zk8, zk16, zo32, zlt0, zle0, zeq0, zgt0, zLe0, nI_ltI, nI_leI, nI_eq, nI_add, nI_clamp, vp_in_nI, zup_s, zup_n, upd_s, upd_n, ne_eq, not_true_eq_false, not_false_eq_true, zeq1, true_or, or_true]; done))
        refine zgo 20 [53] ?_
        repeat' (first
          | (exact hf.use f1)
          | (show vp_in _ _; simp (disch := first | omega | decide) only [p1, zcn, zkpl, zki, zki1, zk8, zk16, zo32, zlt0, zle0, zeq0, zgt0, zLe0, nI_ltI, nI_leI, nI_eq, nI_add, nI_clamp, vp_in_nI, zup_s, zup_n, upd_s, upd_n, ne_eq, not_true_eq_false, not_false_eq_true]; done)
          | (intro hc; exfalso; simp (disch := first | omega | decide) only [p1, zcn, zkpl, zki, zki1, zk8, zk16, zo32, zlt0, zle0, zeq0, zgt0, zLe0, nI_ltI, nI_leI, nI_eq, nI_add, nI_clamp, vp_in_nI, zup_s, zup_n, upd_s, upd_n, ne_eq, not_true_eq_false, not_false_eq_true] at hc <;> omega)
          | (intro hc; exact absurd rfl hc)
          | intro hc
          | apply And.intro
          | exact Or.inl rfl
          | exact Or.inr rfl
          | (show (_ : Int32) = 0 ∨ _ = 1; simp (disch := first | omega | decide) only [p1, zcn, zkpl, zki, zki1, zk8, zk16, zo32, zlt0, zle0, zeq0, zgt0, zLe0, nI_ltI, nI_leI, nI_eq, nI_add, nI_clamp, vp_in_nI, zup_s, zup_n, upd_s, upd_n, ne_eq, not_true_eq_false, not_false_eq_true, zeq1, true_or, or_true]; done))
      -- the model up to the write
      have mod : ∀ {m' u' : zM} {b v : Int32}, (∀ a, 42 ≤ a → m' a = m a) → (b = 0 ∧ v = -9 ∨ b = 1 ∧ v = nI r) → Ev 191 [.ref 42, .int (nI 83), .int (nI r)] (zup m' 74 r (m' 74 r + nI 1)) (some (.int b)) u' → Ev 207 [.ref 42] m' (some (.int v)) u' := by
        intro m' u' b v hm' hbv hE Q hQ
        have e42 : m' 42 = m 42 := hm' 42 (by decide)
        have e73 : m' 73 = m 73 := hm' 73 (by decide)
        have fin : ZW 207 (0, 0, 0, 0) 62 [(1, .int (nI r)), (0, .ref 42)] [.int b] (SH, u') Q := by
          refine zgo 20 [] ?_
          rcases hbv with ⟨rfl, rfl⟩ | ⟨rfl, rfl⟩
          · repeat' (first
            | (show vp_in _ _; simp (disch := first | omega | decide) only [zcn, zkpl, zki, zki1, zk8, zk16, zo32, zlt0, zle0, zeq0, zgt0, zLe0, nI_ltI, nI_leI, nI_eq, nI_add, nI_clamp, vp_in_nI, zup_s, zup_n, upd_s, upd_n, ne_eq, not_true_eq_false, not_false_eq_true]; done)
            | (intro hc; exfalso; simp (disch := first | omega | decide) only [zcn, zkpl, zki, zki1, zk8, zk16, zo32, zlt0, zle0, zeq0, zgt0, zLe0, nI_ltI, nI_leI, nI_eq, nI_add, nI_clamp, vp_in_nI, zup_s, zup_n, upd_s, upd_n, ne_eq, not_true_eq_false, not_false_eq_true] at hc <;> omega)
            | (intro hc; exact absurd rfl hc)
            | intro hc
            | apply And.intro
            | exact hQ
            | (show Q _ (SH, _); simp (disch := first | omega | decide) only [zcn, zkpl, zki, zki1, zk8, zk16, zo32, zlt0, zle0, zeq0, zgt0, zLe0, nI_ltI, nI_leI, nI_eq, nI_add, nI_clamp, vp_in_nI, zup_s, zup_n, upd_s, upd_n, ne_eq, not_true_eq_false, not_false_eq_true]; exact hQ)
            | exact Or.inl rfl
            | exact Or.inr rfl
            | (show (_ : Int32) = 0 ∨ _ = 1; simp (disch := first | omega | decide) only [zcn, zkpl, zki, zki1, zk8, zk16, zo32, zlt0, zle0, zeq0, zgt0, zLe0, nI_ltI, nI_leI, nI_eq, nI_add, nI_clamp, vp_in_nI, zup_s, zup_n, upd_s, upd_n, ne_eq, not_true_eq_false, not_false_eq_true, zeq1, true_or, or_true]; done))
          · repeat' (first
            | (show vp_in _ _; simp (disch := first | omega | decide) only [z10, zcn, zkpl, zki, zki1, zk8, zk16, zo32, zlt0, zle0, zeq0, zgt0, zLe0, nI_ltI, nI_leI, nI_eq, nI_add, nI_clamp, vp_in_nI, zup_s, zup_n, upd_s, upd_n, ne_eq, not_true_eq_false, not_false_eq_true]; done)
            | (intro hc; exfalso; simp (disch := first | omega | decide) only [z10, zcn, zkpl, zki, zki1, zk8, zk16, zo32, zlt0, zle0, zeq0, zgt0, zLe0, nI_ltI, nI_leI, nI_eq, nI_add, nI_clamp, vp_in_nI, zup_s, zup_n, upd_s, upd_n, ne_eq, not_true_eq_false, not_false_eq_true] at hc <;> omega)
            | (intro hc; exact absurd rfl hc)
            | intro hc
            | apply And.intro
            | exact hQ
            | (show Q _ (SH, _); simp (disch := first | omega | decide) only [z10, zcn, zkpl, zki, zki1, zk8, zk16, zo32, zlt0, zle0, zeq0, zgt0, zLe0, nI_ltI, nI_leI, nI_eq, nI_add, nI_clamp, vp_in_nI, zup_s, zup_n, upd_s, upd_n, ne_eq, not_true_eq_false, not_false_eq_true]; exact hQ)
            | exact Or.inl rfl
            | exact Or.inr rfl
            | (show (_ : Int32) = 0 ∨ _ = 1; simp (disch := first | omega | decide) only [z10, zcn, zkpl, zki, zki1, zk8, zk16, zo32, zlt0, zle0, zeq0, zgt0, zLe0, nI_ltI, nI_leI, nI_eq, nI_add, nI_clamp, vp_in_nI, zup_s, zup_n, upd_s, upd_n, ne_eq, not_true_eq_false, not_false_eq_true, zeq1, true_or, or_true]; done))
        have w : ZW 207 (0, 0, 0, 0) 35 [(1, .int (nI (lum (m' 73) 0 nR))), (0, .ref 42)] [] (SH, m') Q := by
          rw [e73, hlu]
          refine zgo 40 [] ?_
          repeat' (first
            | (exact zcm (m := zup m' 74 r (m' 74 r + nI 1)) (by simp (disch := first | omega | decide) only [zcn, zkpl, zki, zki1, zk8, zk16, zo32, zlt0, zle0, zeq0, zgt0, zLe0, nI_ltI, nI_leI, nI_eq, nI_add, nI_clamp, vp_in_nI, zup_s, zup_n, upd_s, upd_n, ne_eq, not_true_eq_false, not_false_eq_true]) (hE.use fin))
            | (show vp_in _ _; simp (disch := first | omega | decide) only [e42, r2, zcn, zkpl, zki, zki1, zk8, zk16, zo32, zlt0, zle0, zeq0, zgt0, zLe0, nI_ltI, nI_leI, nI_eq, nI_add, nI_clamp, vp_in_nI, zup_s, zup_n, upd_s, upd_n, ne_eq, not_true_eq_false, not_false_eq_true]; done)
            | (intro hc; exfalso; simp (disch := first | omega | decide) only [e42, r2, zcn, zkpl, zki, zki1, zk8, zk16, zo32, zlt0, zle0, zeq0, zgt0, zLe0, nI_ltI, nI_leI, nI_eq, nI_add, nI_clamp, vp_in_nI, zup_s, zup_n, upd_s, upd_n, ne_eq, not_true_eq_false, not_false_eq_true] at hc <;> omega)
            | (intro hc; exact absurd rfl hc)
            | intro hc
            | apply And.intro
            | exact Or.inl rfl
            | exact Or.inr rfl
            | (show (_ : Int32) = 0 ∨ _ = 1; simp (disch := first | omega | decide) only [e42, r2, zcn, zkpl, zki, zki1, zk8, zk16, zo32, zlt0, zle0, zeq0, zgt0, zLe0, nI_ltI, nI_leI, nI_eq, nI_add, nI_clamp, vp_in_nI, zup_s, zup_n, upd_s, upd_n, ne_eq, not_true_eq_false, not_false_eq_true, zeq1, true_or, or_true]; done))
        have l := mw_first_loop (by rw [e42, r2]) r3 (by rw [e73]; exact hb') Q nR 0 _ (by omega) rfl w
        refine zgo 8 [] ?_
        repeat' (first
          | (exact l)
          | (show vp_in _ _; simp (disch := first | omega | decide) only [e42, p2, zcn, zkpl, zki, zki1, zk8, zk16, zo32, zlt0, zle0, zeq0, zgt0, zLe0, nI_ltI, nI_leI, nI_eq, nI_add, nI_clamp, vp_in_nI, zup_s, zup_n, upd_s, upd_n, ne_eq, not_true_eq_false, not_false_eq_true]; done)
          | (intro hc; exfalso; simp (disch := first | omega | decide) only [e42, p2, zcn, zkpl, zki, zki1, zk8, zk16, zo32, zlt0, zle0, zeq0, zgt0, zLe0, nI_ltI, nI_leI, nI_eq, nI_add, nI_clamp, vp_in_nI, zup_s, zup_n, upd_s, upd_n, ne_eq, not_true_eq_false, not_false_eq_true] at hc <;> omega)
          | (intro hc; exact absurd rfl hc)
          | intro hc
          | apply And.intro
          | exact Or.inl rfl
          | exact Or.inr rfl
          | (show (_ : Int32) = 0 ∨ _ = 1; simp (disch := first | omega | decide) only [e42, p2, zcn, zkpl, zki, zki1, zk8, zk16, zo32, zlt0, zle0, zeq0, zgt0, zLe0, nI_ltI, nI_leI, nI_eq, nI_add, nI_clamp, vp_in_nI, zup_s, zup_n, upd_s, upd_n, ne_eq, not_true_eq_false, not_false_eq_true, zeq1, true_or, or_true]; done))
      rcases wn_c hX (kd := 83) (v := r) (by decide) (by omega) hn4 with ⟨m2, e1, e2⟩ | ⟨m2, c, e1, e2⟩
      · have e36 : m2 36 = m 36 := by rw [e2.far 36 (by decide) (by decide) (by decide)]; simp (disch := first | omega | decide) only [zcn, zkpl, zki, zki1, zk8, zk16, zo32, zlt0, zle0, zeq0, zgt0, zLe0, nI_ltI, nI_leI, nI_eq, nI_add, nI_clamp, vp_in_nI, zup_s, zup_n, upd_s, upd_n, ne_eq, not_true_eq_false, not_false_eq_true]
        have e39 : m2 39 = m 39 := by rw [e2.far 39 (by decide) (by decide) (by decide)]; simp (disch := first | omega | decide) only [zcn, zkpl, zki, zki1, zk8, zk16, zo32, zlt0, zle0, zeq0, zgt0, zLe0, nI_ltI, nI_leI, nI_eq, nI_add, nI_clamp, vp_in_nI, zup_s, zup_n, upd_s, upd_n, ne_eq, not_true_eq_false, not_false_eq_true]
        have hg := gW_congr hX.g (m' := m2) (fun a g1 g2 g3 => e2.far a (by omega) (by omega) (by omega))
        have hm2 : ∀ a, 41 < a → m2 a = m a := fun a g => by rw [e2.far a (by omega) (by omega) (by omega), zup_n _ (by omega)]
        have far' : ∀ a, a ≠ 39 → a ≠ 40 → a ≠ 14 → a ≠ 15 → a ≠ 16 → zup m2 39 r 1 a = m a := fun a g1 g2 g3 g4 g5 => by rw [zup_n _ g1, e2.far a g3 g4 g5, zup_n _ g2]
        have g1' : gW (zup m2 39 r 1) nT nQ nR nM (W + 4) := by
          obtain ⟨⟨b1, b2, b3⟩, b4, b5, b6, b7⟩ := id hg
          have e33 : zup m2 39 r 1 33 = m2 33 := zup_n _ (by decide)
          refine ⟨⟨fun t ht => tx_same (b1 t ht) (by rw [e33]) (zup_n _ (by decide)) (zup_n _ (by decide)) (zup_n _ (by decide)), qW_congr b2 e33 (zup_n _ (by decide)) (by rw [zup_n _ (by decide)]), by rw [e33]; exact b3⟩, ⟨b4.1, fun a ha => ?_⟩, ?_, fun q g1 g2 => ?_, by unfold dN; rw [zup_n _ (by decide)]; exact b7⟩
          · rw [zup_n _ (by decide)]
            exact b4.2 a ha
          · unfold jB at b5 ⊢
            rw [e33, zup_s, cnt_upd1 hr (by rw [e39, hr0]; decide) rfl]
            omega
          · rw [zup_s, upd_n _ (by omega)]
            exact b6 q g1 g2
        have g2' : kR2 (zup m2 39 r 1) (zup (zup m2 39 r 1) 74 r (zup m2 39 r 1 74 r + nI 1)) nR := by
          have := hX.k
          unfold kR2 at this ⊢
          have e40 : m2 40 = upd (m 40) r (m 40 r + nI 1) := by rw [e2.far 40 (by decide) (by decide) (by decide), zup_s]
          simp (disch := first | omega | decide) only [e40, hm2 74, zcn, zkpl, zki, zki1, zk8, zk16, zo32, zlt0, zle0, zeq0, zgt0, zLe0, nI_ltI, nI_leI, nI_eq, nI_add, nI_clamp, vp_in_nI, zup_s, zup_n, upd_s, upd_n, ne_eq, not_true_eq_false, not_false_eq_true] at this ⊢
          exact this
        have g3' : zup m2 39 r 1 19 0 = zup m 40 r (m 40 r + nI 1) 19 0 := by
          rw [zup_n _ (by decide), e2.far 19 (by decide) (by decide) (by decide)]
        obtain ⟨u', J', a1, a2, a3, a4, a5⟩ := wn_ok (m' := zup m2 39 r 1) (y := zup (zup m2 39 r 1) 74 r (zup m2 39 r 1 74 r + nI 1)) (nT' := nT) (nQ' := nQ) (nR' := nR) (nM' := nM) hX (by decide) (by omega) hn4 e2 (fun a ha => by simp (disch := first | omega | decide) only [zcn, zkpl, zki, zki1, zk8, zk16, zo32, zlt0, zle0, zeq0, zgt0, zLe0, nI_ltI, nI_leI, nI_eq, nI_add, nI_clamp, vp_in_nI, zup_s, zup_n, upd_s, upd_n, ne_eq, not_true_eq_false, not_false_eq_true]) (fun a g1 g2 => by
            rw [zup_n _ g2, zup_n _ (by omega), zup_n _ g2, hm2 a (by omega)]) (fun f => by
            rw [zup_n _ (by decide), zup_n _ (by decide), zup_n _ (by decide), hm2 42 (by decide)]) (fun w g1 g2 hl => ⟨_, mr_mark (by omega) (by omega) g1 g2, mF.up (mF.rf w) (by decide) (by decide), (LR_mark ⟨hl, hg.1⟩).1⟩) g1' g2' g3'
        have ek : ∀ a, a < 42 → u' a = zup m2 39 r 1 a := fun a ha => by rw [a3 a (by omega), zup_n _ (by omega)]
        refine ⟨nI r, zup m2 39 r 1, u', J', W + 4, W + 4, 0, cls e1 (fun Q hQ => ?_), mod (fun a ha => by rw [zup_n _ (by omega), hm2 a (by omega)]) (Or.inr ⟨rfl, rfl⟩) a1, a2.cg (fun a _ ha => ek a ha), ?_⟩
        · have fin : ZW 136 (0, 0, 0, 0) 69 [(1, .int (nI r)), (0, .ref 0)] [] (SH, zup m2 39 r 1) Q := by
            refine zgo 20 [] ?_
            exact hQ
          refine zgo 20 [] ?_
          repeat' (first
            | (exact (ev_rmark (n := nR) (by rw [e36, r1]) r3 hr).use fin)
            | (show vp_in _ _; simp (disch := first | omega | decide) only [z10, zcn, zkpl, zki, zki1, zk8, zk16, zo32, zlt0, zle0, zeq0, zgt0, zLe0, nI_ltI, nI_leI, nI_eq, nI_add, nI_clamp, vp_in_nI, zup_s, zup_n, upd_s, upd_n, ne_eq, not_true_eq_false, not_false_eq_true]; done)
            | (intro hc; exfalso; simp (disch := first | omega | decide) only [z10, zcn, zkpl, zki, zki1, zk8, zk16, zo32, zlt0, zle0, zeq0, zgt0, zLe0, nI_ltI, nI_leI, nI_eq, nI_add, nI_clamp, vp_in_nI, zup_s, zup_n, upd_s, upd_n, ne_eq, not_true_eq_false, not_false_eq_true] at hc <;> omega)
            | (intro hc; exact absurd rfl hc)
            | intro hc
            | apply And.intro
            | exact Or.inl rfl
            | exact Or.inr rfl
            | (show (_ : Int32) = 0 ∨ _ = 1; simp (disch := first | omega | decide) only [z10, zcn, zkpl, zki, zki1, zk8, zk16, zo32, zlt0, zle0, zeq0, zgt0, zLe0, nI_ltI, nI_leI, nI_eq, nI_add, nI_clamp, vp_in_nI, zup_s, zup_n, upd_s, upd_n, ne_eq, not_true_eq_false, not_false_eq_true, zeq1, true_or, or_true]; done))
        · refine ⟨?_, ?_, ?_, ?_, ?_, ?_⟩
          · rw [ek 0 (by decide), far' 0 (by decide) (by decide) (by decide) (by decide) (by decide)]
          · rw [ek 9 (by decide), far' 9 (by decide) (by decide) (by decide) (by decide) (by decide)]
          · rw [ek 10 (by decide), far' 10 (by decide) (by decide) (by decide) (by decide) (by decide)]
          · rw [a3 43 (by omega), zup_n _ (by decide), far' 43 (by decide) (by decide) (by decide) (by decide) (by decide)]
          · rw [a4, zup_n _ (by decide), far' 42 (by decide) (by decide) (by decide) (by decide) (by decide)]
          · rw [a5, zup_n _ (by decide), far' 42 (by decide) (by decide) (by decide) (by decide) (by decide)]
      · have hm2 : ∀ a, 41 < a → m2 a = m a := fun a g => by rw [e2.far a (by omega) (by omega) (by omega), zup_n _ (by omega)]
        have far' : ∀ a, a ≠ 40 → a ≠ 14 → a ≠ 15 → a ≠ 16 → m2 a = m a := fun a g2 g3 g4 g5 => by rw [e2.far a g3 g4 g5, zup_n _ g2]
        obtain ⟨u', n', J', a1, a2, a3, a4, a5⟩ := wn_fl (m' := m2) (y := zup m2 74 r (m2 74 r + nI 1)) hX (by decide) (by omega) hn4 e2 (fun a ha _ => rfl) (fun a g1 g2 => by
            rw [zup_n _ g2, zup_n _ g2, hm2 a (by omega)]) (fun f => by
            rw [zup_n _ (by decide), zup_n _ (by decide), hm2 42 (by decide)]) (by
            have := hX.k
            unfold kR2 at this ⊢
            rw [e2.far 40 (by decide) (by decide) (by decide), zup_s, zup_s, hm2 74 (by decide)]
            rw [zup_s, zup_s] at this
            exact this)
        have ek : ∀ a, a < 42 → u' a = m2 a := fun a ha => by rw [a3 a (by omega), zup_n _ (by omega)]
        refine ⟨-9, m2, u', J', n', W, 1, cls e1 (fun Q hQ => ?_), mod (fun a ha => hm2 a (by omega)) (Or.inl ⟨rfl, rfl⟩) a1, a2.cg (fun a _ ha => ek a ha), ?_⟩
        · refine zgo 20 [] ?_
          repeat' (first
            | (show vp_in _ _; simp (disch := first | omega | decide) only [zcn, zkpl, zki, zki1, zk8, zk16, zo32, zlt0, zle0, zeq0, zgt0, zLe0, nI_ltI, nI_leI, nI_eq, nI_add, nI_clamp, vp_in_nI, zup_s, zup_n, upd_s, upd_n, ne_eq, not_true_eq_false, not_false_eq_true]; done)
            | (intro hc; exfalso; simp (disch := first | omega | decide) only [zcn, zkpl, zki, zki1, zk8, zk16, zo32, zlt0, zle0, zeq0, zgt0, zLe0, nI_ltI, nI_leI, nI_eq, nI_add, nI_clamp, vp_in_nI, zup_s, zup_n, upd_s, upd_n, ne_eq, not_true_eq_false, not_false_eq_true] at hc <;> omega)
            | (intro hc; exact absurd rfl hc)
            | intro hc
            | apply And.intro
            | exact hQ
            | (show Q _ (SH, _); simp (disch := first | omega | decide) only [zcn, zkpl, zki, zki1, zk8, zk16, zo32, zlt0, zle0, zeq0, zgt0, zLe0, nI_ltI, nI_leI, nI_eq, nI_add, nI_clamp, vp_in_nI, zup_s, zup_n, upd_s, upd_n, ne_eq, not_true_eq_false, not_false_eq_true]; exact hQ)
            | exact Or.inl rfl
            | exact Or.inr rfl
            | (show (_ : Int32) = 0 ∨ _ = 1; simp (disch := first | omega | decide) only [zcn, zkpl, zki, zki1, zk8, zk16, zo32, zlt0, zle0, zeq0, zgt0, zLe0, nI_ltI, nI_leI, nI_eq, nI_add, nI_clamp, vp_in_nI, zup_s, zup_n, upd_s, upd_n, ne_eq, not_true_eq_false, not_false_eq_true, zeq1, true_or, or_true]; done))
        · refine ⟨?_, ?_, ?_, ?_, ?_, ?_⟩
          · rw [ek 0 (by decide), far' 0 (by decide) (by decide) (by decide) (by decide)]
          · rw [ek 9 (by decide), far' 9 (by decide) (by decide) (by decide) (by decide)]
          · rw [ek 10 (by decide), far' 10 (by decide) (by decide) (by decide) (by decide)]
          · rw [a3 43 (by omega), zup_n _ (by decide), far' 43 (by decide) (by decide) (by decide) (by decide)]
          · rw [a4, zup_n _ (by decide), far' 42 (by decide) (by decide) (by decide) (by decide)]
          · rw [a5, zup_n _ (by decide), far' 42 (by decide) (by decide) (by decide) (by decide)]
  · refine ⟨-9, m, m, J, n, W, 1, fun Q hQ => ?_, fun Q hQ => ?_, h, keep.rf m⟩
    · refine zgo 20 [53] ?_
      repeat' (first
        | (show vp_in _ _; simp (disch := first | omega | decide) only [p1, zcn, zkpl, zki, zki1, zk8, zk16, zo32, zlt0, zle0, zeq0, zgt0, zLe0, nI_ltI, nI_leI, nI_eq, nI_add, nI_clamp, vp_in_nI, zup_s, zup_n, upd_s, upd_n, ne_eq, not_true_eq_false, not_false_eq_true]; done)
        | (intro hc; exfalso; simp (disch := first | omega | decide) only [p1, zcn, zkpl, zki, zki1, zk8, zk16, zo32, zlt0, zle0, zeq0, zgt0, zLe0, nI_ltI, nI_leI, nI_eq, nI_add, nI_clamp, vp_in_nI, zup_s, zup_n, upd_s, upd_n, ne_eq, not_true_eq_false, not_false_eq_true] at hc <;> omega)
        | (intro hc; exact absurd rfl hc)
        | intro hc
        | apply And.intro
        | exact hQ
        | (show Q _ (SH, _); simp (disch := first | omega | decide) only [p1, zcn, zkpl, zki, zki1, zk8, zk16, zo32, zlt0, zle0, zeq0, zgt0, zLe0, nI_ltI, nI_leI, nI_eq, nI_add, nI_clamp, vp_in_nI, zup_s, zup_n, upd_s, upd_n, ne_eq, not_true_eq_false, not_false_eq_true]; exact hQ)
        | exact Or.inl rfl
        | exact Or.inr rfl
        | (show (_ : Int32) = 0 ∨ _ = 1; simp (disch := first | omega | decide) only [p1, zcn, zkpl, zki, zki1, zk8, zk16, zo32, zlt0, zle0, zeq0, zgt0, zLe0, nI_ltI, nI_leI, nI_eq, nI_add, nI_clamp, vp_in_nI, zup_s, zup_n, upd_s, upd_n, ne_eq, not_true_eq_false, not_false_eq_true, zeq1, true_or, or_true]; done))
    · refine zgo 20 [] ?_
      repeat' (first
        | (show vp_in _ _; simp (disch := first | omega | decide) only [p2, zcn, zkpl, zki, zki1, zk8, zk16, zo32, zlt0, zle0, zeq0, zgt0, zLe0, nI_ltI, nI_leI, nI_eq, nI_add, nI_clamp, vp_in_nI, zup_s, zup_n, upd_s, upd_n, ne_eq, not_true_eq_false, not_false_eq_true]; done)
        | (intro hc; exfalso; simp (disch := first | omega | decide) only [p2, zcn, zkpl, zki, zki1, zk8, zk16, zo32, zlt0, zle0, zeq0, zgt0, zLe0, nI_ltI, nI_leI, nI_eq, nI_add, nI_clamp, vp_in_nI, zup_s, zup_n, upd_s, upd_n, ne_eq, not_true_eq_false, not_false_eq_true] at hc <;> omega)
        | (intro hc; exact absurd rfl hc)
        | intro hc
        | apply And.intro
        | exact hQ
        | (show Q _ (SH, _); simp (disch := first | omega | decide) only [p2, zcn, zkpl, zki, zki1, zk8, zk16, zo32, zlt0, zle0, zeq0, zgt0, zLe0, nI_ltI, nI_leI, nI_eq, nI_add, nI_clamp, vp_in_nI, zup_s, zup_n, upd_s, upd_n, ne_eq, not_true_eq_false, not_false_eq_true]; exact hQ)
        | exact Or.inl rfl
        | exact Or.inr rfl
        | (show (_ : Int32) = 0 ∨ _ = 1; simp (disch := first | omega | decide) only [p2, zcn, zkpl, zki, zki1, zk8, zk16, zo32, zlt0, zle0, zeq0, zgt0, zLe0, nI_ltI, nI_leI, nI_eq, nI_add, nI_clamp, vp_in_nI, zup_s, zup_n, upd_s, upd_n, ne_eq, not_true_eq_false, not_false_eq_true, zeq1, true_or, or_true]; done))
