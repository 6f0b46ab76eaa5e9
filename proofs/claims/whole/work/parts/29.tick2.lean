/-! tick as a whole -/
theorem IX.cgu {m u u' : zM} {J : Nat → Nat} {n W d nT nQ nR nM : Nat} (h : IX m u J n W d nT nQ nR nM) (hu : ∀ a, 42 ≤ a → u' a = u a) : IX m u' J n W d nT nQ nR nM := by
  obtain ⟨h1, h2, h3, h4, h5, h6, h7, h8, h9, h10⟩ := h
  have e42 := hu 42 (by decide)
  refine ⟨?_, ?_, ?_, lR_congr h4 (fun _ _ _ _ => rfl) (fun a g1 g2 => hu a (by omega)) (fun f hf => by rw [e42]), h5, ?_, ?_, ?_, h9, h10⟩
  · unfold jR2
    rw [e42, hu 58 (by decide)]
    exact h1
  · unfold pR2
    rw [e42]
    exact h2
  · unfold fR2
    rw [e42]
    exact h3
  · rw [e42]
    exact h6
  · unfold kR2
    rw [hu 74 (by decide)]
    exact h7
  · rw [e42]
    exact h8
theorem op_tick {m : zM} {J : Nat → Nat} {n W d nT nQ nR nM c : Nat} (h : IX m m J n W d nT nQ nR nM) (hcl : m 0 5 = nI c) (hcm : m 42 2 = nI c) (x : Int32) : ∃ r m1 m2 J' n' W' d' nQ' nR' c', Ev 135 [.ref 0, .int x] m (some (.int r)) m1 ∧ Ev 206 [.ref 42, .int x] m1 (some (.int r)) m2 ∧ IX m2 m2 J' n' W' d' nT nQ' nR' nM ∧ m2 0 5 = nI c' ∧ m2 42 2 = nI c' ∧ c' ≤ c + 1000 ∧ m2 9 = m 9 ∧ m2 10 = m 10 ∧ m2 43 = m 43 ∧ m2 42 7 = m 42 7 := by
  have hT : nT ≤ 20 := h.l.1.2.2
  have main : ∀ c', c' ≤ c + 1000 → (∀ Q : zQ, ZW 135 (0, 0, 0, 0) 23 [(2, .int (nI 0)), (0, .ref 0), (1, .int x)] [] (SH, zup m 0 5 (nI c')) Q → ZM 135 0 0 [.ref 0, .int x] (SH, m) Q) → (∀ (e : zM) (Q : zQ), e 42 2 = nI c → ZW 206 (0, 0, 0, 0) 27 [(2, .int (nI 0)), (0, .ref 42), (1, .int x)] [] (SH, zup e 42 2 (nI c')) Q → ZM 206 0 0 [.ref 42, .int x] (SH, e) Q) → ∃ r m1 m2 J' n' W' d' nQ' nR' c', Ev 135 [.ref 0, .int x] m (some (.int r)) m1 ∧ Ev 206 [.ref 42, .int x] m1 (some (.int r)) m2 ∧ IX m2 m2 J' n' W' d' nT nQ' nR' nM ∧ m2 0 5 = nI c' ∧ m2 42 2 = nI c' ∧ c' ≤ c + 1000 ∧ m2 9 = m 9 ∧ m2 10 = m 10 ∧ m2 43 = m 43 ∧ m2 42 7 = m 42 7 := by
    intro c' hc' hA hB
    have hI := IX_clk (x := nI c') h
    obtain ⟨m', J', n', W', d', nQ', nR', g1, g2, g3⟩ := tick_loop (c := c') (nn := x) hT nT 0 _ _ _ _ _ _ _ (by omega) ⟨_, hI⟩ (by simp (disch := first | omega | decide) only [zcn, zkpl, zki, zki1, zk8, zk16, zo32, zlt0, zle0, zeq0, zgt0, zLe0, nI_ltI, nI_leI, nI_eq, nI_add, nI_clamp, vp_in_nI, zup_s, zup_n, upd_s, upd_n, ne_eq, not_true_eq_false, not_false_eq_true])
    have hm' : ∀ a, a < 14 ∨ 42 ≤ a → m' a = zup m 0 5 (nI c') a := g1
    have hI' : IX (zup m 0 5 (nI c')) (zup m' 42 2 (nI c')) J n W d nT nQ nR nM := hI.cgu (fun a ha => by
      by_cases e : a = 42
      · subst e
        rw [zup_s, zup_s, hm' 42 (by omega)]
      · rw [zup_n _ e, zup_n _ e, hm' a (by omega)])
    obtain ⟨e', y1, y2, y3⟩ := g3 (zup m' 42 2 (nI c')) hI' (by simp (disch := first | omega | decide) only [zcn, zkpl, zki, zki1, zk8, zk16, zo32, zlt0, zle0, zeq0, zgt0, zLe0, nI_ltI, nI_leI, nI_eq, nI_add, nI_clamp, vp_in_nI, zup_s, zup_n, upd_s, upd_n, ne_eq, not_true_eq_false, not_false_eq_true])
    have ek : ∀ a, a < 42 → e' a = m' a := fun a ha => by rw [y2.1 a (by omega), zup_n _ (by omega)]
    refine ⟨nI c', m', e', J', n', W', d', nQ', nR', c', fun Q hQ => hA Q (g2 Q hQ), fun Q hQ => hB m' Q ?_ (y3 Q _ (Or.inl rfl) hQ), y1.cg (fun a _ ha => ek a ha), ?_, ?_, hc', ?_, ?_, ?_, ?_⟩
    · rw [hm' 42 (by omega), zup_n _ (by decide), hcm]
    · rw [ek 0 (by decide), hm' 0 (by omega)]
      simp (disch := first | omega | decide) only [zcn, zkpl, zki, zki1, zk8, zk16, zo32, zlt0, zle0, zeq0, zgt0, zLe0, nI_ltI, nI_leI, nI_eq, nI_add, nI_clamp, vp_in_nI, zup_s, zup_n, upd_s, upd_n, ne_eq, not_true_eq_false, not_false_eq_true]
    · rw [y2.2.1]
      simp (disch := first | omega | decide) only [zcn, zkpl, zki, zki1, zk8, zk16, zo32, zlt0, zle0, zeq0, zgt0, zLe0, nI_ltI, nI_leI, nI_eq, nI_add, nI_clamp, vp_in_nI, zup_s, zup_n, upd_s, upd_n, ne_eq, not_true_eq_false, not_false_eq_true]
    · rw [ek 9 (by decide), hm' 9 (by omega), zup_n _ (by decide)]
    · rw [ek 10 (by decide), hm' 10 (by omega), zup_n _ (by decide)]
    · rw [y2.1 43 (by omega), zup_n _ (by decide), hm' 43 (by omega), zup_n _ (by decide)]
    · rw [y2.2.2]
      simp (disch := first | omega | decide) only [hm' 42, zcn, zkpl, zki, zki1, zk8, zk16, zo32, zlt0, zle0, zeq0, zgt0, zLe0, nI_ltI, nI_leI, nI_eq, nI_add, nI_clamp, vp_in_nI, zup_s, zup_n, upd_s, upd_n, ne_eq, not_true_eq_false, not_false_eq_true]
  rcases zix x (n := 1001) (by omega) with ⟨hk0, hk⟩ | ⟨⟨hk, hk2, hk3⟩, hk4⟩ | ⟨j, hj, rfl⟩
  · refine main c (by omega) (fun Q w => ?_) (fun e Q he w => ?_)
    · rw [zup_id hcl] at w
      refine zgo 40 [] ?_
      repeat' (first
        | (exact w)
        | (show vp_in _ _; simp (disch := first | omega | decide) only [hk, zcn, zkpl, zki, zki1, zk8, zk16, zo32, zlt0, zle0, zeq0, zgt0, zLe0, nI_ltI, nI_leI, nI_eq, nI_add, nI_clamp, vp_in_nI, zup_s, zup_n, upd_s, upd_n, ne_eq, not_true_eq_false, not_false_eq_true]; done)
        | (intro hc; exfalso; simp (disch := first | omega | decide) only [hk, zcn, zkpl, zki, zki1, zk8, zk16, zo32, zlt0, zle0, zeq0, zgt0, zLe0, nI_ltI, nI_leI, nI_eq, nI_add, nI_clamp, vp_in_nI, zup_s, zup_n, upd_s, upd_n, ne_eq, not_true_eq_false, not_false_eq_true] at hc <;> omega)
        | (intro hc; exact absurd rfl hc)
        | intro hc
        | apply And.intro
        | exact Or.inl rfl
        | exact Or.inr rfl
        | (show (_ : Int32) = 0 ∨ _ = 1; simp (disch := first | omega | decide) only [hk, zcn, zkpl, zki, zki1, zk8, zk16, zo32, zlt0, zle0, zeq0, zgt0, zLe0, nI_ltI, nI_leI, nI_eq, nI_add, nI_clamp, vp_in_nI, zup_s, zup_n, upd_s, upd_n, ne_eq, not_true_eq_false, not_false_eq_true, zeq1, true_or, or_true]; done))
    · refine zgo 40 [] ?_
      repeat' (first
        | (exact zcg (by simp (disch := first | omega | decide) only [he, Nat.add_zero, zcn, zkpl, zki, zki1, zk8, zk16, zo32, zlt0, zle0, zeq0, zgt0, zLe0, nI_ltI, nI_leI, nI_eq, nI_add, nI_clamp, vp_in_nI, zup_s, zup_n, upd_s, upd_n, ne_eq, not_true_eq_false, not_false_eq_true]) w)
        | (show vp_in _ _; simp (disch := first | omega | decide) only [hk, zcn, zkpl, zki, zki1, zk8, zk16, zo32, zlt0, zle0, zeq0, zgt0, zLe0, nI_ltI, nI_leI, nI_eq, nI_add, nI_clamp, vp_in_nI, zup_s, zup_n, upd_s, upd_n, ne_eq, not_true_eq_false, not_false_eq_true]; done)
        | (intro hc; exfalso; simp (disch := first | omega | decide) only [hk, zcn, zkpl, zki, zki1, zk8, zk16, zo32, zlt0, zle0, zeq0, zgt0, zLe0, nI_ltI, nI_leI, nI_eq, nI_add, nI_clamp, vp_in_nI, zup_s, zup_n, upd_s, upd_n, ne_eq, not_true_eq_false, not_false_eq_true] at hc <;> omega)
        | (intro hc; exact absurd rfl hc)
        | intro hc
        | apply And.intro
        | exact Or.inl rfl
        | exact Or.inr rfl
        | (show (_ : Int32) = 0 ∨ _ = 1; simp (disch := first | omega | decide) only [hk, zcn, zkpl, zki, zki1, zk8, zk16, zo32, zlt0, zle0, zeq0, zgt0, zLe0, nI_ltI, nI_leI, nI_eq, nI_add, nI_clamp, vp_in_nI, zup_s, zup_n, upd_s, upd_n, ne_eq, not_true_eq_false, not_false_eq_true, zeq1, true_or, or_true]; done))
  · have hk5 : nI 1001 ≤ x := of_eq_true hk3
    refine main c (by omega) (fun Q w => ?_) (fun e Q he w => ?_)
    · rw [zup_id hcl] at w
      refine zgo 40 [] ?_
      repeat' (first
        | (exact w)
        | (show vp_in _ _; simp (disch := first | omega | decide) only [hk, zbigk hk5, zcn, zkpl, zki, zki1, zk8, zk16, zo32, zlt0, zle0, zeq0, zgt0, zLe0, nI_ltI, nI_leI, nI_eq, nI_add, nI_clamp, vp_in_nI, zup_s, zup_n, upd_s, upd_n, ne_eq, not_true_eq_false, not_false_eq_true]; done)
        | (intro hc; exfalso; simp (disch := first | omega | decide) only [hk, zbigk hk5, zcn, zkpl, zki, zki1, zk8, zk16, zo32, zlt0, zle0, zeq0, zgt0, zLe0, nI_ltI, nI_leI, nI_eq, nI_add, nI_clamp, vp_in_nI, zup_s, zup_n, upd_s, upd_n, ne_eq, not_true_eq_false, not_false_eq_true] at hc <;> omega)
        | (intro hc; exact absurd rfl hc)
        | intro hc
        | apply And.intro
        | exact Or.inl rfl
        | exact Or.inr rfl
        | (show (_ : Int32) = 0 ∨ _ = 1; simp (disch := first | omega | decide) only [hk, zbigk hk5, zcn, zkpl, zki, zki1, zk8, zk16, zo32, zlt0, zle0, zeq0, zgt0, zLe0, nI_ltI, nI_leI, nI_eq, nI_add, nI_clamp, vp_in_nI, zup_s, zup_n, upd_s, upd_n, ne_eq, not_true_eq_false, not_false_eq_true, zeq1, true_or, or_true]; done))
    · refine zgo 40 [] ?_
      repeat' (first
        | (exact zcg (by simp (disch := first | omega | decide) only [he, Nat.add_zero, zcn, zkpl, zki, zki1, zk8, zk16, zo32, zlt0, zle0, zeq0, zgt0, zLe0, nI_ltI, nI_leI, nI_eq, nI_add, nI_clamp, vp_in_nI, zup_s, zup_n, upd_s, upd_n, ne_eq, not_true_eq_false, not_false_eq_true]) w)
        | (show vp_in _ _; simp (disch := first | omega | decide) only [hk, zbigk hk5, zcn, zkpl, zki, zki1, zk8, zk16, zo32, zlt0, zle0, zeq0, zgt0, zLe0, nI_ltI, nI_leI, nI_eq, nI_add, nI_clamp, vp_in_nI, zup_s, zup_n, upd_s, upd_n, ne_eq, not_true_eq_false, not_false_eq_true]; done)
        | (intro hc; exfalso; simp (disch := first | omega | decide) only [hk, zbigk hk5, zcn, zkpl, zki, zki1, zk8, zk16, zo32, zlt0, zle0, zeq0, zgt0, zLe0, nI_ltI, nI_leI, nI_eq, nI_add, nI_clamp, vp_in_nI, zup_s, zup_n, upd_s, upd_n, ne_eq, not_true_eq_false, not_false_eq_true] at hc <;> omega)
        | (intro hc; exact absurd rfl hc)
        | intro hc
        | apply And.intro
        | exact Or.inl rfl
        | exact Or.inr rfl
        | (show (_ : Int32) = 0 ∨ _ = 1; simp (disch := first | omega | decide) only [hk, zbigk hk5, zcn, zkpl, zki, zki1, zk8, zk16, zo32, zlt0, zle0, zeq0, zgt0, zLe0, nI_ltI, nI_leI, nI_eq, nI_add, nI_clamp, vp_in_nI, zup_s, zup_n, upd_s, upd_n, ne_eq, not_true_eq_false, not_false_eq_true, zeq1, true_or, or_true]; done))
  · refine main (c + j) (by omega) (fun Q w => ?_) (fun e Q he w => ?_)
    · refine zgo 40 [] ?_
      repeat' (first
        | (exact zcg (by simp (disch := first | omega | decide) only [hcl, zcn, zkpl, zki, zki1, zk8, zk16, zo32, zlt0, zle0, zeq0, zgt0, zLe0, nI_ltI, nI_leI, nI_eq, nI_add, nI_clamp, vp_in_nI, zup_s, zup_n, upd_s, upd_n, ne_eq, not_true_eq_false, not_false_eq_true]) w)
        | (show vp_in _ _; simp (disch := first | omega | decide) only [zcn, zkpl, zki, zki1, zk8, zk16, zo32, zlt0, zle0, zeq0, zgt0, zLe0, nI_ltI, nI_leI, nI_eq, nI_add, nI_clamp, vp_in_nI, zup_s, zup_n, upd_s, upd_n, ne_eq, not_true_eq_false, not_false_eq_true]; done)
        | (intro hc; exfalso; simp (disch := first | omega | decide) only [zcn, zkpl, zki, zki1, zk8, zk16, zo32, zlt0, zle0, zeq0, zgt0, zLe0, nI_ltI, nI_leI, nI_eq, nI_add, nI_clamp, vp_in_nI, zup_s, zup_n, upd_s, upd_n, ne_eq, not_true_eq_false, not_false_eq_true] at hc <;> omega)
        | (intro hc; exact absurd rfl hc)
        | intro hc
        | apply And.intro
        | exact Or.inl rfl
        | exact Or.inr rfl
        | (show (_ : Int32) = 0 ∨ _ = 1; simp (disch := first | omega | decide) only [zcn, zkpl, zki, zki1, zk8, zk16, zo32, zlt0, zle0, zeq0, zgt0, zLe0, nI_ltI, nI_leI, nI_eq, nI_add, nI_clamp, vp_in_nI, zup_s, zup_n, upd_s, upd_n, ne_eq, not_true_eq_false, not_false_eq_true, zeq1, true_or, or_true]; done))
    · refine zgo 40 [] ?_
      repeat' (first
        | (exact zcg (by simp (disch := first | omega | decide) only [he, zcn, zkpl, zki, zki1, zk8, zk16, zo32, zlt0, zle0, zeq0, zgt0, zLe0, nI_ltI, nI_leI, nI_eq, nI_add, nI_clamp, vp_in_nI, zup_s, zup_n, upd_s, upd_n, ne_eq, not_true_eq_false, not_false_eq_true]) w)
        | (show vp_in _ _; simp (disch := first | omega | decide) only [zcn, zkpl, zki, zki1, zk8, zk16, zo32, zlt0, zle0, zeq0, zgt0, zLe0, nI_ltI, nI_leI, nI_eq, nI_add, nI_clamp, vp_in_nI, zup_s, zup_n, upd_s, upd_n, ne_eq, not_true_eq_false, not_false_eq_true]; done)
        | (intro hc; exfalso; simp (disch := first | omega | decide) only [zcn, zkpl, zki, zki1, zk8, zk16, zo32, zlt0, zle0, zeq0, zgt0, zLe0, nI_ltI, nI_leI, nI_eq, nI_add, nI_clamp, vp_in_nI, zup_s, zup_n, upd_s, upd_n, ne_eq, not_true_eq_false, not_false_eq_true] at hc <;> omega)
        | (intro hc; exact absurd rfl hc)
        | intro hc
        | apply And.intro
        | exact Or.inl rfl
        | exact Or.inr rfl
        | (show (_ : Int32) = 0 ∨ _ = 1; simp (disch := first | omega | decide) only [zcn, zkpl, zki, zki1, zk8, zk16, zo32, zlt0, zle0, zeq0, zgt0, zLe0, nI_ltI, nI_leI, nI_eq, nI_add, nI_clamp, vp_in_nI, zup_s, zup_n, upd_s, upd_n, ne_eq, not_true_eq_false, not_false_eq_true, zeq1, true_or, or_true]; done))
