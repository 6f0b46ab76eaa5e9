/-! submit -/
def sbQ (m : zM) (Q : zQ) : Prop := ∀ r m1, (∀ Q2 : zQ, (∀ m2, SE m m2 → Q2 (some (.int r)) (SH, m2)) → ZM 204 0 0 [.ref 42] (SH, m1) Q2) → Q (some (.int r)) (SH, m1)
/-- behind reading: the class clears its text -/
theorem cs_clear {m' : zM} {b : Int32} (Q : zQ) (W : ZW 133 (0, 0, 0, 0) 28 [(1, .int b), (0, .ref 0)] [] (SH, zup m' 9 2 (nI 0)) Q) : ZW 133 (0, 0, 0, 0) 20 [(0, .ref 0)] [.int b] (SH, m') Q := by
  have e78 : Ev 78 [.ref 9] m' none (zup m' 9 2 (nI 0)) := by
    intro Q hQ
    refine zgo 5 [] ?_
    exact hQ
  refine zgo 4 [] ?_
  repeat' (first
    | (exact e78.use W)
    | (show vp_in _ _; simp (disch := first | omega | decide) only [zcn, zkpl, zki, zki1, zk8, zk16, zo32, zlt0, zle0, zeq0, zgt0, zLe0, nI_ltI, nI_leI, nI_eq, nI_add, nI_clamp, vp_in_nI, zup_s, zup_n, upd_s, upd_n, ne_eq, not_true_eq_false, not_false_eq_true]; done)
    | (intro hc; exfalso; simp (disch := first | omega | decide) only [zcn, zkpl, zki, zki1, zk8, zk16, zo32, zlt0, zle0, zeq0, zgt0, zLe0, nI_ltI, nI_leI, nI_eq, nI_add, nI_clamp, vp_in_nI, zup_s, zup_n, upd_s, upd_n, ne_eq, not_true_eq_false, not_false_eq_true] at hc <;> omega)
    | (intro hc; exact absurd rfl hc)
    | intro hc
    | apply And.intro
    | exact Or.inl rfl
    | exact Or.inr rfl
    | (show (_ : Int32) = 0 ∨ _ = 1; simp (disch := first | omega | decide) only [zcn, zkpl, zki, zki1, zk8, zk16, zo32, zlt0, zle0, zeq0, zgt0, zLe0, nI_ltI, nI_leI, nI_eq, nI_add, nI_clamp, vp_in_nI, zup_s, zup_n, upd_s, upd_n, ne_eq, not_true_eq_false, not_false_eq_true, zeq1, true_or, or_true]; done))
theorem cs_start {m m' : zM} {b : Int32} (hd : m 14 8 = nI 0) (hE : Ev 79 [.ref 9] m (some (.int b)) m') (Q : zQ) (W : ZW 133 (0, 0, 0, 0) 28 [(1, .int b), (0, .ref 0)] [] (SH, zup m' 9 2 (nI 0)) Q) : ZM 133 0 0 [.ref 0] (SH, m) Q := by
  have f20 := cs_clear Q W
  refine zgo 20 [53] ?_
  repeat' (first
    | (exact hE.use f20)
    | (show vp_in _ _; simp (disch := first | omega | decide) only [hd, zcn, zkpl, zki, zki1, zk8, zk16, zo32, zlt0, zle0, zeq0, zgt0, zLe0, nI_ltI, nI_leI, nI_eq, nI_add, nI_clamp, vp_in_nI, zup_s, zup_n, upd_s, upd_n, ne_eq, not_true_eq_false, not_false_eq_true]; done)
    | (intro hc; exfalso; simp (disch := first | omega | decide) only [hd, zcn, zkpl, zki, zki1, zk8, zk16, zo32, zlt0, zle0, zeq0, zgt0, zLe0, nI_ltI, nI_leI, nI_eq, nI_add, nI_clamp, vp_in_nI, zup_s, zup_n, upd_s, upd_n, ne_eq, not_true_eq_false, not_false_eq_true] at hc <;> omega)
    | (intro hc; exact absurd rfl hc)
    | intro hc
    | apply And.intro
    | exact Or.inl rfl
    | exact Or.inr rfl
    | (show (_ : Int32) = 0 ∨ _ = 1; simp (disch := first | omega | decide) only [hd, zcn, zkpl, zki, zki1, zk8, zk16, zo32, zlt0, zle0, zeq0, zgt0, zLe0, nI_ltI, nI_leI, nI_eq, nI_add, nI_clamp, vp_in_nI, zup_s, zup_n, upd_s, upd_n, ne_eq, not_true_eq_false, not_false_eq_true, zeq1, true_or, or_true]; done))
/-- the class: the rule is known -/
theorem cs_rule {m3 : zM} {r : Nat} (h : Ev 149 [.ref 0] m3 (some (.int (nI r))) m3) (h1 : 1 ≤ r) (h2 : r ≤ 13) (Q : zQ) (hQ : Q (some (.int (nI r))) (SH, m3)) : ZW 133 (0, 0, 0, 0) 46 [(1, .int 1), (0, .ref 0)] [] (SH, m3) Q := by
  have f50 : ZW 133 (0, 0, 0, 0) 50 [(1, .int 1), (0, .ref 0)] [.int (nI r)] (SH, m3) Q := by
    refine zgo 8 [] ?_
    repeat' (first
      | (show vp_in _ _; simp (disch := first | omega | decide) only [zcn, zkpl, zki, zki1, zk8, zk16, zo32, zlt0, zle0, zeq0, zgt0, zLe0, nI_ltI, nI_leI, nI_eq, nI_add, nI_clamp, vp_in_nI, zup_s, zup_n, upd_s, upd_n, ne_eq, not_true_eq_false, not_false_eq_true]; done)
      | (intro hc; exfalso; simp (disch := first | omega | decide) only [zcn, zkpl, zki, zki1, zk8, zk16, zo32, zlt0, zle0, zeq0, zgt0, zLe0, nI_ltI, nI_leI, nI_eq, nI_add, nI_clamp, vp_in_nI, zup_s, zup_n, upd_s, upd_n, ne_eq, not_true_eq_false, not_false_eq_true] at hc <;> omega)
      | (intro hc; exact absurd rfl hc)
      | intro hc
      | apply And.intro
      | exact hQ
      | (show Q _ (SH, _); simp (disch := first | omega | decide) only [zcn, zkpl, zki, zki1, zk8, zk16, zo32, zlt0, zle0, zeq0, zgt0, zLe0, nI_ltI, nI_leI, nI_eq, nI_add, nI_clamp, vp_in_nI, zup_s, zup_n, upd_s, upd_n, ne_eq, not_true_eq_false, not_false_eq_true]; exact hQ)
      | exact Or.inl rfl
      | exact Or.inr rfl
      | (show (_ : Int32) = 0 ∨ _ = 1; simp (disch := first | omega | decide) only [zcn, zkpl, zki, zki1, zk8, zk16, zo32, zlt0, zle0, zeq0, zgt0, zLe0, nI_ltI, nI_leI, nI_eq, nI_add, nI_clamp, vp_in_nI, zup_s, zup_n, upd_s, upd_n, ne_eq, not_true_eq_false, not_false_eq_true, zeq1, true_or, or_true]; done))
  refine zgo 3 [] ?_
  repeat' (first
    | (exact h.use f50)
    | (show vp_in _ _; simp (disch := first | omega | decide) only [zcn, zkpl, zki, zki1, zk8, zk16, zo32, zlt0, zle0, zeq0, zgt0, zLe0, nI_ltI, nI_leI, nI_eq, nI_add, nI_clamp, vp_in_nI, zup_s, zup_n, upd_s, upd_n, ne_eq, not_true_eq_false, not_false_eq_true]; done)
    | (intro hc; exfalso; simp (disch := first | omega | decide) only [zcn, zkpl, zki, zki1, zk8, zk16, zo32, zlt0, zle0, zeq0, zgt0, zLe0, nI_ltI, nI_leI, nI_eq, nI_add, nI_clamp, vp_in_nI, zup_s, zup_n, upd_s, upd_n, ne_eq, not_true_eq_false, not_false_eq_true] at hc <;> omega)
    | (intro hc; exact absurd rfl hc)
    | intro hc
    | apply And.intro
    | exact Or.inl rfl
    | exact Or.inr rfl
    | (show (_ : Int32) = 0 ∨ _ = 1; simp (disch := first | omega | decide) only [zcn, zkpl, zki, zki1, zk8, zk16, zo32, zlt0, zle0, zeq0, zgt0, zLe0, nI_ltI, nI_leI, nI_eq, nI_add, nI_clamp, vp_in_nI, zup_s, zup_n, upd_s, upd_n, ne_eq, not_true_eq_false, not_false_eq_true, zeq1, true_or, or_true]; done))
theorem cs_acc {m3 mc m2 : zM} {b : Int32} (h : Ev 149 [.ref 0] m3 (some (.int (nI 0))) m3) (h10 : Ev 10 [.ref 17, .ref 11] m3 none mc) (h61 : Ev 61 [.ref 14] mc (some (.int b)) m2) (Q : zQ) (W : ZW 133 (0, 0, 0, 0) 75 [(2, .int (nI 0)), (1, .int 1), (0, .ref 0)] [.int b] (SH, m2) Q) : ZW 133 (0, 0, 0, 0) 46 [(1, .int 1), (0, .ref 0)] [] (SH, m3) Q := by
  have f68 : ZW 133 (0, 0, 0, 0) 68 [(2, .int (nI 0)), (1, .int 1), (0, .ref 0)] [] (SH, mc) Q := by
    refine zgo 3 [] ?_
    repeat' (first
      | (exact h61.use W)
      | (show vp_in _ _; simp (disch := first | omega | decide) only [zcn, zkpl, zki, zki1, zk8, zk16, zo32, zlt0, zle0, zeq0, zgt0, zLe0, nI_ltI, nI_leI, nI_eq, nI_add, nI_clamp, vp_in_nI, zup_s, zup_n, upd_s, upd_n, ne_eq, not_true_eq_false, not_false_eq_true]; done)
      | (intro hc; exfalso; simp (disch := first | omega | decide) only [zcn, zkpl, zki, zki1, zk8, zk16, zo32, zlt0, zle0, zeq0, zgt0, zLe0, nI_ltI, nI_leI, nI_eq, nI_add, nI_clamp, vp_in_nI, zup_s, zup_n, upd_s, upd_n, ne_eq, not_true_eq_false, not_false_eq_true] at hc <;> omega)
      | (intro hc; exact absurd rfl hc)
      | intro hc
      | apply And.intro
      | exact Or.inl rfl
      | exact Or.inr rfl
      | (show (_ : Int32) = 0 ∨ _ = 1; simp (disch := first | omega | decide) only [zcn, zkpl, zki, zki1, zk8, zk16, zo32, zlt0, zle0, zeq0, zgt0, zLe0, nI_ltI, nI_leI, nI_eq, nI_add, nI_clamp, vp_in_nI, zup_s, zup_n, upd_s, upd_n, ne_eq, not_true_eq_false, not_false_eq_true, zeq1, true_or, or_true]; done))
  have f50 : ZW 133 (0, 0, 0, 0) 50 [(1, .int 1), (0, .ref 0)] [.int (nI 0)] (SH, m3) Q := by
    refine zgo 8 [] ?_
    repeat' (first
      | (exact h10.use f68)
      | (show vp_in _ _; simp (disch := first | omega | decide) only [zcn, zkpl, zki, zki1, zk8, zk16, zo32, zlt0, zle0, zeq0, zgt0, zLe0, nI_ltI, nI_leI, nI_eq, nI_add, nI_clamp, vp_in_nI, zup_s, zup_n, upd_s, upd_n, ne_eq, not_true_eq_false, not_false_eq_true]; done)
      | (intro hc; exfalso; simp (disch := first | omega | decide) only [zcn, zkpl, zki, zki1, zk8, zk16, zo32, zlt0, zle0, zeq0, zgt0, zLe0, nI_ltI, nI_leI, nI_eq, nI_add, nI_clamp, vp_in_nI, zup_s, zup_n, upd_s, upd_n, ne_eq, not_true_eq_false, not_false_eq_true] at hc <;> omega)
      | (intro hc; exact absurd rfl hc)
      | intro hc
      | apply And.intro
      | exact Or.inl rfl
      | exact Or.inr rfl
      | (show (_ : Int32) = 0 ∨ _ = 1; simp (disch := first | omega | decide) only [zcn, zkpl, zki, zki1, zk8, zk16, zo32, zlt0, zle0, zeq0, zgt0, zLe0, nI_ltI, nI_leI, nI_eq, nI_add, nI_clamp, vp_in_nI, zup_s, zup_n, upd_s, upd_n, ne_eq, not_true_eq_false, not_false_eq_true, zeq1, true_or, or_true]; done))
  refine zgo 3 [] ?_
  repeat' (first
    | (exact h.use f50)
    | (show vp_in _ _; simp (disch := first | omega | decide) only [zcn, zkpl, zki, zki1, zk8, zk16, zo32, zlt0, zle0, zeq0, zgt0, zLe0, nI_ltI, nI_leI, nI_eq, nI_add, nI_clamp, vp_in_nI, zup_s, zup_n, upd_s, upd_n, ne_eq, not_true_eq_false, not_false_eq_true]; done)
    | (intro hc; exfalso; simp (disch := first | omega | decide) only [zcn, zkpl, zki, zki1, zk8, zk16, zo32, zlt0, zle0, zeq0, zgt0, zLe0, nI_ltI, nI_leI, nI_eq, nI_add, nI_clamp, vp_in_nI, zup_s, zup_n, upd_s, upd_n, ne_eq, not_true_eq_false, not_false_eq_true] at hc <;> omega)
    | (intro hc; exact absurd rfl hc)
    | intro hc
    | apply And.intro
    | exact Or.inl rfl
    | exact Or.inr rfl
    | (show (_ : Int32) = 0 ∨ _ = 1; simp (disch := first | omega | decide) only [zcn, zkpl, zki, zki1, zk8, zk16, zo32, zlt0, zle0, zeq0, zgt0, zLe0, nI_ltI, nI_leI, nI_eq, nI_add, nI_clamp, vp_in_nI, zup_s, zup_n, upd_s, upd_n, ne_eq, not_true_eq_false, not_false_eq_true, zeq1, true_or, or_true]; done))
theorem cs_fl {m2 : zM} (Q : zQ) (hQ : Q (some (.int (-9))) (SH, m2)) : ZW 133 (0, 0, 0, 0) 75 [(2, .int (nI 0)), (1, .int 1), (0, .ref 0)] [.int 0] (SH, m2) Q := by
  refine zgo 8 [] ?_
  repeat' (first
    | (show vp_in _ _; simp (disch := first | omega | decide) only [zcn, zkpl, zki, zki1, zk8, zk16, zo32, zlt0, zle0, zeq0, zgt0, zLe0, nI_ltI, nI_leI, nI_eq, nI_add, nI_clamp, vp_in_nI, zup_s, zup_n, upd_s, upd_n, ne_eq, not_true_eq_false, not_false_eq_true]; done)
    | (intro hc; exfalso; simp (disch := first | omega | decide) only [zcn, zkpl, zki, zki1, zk8, zk16, zo32, zlt0, zle0, zeq0, zgt0, zLe0, nI_ltI, nI_leI, nI_eq, nI_add, nI_clamp, vp_in_nI, zup_s, zup_n, upd_s, upd_n, ne_eq, not_true_eq_false, not_false_eq_true] at hc <;> omega)
    | (intro hc; exact absurd rfl hc)
    | intro hc
    | apply And.intro
    | exact hQ
    | (show Q _ (SH, _); simp (disch := first | omega | decide) only [zcn, zkpl, zki, zki1, zk8, zk16, zo32, zlt0, zle0, zeq0, zgt0, zLe0, nI_ltI, nI_leI, nI_eq, nI_add, nI_clamp, vp_in_nI, zup_s, zup_n, upd_s, upd_n, ne_eq, not_true_eq_false, not_false_eq_true]; exact hQ)
    | exact Or.inl rfl
    | exact Or.inr rfl
    | (show (_ : Int32) = 0 ∨ _ = 1; simp (disch := first | omega | decide) only [zcn, zkpl, zki, zki1, zk8, zk16, zo32, zlt0, zle0, zeq0, zgt0, zLe0, nI_ltI, nI_leI, nI_eq, nI_add, nI_clamp, vp_in_nI, zup_s, zup_n, upd_s, upd_n, ne_eq, not_true_eq_false, not_false_eq_true, zeq1, true_or, or_true]; done))
theorem cs_ok {m2 m' : zM} (h : Ev 22 [.ref 18, .ref 11] m2 none m') (Q : zQ) (hQ : Q (some (.int 0)) (SH, m')) : ZW 133 (0, 0, 0, 0) 75 [(2, .int (nI 0)), (1, .int 1), (0, .ref 0)] [.int 1] (SH, m2) Q := by
  have f92 : ZW 133 (0, 0, 0, 0) 92 [(2, .int (nI 0)), (1, .int 1), (0, .ref 0)] [] (SH, m') Q := by
    refine zgo 3 [] ?_
    exact hQ
  refine zgo 8 [] ?_
  repeat' (first
    | (exact h.use f92)
    | (show vp_in _ _; simp (disch := first | omega | decide) only [z10, zcn, zkpl, zki, zki1, zk8, zk16, zo32, zlt0, zle0, zeq0, zgt0, zLe0, nI_ltI, nI_leI, nI_eq, nI_add, nI_clamp, vp_in_nI, zup_s, zup_n, upd_s, upd_n, ne_eq, not_true_eq_false, not_false_eq_true]; done)
    | (intro hc; exfalso; simp (disch := first | omega | decide) only [z10, zcn, zkpl, zki, zki1, zk8, zk16, zo32, zlt0, zle0, zeq0, zgt0, zLe0, nI_ltI, nI_leI, nI_eq, nI_add, nI_clamp, vp_in_nI, zup_s, zup_n, upd_s, upd_n, ne_eq, not_true_eq_false, not_false_eq_true] at hc <;> omega)
    | (intro hc; exact absurd rfl hc)
    | intro hc
    | apply And.intro
    | exact Or.inl rfl
    | exact Or.inr rfl
    | (show (_ : Int32) = 0 ∨ _ = 1; simp (disch := first | omega | decide) only [z10, zcn, zkpl, zki, zki1, zk8, zk16, zo32, zlt0, zle0, zeq0, zgt0, zLe0, nI_ltI, nI_leI, nI_eq, nI_add, nI_clamp, vp_in_nI, zup_s, zup_n, upd_s, upd_n, ne_eq, not_true_eq_false, not_false_eq_true, zeq1, true_or, or_true]; done))
/-- the text is a valid message -/
theorem sb_val {m m3 : zM} {J : Nat → Nat} {n nT nQ nR nM N wl : Nat} {w : Nat → Nat} {s : pS} (hI : IX m3 m3 J n n 0 nT nQ nR nM) (h9 : m3 9 2 = nI 0) (h0 : m3 0 = m 0) (h42 : m3 42 = m 42) (h43 : m3 43 = m 43) (hwl : m 42 7 = nI wl) (hw : aR (m 43) w wl) (hu : ∀ u : zM, u 42 7 = nI wl → aR (u 43) w wl → ∃ u', Ev 171 [.ref 42] u (some (.int 1)) u' ∧ mD u' s ∧ mG u u') (hs : mdy s) (hl : lay s) (hv : clV s) (hcw : clW s m3 N) (hsz : (s 2 0 = 80 ∧ 1 ≤ N ∧ N ≤ 3 ∧ s 0 1 = 4 + 5 * N) ∨ (s 2 0 ≠ 80 ∧ N = 0 ∧ s 0 1 = 4)) (Q : zQ) (hQ : sbQ m Q) : ZW 133 (0, 0, 0, 0) 46 [(1, .int 1), (0, .ref 0)] [] (SH, m3) Q := by
  obtain ⟨K, nm, vl, pl, dg, ho, hD, hcm, hum⟩ := ms_ex hv hsz hcw
  have hM := hcm m3 hcw
  obtain ⟨⟨t1, t2, t3⟩, ⟨q1, q2, q3⟩, ⟨r1, r2, r3⟩, ⟨k1, k2, k3⟩, -⟩ := id hI.l
  have htx : ∀ t, t < nT → ∃ c, m3 32 t = nI c ∧ c < 4 := fun t ht => by
    obtain ⟨s0, d, c, a, -, -, -, -, -, b6, b7, -⟩ := hI.g.1.1 t ht
    exact ⟨c, b6, b7⟩
  have hst : ∀ t, t < nT → ∃ z, m3 33 t = nI z ∧ z ≤ 6 := fun t ht => by
    obtain ⟨s0, d, c, a, b1, _, b3, -⟩ := hI.g.1.1 t ht
    exact ⟨s0, b1, b3⟩
  obtain ⟨r, hr⟩ := rul_ex (nb := n) (nM := nM) ho htx
  have hr13 := rul_13 hr
  have e149 := ev_149 ho hM t1 t3 k1 k3 hI.g.2.2.2.2 hI.j.1 hI.j.2.2.1 hst hr
  have hp3 : ∀ y : zM, (∀ a, 42 ≤ a → y a = m3 a) → y 42 3 = nI 0 ∧ y 42 7 = nI wl ∧ aR (y 43) w wl := fun y hy => by
    refine ⟨by rw [hy 42 (by decide)]; exact hI.p.2.1, by rw [hy 42 (by decide), h42]; exact hwl, by rw [hy 43 (by decide), h43]; exact hw⟩
  have hR : ∀ y : zM, (∀ a, 42 ≤ a → y a = m3 a) → ∀ u, nH y u → mvW u s → mS u s → ∀ Q' : zQ, Q' (some (.int (nI r))) (SH, u) → ZW 184 (0, 0, 0, 0) 18 [(0, .ref 42)] [] (SH, u) Q' := fun y hy u g1 g2 g3 Q' hQ' => by
    refine es_184 ho (hum u g2) ?_ (shr_of (IX_y hI hy g1).1) hI.g.2.2.2.2 hst hr Q' hQ'
    rw [g3.1.2.1.1 0 hl.1, hD.1.1]
  by_cases er : r = 0
  · subst er
    have ha := rul_acc hr
    have hn := ha.1
    have b1 := lt_mtx ho
    have b2 := mtx_1 (K := K) (n := N) (nm := nm) (vl := vl) (pl := pl) (dg := dg)
    have b3 := mtx_len ho
    have e10 := ev_comp ho hM
    have hcan : ∀ u, mvW u s → mS u s → Ev 189 [.ref 42] (zup u 42 7 (nI 0)) none (uA (zup (zup u 42 7 (nI 0)) 42 34 (nI 0)) 0 (mtx K N nm vl pl dg)) := fun u g1 g2 => es_can hs hl hv ho hD (gd_f (gd_of g2 g1) _ (by decide))
    generalize hxs : mtx K N nm vl pl dg = xs at *
    rcases wr_c (m1 := cA (bg m3) 2 xs) hI (fun a g1 g2 => by rw [cA_far g2 g1, bg_far g1 g2]) (fun f hf => cA_14 hf) (zPre_m b1 b2 b3 hI.j.1 hn) with ⟨m2, e61, hC⟩ | ⟨m2, c, e61, hC⟩
    · have far := hC.far
      have hM2 : cM m2 K N nm vl pl dg := by
        unfold cM
        rw [far 11 (by decide) (by decide) (by decide), far 13 (by decide) (by decide) (by decide)]
        exact hM
      have ha2 : accM m2 nT n K N nm vl pl := by
        unfold accM
        rw [far 29 (by decide) (by decide) (by decide), far 33 (by decide) (by decide) (by decide)]
        exact ha
      have hT := tk_all ho hM2 (gW_congr hI.g (fun a g1 g2 g3 => far a (by omega) (by omega) (by omega))) (lR_congr hI.l (fun a g1 g2 _ => far a (by omega) (by omega) (by omega)) (fun _ _ _ => rfl) (fun _ _ => rfl)) ha2
      rw [hxs] at hT
      obtain ⟨m', nT', nQ', nR', j1, j2, j3, j4, j5⟩ := hT
      refine cs_acc e149 e10 e61 Q (cs_ok j1 Q (hQ 0 m' (fun Q2 hQ2 => ?_)))
      have hy : ∀ a, 42 ≤ a → m' a = m3 a := fun a ha => by rw [j2 a (by omega), far a (by omega) (by omega) (by omega)]
      obtain ⟨y1, y2, y3⟩ := hp3 m' hy
      obtain ⟨u1, u2, u3, u4⟩ := hu m' y2 y3
      refine ms_val y1 u2 u3 u4 hs hl hv Q2 (hR m' hy) (fun u g1 g2 g3 => ?_)
      obtain ⟨u', w1, w2⟩ := sb_ok (m := m) b1 b2 b3 hn hI hC j2 j3 j4 j5 g1 h9 h0 (by rw [h42])
      refine ms_acc (hcan u g2 g3) w1 (Or.inr rfl) Q2 ?_
      rw [if_neg (by decide)]
      exact hQ2 u' w2
    · refine cs_acc e149 e10 e61 Q (cs_fl Q (hQ (-9) m2 (fun Q2 hQ2 => ?_)))
      have hy : ∀ a, 42 ≤ a → m2 a = m3 a := fun a ha => hC.far a (by omega) (by omega) (by omega)
      obtain ⟨y1, y2, y3⟩ := hp3 m2 hy
      obtain ⟨u1, u2, u3, u4⟩ := hu m2 y2 y3
      refine ms_val y1 u2 u3 u4 hs hl hv Q2 (hR m2 hy) (fun u g1 g2 g3 => ?_)
      obtain ⟨u', w1, w2⟩ := sb_fl (m := m) b1 b2 b3 hn hI hC g1 h9 h0 (by rw [h42])
      refine ms_acc (hcan u g2 g3) w1 (Or.inl rfl) Q2 ?_
      rw [if_pos rfl]
      exact hQ2 u' w2
  · refine cs_rule e149 (by omega) hr13 Q (hQ (nI r) m3 (fun Q2 hQ2 => ?_))
    obtain ⟨y1, y2, y3⟩ := hp3 m3 (fun _ _ => rfl)
    obtain ⟨u1, u2, u3, u4⟩ := hu m3 y2 y3
    refine ms_val y1 u2 u3 u4 hs hl hv Q2 (hR m3 (fun _ _ => rfl)) (fun u g1 g2 g3 => ?_)
    exact ms_pos (by omega) hr13 Q2 (hQ2 _ (se_end hI g1 h9 h0 (by rw [h42])))
theorem op_submit {m : zM} {J : Nat → Nat} {n W d nT nQ nR nM wl : Nat} {w : Nat → Nat} (h : IX m m J n W d nT nQ nR nM) (ht : tR m w wl) (Q : zQ) (hQ : sbQ m Q) : ZM 133 0 0 [.ref 0] (SH, m) Q := by
  obtain ⟨p1, p2, p3⟩ := id h.p
  obtain ⟨t1, t2, t3, t4⟩ := id ht
  obtain rfl | rfl : d = 0 ∨ d = 1 := by omega
  · obtain rfl := h.w rfl
    have hok : okT w wl := ⟨t3, fun j hj => ⟨(t4 j hj).1, (t4 j hj).2.1⟩⟩
    have a10 : aR (m 10) w wl := fun j hj => (t4 j hj).2.2.1
    have a43 : aR (m 43) w wl := fun j hj => (t4 j hj).2.2.2
    rcases rd_doc hok with ⟨s, s1, s2, s3, s4, s5⟩ | ⟨s4, s5⟩
    · obtain ⟨m', c1, c2, c3⟩ := s4 m t1 a10
      have hs := sI_mdy s1 t3 s3 s2
      have hl := sI_lay s1 s3
      refine cs_start p1 c1 Q ?_
      have hD : tD (zup m' 9 2 (nI 0)) s := c2.cg (fun a ha => zup_n _ (by omega))
      have cf : ∀ a, a = 0 ∨ 9 < a → zup m' 9 2 (nI 0) a = m a := fun a ha => by rw [zup_n _ (by omega), c3 a ha]
      have c9 : zup m' 9 2 (nI 0) 9 2 = nI 0 := by rw [zup_s, upd_s]
      generalize zup m' 9 2 (nI 0) = mc at *
      have W : ZM 32 0 0 [.ref 11] (SH, mc) (fun r h => ZW 133 (0, 0, 0, 0) 41 [(1, .int 1), (0, .ref 0)] (r.toList ++ []) h Q) := by
        refine ev_take hs.1 s3 hD _ (fun m3 N g1 g2 g3 g4 => ?_) (fun m3 g1 g2 => ?_)
        · have h3 : IX m3 m3 J W W 0 nT nQ nR nM := h.cl (fun a ha => by rw [g1 a (by omega) (by omega) (by omega), cf a (by omega)])
          have W := sb_val h3 (by rw [g1 9 (by decide) (by decide) (by decide)]; exact c9) (by rw [g1 0 (by decide) (by decide) (by decide), cf 0 (by omega)]) (by rw [g1 42 (by decide) (by decide) (by decide), cf 42 (by omega)]) (by rw [g1 43 (by decide) (by decide) (by decide), cf 43 (by omega)]) t2 a43 s5 hs hl g2 g3 g4 Q hQ
          show ZW 133 (0, 0, 0, 0) 41 [(1, .int 1), (0, .ref 0)] [.int 1] (SH, m3) Q
          refine zgo 1 [] ?_
          repeat' (first
            | (exact W)
            | (show vp_in _ _; simp (disch := first | omega | decide) only [z10, zcn, zkpl, zki, zki1, zk8, zk16, zo32, zlt0, zle0, zeq0, zgt0, zLe0, nI_ltI, nI_leI, nI_eq, nI_add, nI_clamp, vp_in_nI, zup_s, zup_n, upd_s, upd_n, ne_eq, not_true_eq_false, not_false_eq_true]; done)
            | (intro hc; exfalso; simp (disch := first | omega | decide) only [z10, zcn, zkpl, zki, zki1, zk8, zk16, zo32, zlt0, zle0, zeq0, zgt0, zLe0, nI_ltI, nI_leI, nI_eq, nI_add, nI_clamp, vp_in_nI, zup_s, zup_n, upd_s, upd_n, ne_eq, not_true_eq_false, not_false_eq_true] at hc <;> omega)
            | (intro hc; exact absurd rfl hc)
            | intro hc
            | apply And.intro
            | exact Or.inl rfl
            | exact Or.inr rfl
            | (show (_ : Int32) = 0 ∨ _ = 1; simp (disch := first | omega | decide) only [z10, zcn, zkpl, zki, zki1, zk8, zk16, zo32, zlt0, zle0, zeq0, zgt0, zLe0, nI_ltI, nI_leI, nI_eq, nI_add, nI_clamp, vp_in_nI, zup_s, zup_n, upd_s, upd_n, ne_eq, not_true_eq_false, not_false_eq_true, zeq1, true_or, or_true]; done))
        · have h3 : IX m3 m3 J W W 0 nT nQ nR nM := h.cl (fun a ha => by rw [g1 a (by omega) (by omega) (by omega), cf a (by omega)])
          have e42 : m3 42 = m 42 := by rw [g1 42 (by decide) (by decide) (by decide), cf 42 (by omega)]
          have e43 : m3 43 = m 43 := by rw [g1 43 (by decide) (by decide) (by decide), cf 43 (by omega)]
          have hQ1 := hQ (nI 2) m3 (fun Q2 hQ2 => by
            obtain ⟨u1, u2, u3, u4⟩ := s5 m3 (by rw [e42]; exact t2) (by rw [e43]; exact a43)
            exact ms_inv (by rw [e42]; exact p2) u2 u3 u4 hs hl g2 Q2 (fun u gu => hQ2 _ (se_end h3 gu (by rw [g1 9 (by decide) (by decide) (by decide)]; exact c9) (by rw [g1 0 (by decide) (by decide) (by decide), cf 0 (by omega)]) (by rw [e42]))))
          show ZW 133 (0, 0, 0, 0) 41 [(1, .int 1), (0, .ref 0)] [.int 0] (SH, m3) Q
          refine zgo 5 [] ?_
          repeat' (first
            | (exact hQ1)
            | (show vp_in _ _; simp (disch := first | omega | decide) only [zcn, zkpl, zki, zki1, zk8, zk16, zo32, zlt0, zle0, zeq0, zgt0, zLe0, nI_ltI, nI_leI, nI_eq, nI_add, nI_clamp, vp_in_nI, zup_s, zup_n, upd_s, upd_n, ne_eq, not_true_eq_false, not_false_eq_true]; done)
            | (intro hc; exfalso; simp (disch := first | omega | decide) only [zcn, zkpl, zki, zki1, zk8, zk16, zo32, zlt0, zle0, zeq0, zgt0, zLe0, nI_ltI, nI_leI, nI_eq, nI_add, nI_clamp, vp_in_nI, zup_s, zup_n, upd_s, upd_n, ne_eq, not_true_eq_false, not_false_eq_true] at hc <;> omega)
            | (intro hc; exact absurd rfl hc)
            | intro hc
            | apply And.intro
            | exact Or.inl rfl
            | exact Or.inr rfl
            | (show (_ : Int32) = 0 ∨ _ = 1; simp (disch := first | omega | decide) only [zcn, zkpl, zki, zki1, zk8, zk16, zo32, zlt0, zle0, zeq0, zgt0, zLe0, nI_ltI, nI_leI, nI_eq, nI_add, nI_clamp, vp_in_nI, zup_s, zup_n, upd_s, upd_n, ne_eq, not_true_eq_false, not_false_eq_true, zeq1, true_or, or_true]; done))
      refine zgo 5 [] ?_
      repeat' (first
        | (exact W)
        | (show vp_in _ _; simp (disch := first | omega | decide) only [z10, zcn, zkpl, zki, zki1, zk8, zk16, zo32, zlt0, zle0, zeq0, zgt0, zLe0, nI_ltI, nI_leI, nI_eq, nI_add, nI_clamp, vp_in_nI, zup_s, zup_n, upd_s, upd_n, ne_eq, not_true_eq_false, not_false_eq_true]; done)
        | (intro hc; exfalso; simp (disch := first | omega | decide) only [z10, zcn, zkpl, zki, zki1, zk8, zk16, zo32, zlt0, zle0, zeq0, zgt0, zLe0, nI_ltI, nI_leI, nI_eq, nI_add, nI_clamp, vp_in_nI, zup_s, zup_n, upd_s, upd_n, ne_eq, not_true_eq_false, not_false_eq_true] at hc <;> omega)
        | (intro hc; exact absurd rfl hc)
        | intro hc
        | apply And.intro
        | exact Or.inl rfl
        | exact Or.inr rfl
        | (show (_ : Int32) = 0 ∨ _ = 1; simp (disch := first | omega | decide) only [z10, zcn, zkpl, zki, zki1, zk8, zk16, zo32, zlt0, zle0, zeq0, zgt0, zLe0, nI_ltI, nI_leI, nI_eq, nI_add, nI_clamp, vp_in_nI, zup_s, zup_n, upd_s, upd_n, ne_eq, not_true_eq_false, not_false_eq_true, zeq1, true_or, or_true]; done))
    · obtain ⟨m', c1, c3⟩ := s4 m t1 a10
      refine cs_start p1 c1 Q ?_
      have cf : ∀ a, a = 0 ∨ 9 < a → zup m' 9 2 (nI 0) a = m a := fun a ha => by rw [zup_n _ (by omega), c3 a ha]
      have c9 : zup m' 9 2 (nI 0) 9 2 = nI 0 := by rw [zup_s, upd_s]
      generalize zup m' 9 2 (nI 0) = mc at *
      have h3 : IX mc mc J W W 0 nT nQ nR nM := h.cl (fun a ha => cf a (by omega))
      have hQ1 := hQ (nI 1) mc (fun Q2 hQ2 => by
        obtain ⟨u1, u2, u4⟩ := s5 mc (by rw [cf 42 (by omega)]; exact t2) (by rw [cf 43 (by omega)]; exact a43)
        exact ms_no (by rw [cf 42 (by omega)]; exact p2) u2 Q2 (hQ2 _ (se_end h3 (nH_G u4) c9 (cf 0 (by omega)) (by rw [cf 42 (by omega)]))))
      refine zgo 5 [] ?_
      repeat' (first
        | (exact hQ1)
        | (show vp_in _ _; simp (disch := first | omega | decide) only [zcn, zkpl, zki, zki1, zk8, zk16, zo32, zlt0, zle0, zeq0, zgt0, zLe0, nI_ltI, nI_leI, nI_eq, nI_add, nI_clamp, vp_in_nI, zup_s, zup_n, upd_s, upd_n, ne_eq, not_true_eq_false, not_false_eq_true]; done)
        | (intro hc; exfalso; simp (disch := first | omega | decide) only [zcn, zkpl, zki, zki1, zk8, zk16, zo32, zlt0, zle0, zeq0, zgt0, zLe0, nI_ltI, nI_leI, nI_eq, nI_add, nI_clamp, vp_in_nI, zup_s, zup_n, upd_s, upd_n, ne_eq, not_true_eq_false, not_false_eq_true] at hc <;> omega)
        | (intro hc; exact absurd rfl hc)
        | intro hc
        | apply And.intro
        | exact Or.inl rfl
        | exact Or.inr rfl
        | (show (_ : Int32) = 0 ∨ _ = 1; simp (disch := first | omega | decide) only [zcn, zkpl, zki, zki1, zk8, zk16, zo32, zlt0, zle0, zeq0, zgt0, zLe0, nI_ltI, nI_leI, nI_eq, nI_add, nI_clamp, vp_in_nI, zup_s, zup_n, upd_s, upd_n, ne_eq, not_true_eq_false, not_false_eq_true, zeq1, true_or, or_true]; done))
  · have hQ1 := hQ (-9) m (fun Q2 hQ2 => by
      have hQ := hQ2 m ⟨J, n, W, 1, nT, nQ, nR, nM, w, wl, h, ht, rfl, rfl⟩
      refine zgo 10 [] ?_
      repeat' (first
        | (show vp_in _ _; simp (disch := first | omega | decide) only [p2, zcn, zkpl, zki, zki1, zk8, zk16, zo32, zlt0, zle0, zeq0, zgt0, zLe0, nI_ltI, nI_leI, nI_eq, nI_add, nI_clamp, vp_in_nI, zup_s, zup_n, upd_s, upd_n, ne_eq, not_true_eq_false, not_false_eq_true]; done)
        | (intro hc; exfalso; simp (disch := first | omega | decide) only [p2, zcn, zkpl, zki, zki1, zk8, zk16, zo32, zlt0, zle0, zeq0, zgt0, zLe0, nI_ltI, nI_leI, nI_eq, nI_add, nI_clamp, vp_in_nI, zup_s, zup_n, upd_s, upd_n, ne_eq, not_true_eq_false, not_false_eq_true] at hc <;> omega)
        | (intro hc; exact absurd rfl hc)
        | intro hc
        | apply And.intro
        | exact hQ
        | (show Q _ (SH, _); simp (disch := first | omega | decide) only [p2, zcn, zkpl, zki, zki1, zk8, zk16, zo32, zlt0, zle0, zeq0, zgt0, zLe0, nI_ltI, nI_leI, nI_eq, nI_add, nI_clamp, vp_in_nI, zup_s, zup_n, upd_s, upd_n, ne_eq, not_true_eq_false, not_false_eq_true]; exact hQ)
        | exact Or.inl rfl
        | exact Or.inr rfl
        | (show (_ : Int32) = 0 ∨ _ = 1; simp (disch := first | omega | decide) only [p2, zcn, zkpl, zki, zki1, zk8, zk16, zo32, zlt0, zle0, zeq0, zgt0, zLe0, nI_ltI, nI_leI, nI_eq, nI_add, nI_clamp, vp_in_nI, zup_s, zup_n, upd_s, upd_n, ne_eq, not_true_eq_false, not_false_eq_true, zeq1, true_or, or_true]; done)))
    refine zgo 10 [53] ?_
    repeat' (first
      | (exact hQ1)
      | (show vp_in _ _; simp (disch := first | omega | decide) only [p1, zcn, zkpl, zki, zki1, zk8, zk16, zo32, zlt0, zle0, zeq0, zgt0, zLe0, nI_ltI, nI_leI, nI_eq, nI_add, nI_clamp, vp_in_nI, zup_s, zup_n, upd_s, upd_n, ne_eq, not_true_eq_false, not_false_eq_true]; done)
      | (intro hc; exfalso; simp (disch := first | omega | decide) only [p1, zcn, zkpl, zki, zki1, zk8, zk16, zo32, zlt0, zle0, zeq0, zgt0, zLe0, nI_ltI, nI_leI, nI_eq, nI_add, nI_clamp, vp_in_nI, zup_s, zup_n, upd_s, upd_n, ne_eq, not_true_eq_false, not_false_eq_true] at hc <;> omega)
      | (intro hc; exact absurd rfl hc)
      | intro hc
      | apply And.intro
      | exact Or.inl rfl
      | exact Or.inr rfl
      | (show (_ : Int32) = 0 ∨ _ = 1; simp (disch := first | omega | decide) only [p1, zcn, zkpl, zki, zki1, zk8, zk16, zo32, zlt0, zle0, zeq0, zgt0, zLe0, nI_ltI, nI_leI, nI_eq, nI_add, nI_clamp, vp_in_nI, zup_s, zup_n, upd_s, upd_n, ne_eq, not_true_eq_false, not_false_eq_true, zeq1, true_or, or_true]; done))
