/-! the class's ledger takes a message -/
def cnm (m : zM) (nM : Nat) (x : Int32) : zM := zup (zup m 41 nM x) 18 4 (nI (nM + 1))
theorem cnm_far {m : zM} {nM a : Nat} {x : Int32} (h1 : a ≠ 41) (h2 : a ≠ 18) : cnm m nM x a = m a := by
  unfold cnm
  rw [zup_n _ h2, zup_n _ h1]
theorem cM_nm {m : zM} {nM K n : Nat} {x : Int32} {nm : Nat → List Nat} {vl pl dg : Nat → Nat} (h : cM m K n nm vl pl dg) : cM (cnm m nM x) K n nm vl pl dg := by
  unfold cM
  rw [cnm_far (by decide) (by decide), cnm_far (by decide) (by decide)]
  exact h
theorem ev_22 {m m' : zM} {K n nM : Nat} {nm : Nat → List Nat} {vl pl dg : Nat → Nat} (hM : cM m K n nm vl pl dg) (h4 : m 18 4 = nI nM) (hM2 : nM < 60) (hK : (K = 80 ∧ Ev 26 [.ref 18, .ref 11] (cnm m nM (nI (n8 (nm 1)))) none m') ∨ (∃ t, K = 81 ∧ Ev 92 [.ref 28, .int (nI (n8 (nm 2)))] (cnm m nM (nI (n8 (nm 1)))) (some (.int (nI t))) (cnm m nM (nI (n8 (nm 1)))) ∧ Ev 27 [.ref 18, .int (nI t), .int (nI (vl 3))] (cnm m nM (nI (n8 (nm 1)))) none m') ∨ (∃ t, K = 82 ∧ Ev 92 [.ref 28, .int (nI (n8 (nm 2)))] (cnm m nM (nI (n8 (nm 1)))) (some (.int (nI t))) (cnm m nM (nI (n8 (nm 1)))) ∧ Ev 29 [.ref 18, .int (nI t), .int (nI (vl 3))] (cnm m nM (nI (n8 (nm 1)))) none m')) : Ev 22 [.ref 18, .ref 11] m none m' := by
  have h38 := ev_v38 (m := m)
  rw [hM.2.1] at h38
  have hM1 := cM_nm (nM := nM) (x := nI (n8 (nm 1))) hM
  have hc1 : cnm m nM (nI (n8 (nm 1))) = zup (zup m 41 nM (nI (n8 (nm 1)))) 18 4 (nI (nM + 1)) := rfl
  have e44 : ∀ Q : zQ, ZW 22 (0, 0, 0, 0) 35 [(0, .ref 18), (1, .ref 11)] [] (SH, cnm m nM (nI (n8 (nm 1)))) Q → ZM 22 0 0 [.ref 18, .ref 11] (SH, m) Q := by
    intro Q W
    have f24 : ZW 22 (0, 0, 0, 0) 24 [(0, .ref 18), (1, .ref 11)] [.int (nI (n8 (nm 1))), .int (m 18 4), .ref 41] (SH, m) Q := by
      refine zgo 7 [] ?_
      repeat' (first
        | (exact zcg (by rw [hc1]; simp (disch := first | omega | decide) only [h4, zcn, zkpl, zki, zki1, zk8, zk16, zo32, zlt0, zle0, zeq0, zgt0, zLe0, nI_ltI, nI_leI, nI_eq, nI_add, nI_clamp, vp_in_nI, zup_s, zup_n, upd_s, upd_n, ne_eq, not_true_eq_false, not_false_eq_true]) W)
        | (show vp_in _ _; simp (disch := first | omega | decide) only [h4, zcn, zkpl, zki, zki1, zk8, zk16, zo32, zlt0, zle0, zeq0, zgt0, zLe0, nI_ltI, nI_leI, nI_eq, nI_add, nI_clamp, vp_in_nI, zup_s, zup_n, upd_s, upd_n, ne_eq, not_true_eq_false, not_false_eq_true]; done)
        | (intro hc; exfalso; simp (disch := first | omega | decide) only [h4, zcn, zkpl, zki, zki1, zk8, zk16, zo32, zlt0, zle0, zeq0, zgt0, zLe0, nI_ltI, nI_leI, nI_eq, nI_add, nI_clamp, vp_in_nI, zup_s, zup_n, upd_s, upd_n, ne_eq, not_true_eq_false, not_false_eq_true] at hc <;> omega)
        | (intro hc; exact absurd rfl hc)
        | intro hc
        | apply And.intro
        | exact Or.inl rfl
        | exact Or.inr rfl
        | (show (_ : Int32) = 0 ∨ _ = 1; simp (disch := first | omega | decide) only [h4, zcn, zkpl, zki, zki1, zk8, zk16, zo32, zlt0, zle0, zeq0, zgt0, zLe0, nI_ltI, nI_leI, nI_eq, nI_add, nI_clamp, vp_in_nI, zup_s, zup_n, upd_s, upd_n, ne_eq, not_true_eq_false, not_false_eq_true, zeq1, true_or, or_true]; done))
    refine zgo 20 [] ?_
    repeat' (first
      | (exact h38.use f24)
      | (show vp_in _ _; simp (disch := first | omega | decide) only [h4, zcn, zkpl, zki, zki1, zk8, zk16, zo32, zlt0, zle0, zeq0, zgt0, zLe0, nI_ltI, nI_leI, nI_eq, nI_add, nI_clamp, vp_in_nI, zup_s, zup_n, upd_s, upd_n, ne_eq, not_true_eq_false, not_false_eq_true]; done)
      | (intro hc; exfalso; simp (disch := first | omega | decide) only [h4, zcn, zkpl, zki, zki1, zk8, zk16, zo32, zlt0, zle0, zeq0, zgt0, zLe0, nI_ltI, nI_leI, nI_eq, nI_add, nI_clamp, vp_in_nI, zup_s, zup_n, upd_s, upd_n, ne_eq, not_true_eq_false, not_false_eq_true] at hc <;> omega)
      | (intro hc; exact absurd rfl hc)
      | intro hc
      | apply And.intro
      | exact Or.inl rfl
      | exact Or.inr rfl
      | (show (_ : Int32) = 0 ∨ _ = 1; simp (disch := first | omega | decide) only [h4, zcn, zkpl, zki, zki1, zk8, zk16, zo32, zlt0, zle0, zeq0, zgt0, zLe0, nI_ltI, nI_leI, nI_eq, nI_add, nI_clamp, vp_in_nI, zup_s, zup_n, upd_s, upd_n, ne_eq, not_true_eq_false, not_false_eq_true, zeq1, true_or, or_true]; done))
  clear hc1 h38
  generalize cnm m nM (nI (n8 (nm 1))) = m1 at *
  have hkd : Ev 34 [.ref 11] m1 (some (.int (nI K))) m1 := by
    have : m1 11 3 = nI K := hM1.1.1
    intro Q hQ
    rw [← this] at hQ
    refine zgo 5 [] ?_
    repeat' (first
      | (show vp_in _ _; simp (disch := first | omega | decide) only [zcn, zkpl, zki, zki1, zk8, zk16, zo32, zlt0, zle0, zeq0, zgt0, zLe0, nI_ltI, nI_leI, nI_eq, nI_add, nI_clamp, vp_in_nI, zup_s, zup_n, upd_s, upd_n, ne_eq, not_true_eq_false, not_false_eq_true]; done)
      | (intro hc; exfalso; simp (disch := first | omega | decide) only [zcn, zkpl, zki, zki1, zk8, zk16, zo32, zlt0, zle0, zeq0, zgt0, zLe0, nI_ltI, nI_leI, nI_eq, nI_add, nI_clamp, vp_in_nI, zup_s, zup_n, upd_s, upd_n, ne_eq, not_true_eq_false, not_false_eq_true] at hc <;> omega)
      | (intro hc; exact absurd rfl hc)
      | intro hc
      | apply And.intro
      | exact hQ
      | (show Q _ (SH, _); simp (disch := first | omega | decide) only [zcn, zkpl, zki, zki1, zk8, zk16, zo32, zlt0, zle0, zeq0, zgt0, zLe0, nI_ltI, nI_leI, nI_eq, nI_add, nI_clamp, vp_in_nI, zup_s, zup_n, upd_s, upd_n, ne_eq, not_true_eq_false, not_false_eq_true]; exact hQ)
      | exact Or.inl rfl
      | exact Or.inr rfl
      | (show (_ : Int32) = 0 ∨ _ = 1; simp (disch := first | omega | decide) only [zcn, zkpl, zki, zki1, zk8, zk16, zo32, zlt0, zle0, zeq0, zgt0, zLe0, nI_ltI, nI_leI, nI_eq, nI_add, nI_clamp, vp_in_nI, zup_s, zup_n, upd_s, upd_n, ne_eq, not_true_eq_false, not_false_eq_true, zeq1, true_or, or_true]; done))
  intro Q hQ
  refine e44 Q ?_
  have f39 : ZW 22 (0, 0, 0, 0) 39 [(0, .ref 18), (1, .ref 11)] [.int (nI K)] (SH, m1) Q := by
    rcases hK with ⟨rfl, hE⟩ | ⟨t, rfl, hF, hE⟩ | ⟨t, rfl, hF, hE⟩
    · have f69 : ZW 22 (0, 0, 0, 0) 69 [(0, .ref 18), (1, .ref 11)] [] (SH, m') Q := by
        refine zgo 3 [] ?_
        exact hQ
      refine zgo 5 [] ?_
      repeat' (first
        | (exact hE.use f69)
        | (show vp_in _ _; simp (disch := first | omega | decide) only [zcn, zkpl, zki, zki1, zk8, zk16, zo32, zlt0, zle0, zeq0, zgt0, zLe0, nI_ltI, nI_leI, nI_eq, nI_add, nI_clamp, vp_in_nI, zup_s, zup_n, upd_s, upd_n, ne_eq, not_true_eq_false, not_false_eq_true]; done)
        | (intro hc; exfalso; simp (disch := first | omega | decide) only [zcn, zkpl, zki, zki1, zk8, zk16, zo32, zlt0, zle0, zeq0, zgt0, zLe0, nI_ltI, nI_leI, nI_eq, nI_add, nI_clamp, vp_in_nI, zup_s, zup_n, upd_s, upd_n, ne_eq, not_true_eq_false, not_false_eq_true] at hc <;> omega)
        | (intro hc; exact absurd rfl hc)
        | intro hc
        | apply And.intro
        | exact Or.inl rfl
        | exact Or.inr rfl
        | (show (_ : Int32) = 0 ∨ _ = 1; simp (disch := first | omega | decide) only [zcn, zkpl, zki, zki1, zk8, zk16, zo32, zlt0, zle0, zeq0, zgt0, zLe0, nI_ltI, nI_leI, nI_eq, nI_add, nI_clamp, vp_in_nI, zup_s, zup_n, upd_s, upd_n, ne_eq, not_true_eq_false, not_false_eq_true, zeq1, true_or, or_true]; done))
    · have h41 := ev_v41 (m := m1)
      rw [hM1.2.2.2.1 (by decide)] at h41
      have h42 := ev_v42 (m := m1)
      rw [hM1.2.2.2.2.1] at h42
      have f91 : ZW 22 (0, 0, 0, 0) 91 [(0, .ref 18), (1, .ref 11)] [] (SH, m') Q := by
        refine zgo 3 [] ?_
        exact hQ
      have f88 : ZW 22 (0, 0, 0, 0) 88 [(0, .ref 18), (1, .ref 11)] [.int (nI (vl 3)), .int (nI t), .ref 18] (SH, m1) Q := by
        refine zgo 3 [] ?_
        repeat' (first
          | (exact hE.use f91)
          | (show vp_in _ _; simp (disch := first | omega | decide) only [zcn, zkpl, zki, zki1, zk8, zk16, zo32, zlt0, zle0, zeq0, zgt0, zLe0, nI_ltI, nI_leI, nI_eq, nI_add, nI_clamp, vp_in_nI, zup_s, zup_n, upd_s, upd_n, ne_eq, not_true_eq_false, not_false_eq_true]; done)
          | (intro hc; exfalso; simp (disch := first | omega | decide) only [zcn, zkpl, zki, zki1, zk8, zk16, zo32, zlt0, zle0, zeq0, zgt0, zLe0, nI_ltI, nI_leI, nI_eq, nI_add, nI_clamp, vp_in_nI, zup_s, zup_n, upd_s, upd_n, ne_eq, not_true_eq_false, not_false_eq_true] at hc <;> omega)
          | (intro hc; exact absurd rfl hc)
          | intro hc
          | apply And.intro
          | exact Or.inl rfl
          | exact Or.inr rfl
          | (show (_ : Int32) = 0 ∨ _ = 1; simp (disch := first | omega | decide) only [zcn, zkpl, zki, zki1, zk8, zk16, zo32, zlt0, zle0, zeq0, zgt0, zLe0, nI_ltI, nI_leI, nI_eq, nI_add, nI_clamp, vp_in_nI, zup_s, zup_n, upd_s, upd_n, ne_eq, not_true_eq_false, not_false_eq_true, zeq1, true_or, or_true]; done))
      have f84 : ZW 22 (0, 0, 0, 0) 84 [(0, .ref 18), (1, .ref 11)] [.int (nI t), .ref 18] (SH, m1) Q := by
        refine zgo 3 [] ?_
        repeat' (first
          | (exact h42.use f88)
          | (show vp_in _ _; simp (disch := first | omega | decide) only [zcn, zkpl, zki, zki1, zk8, zk16, zo32, zlt0, zle0, zeq0, zgt0, zLe0, nI_ltI, nI_leI, nI_eq, nI_add, nI_clamp, vp_in_nI, zup_s, zup_n, upd_s, upd_n, ne_eq, not_true_eq_false, not_false_eq_true]; done)
          | (intro hc; exfalso; simp (disch := first | omega | decide) only [zcn, zkpl, zki, zki1, zk8, zk16, zo32, zlt0, zle0, zeq0, zgt0, zLe0, nI_ltI, nI_leI, nI_eq, nI_add, nI_clamp, vp_in_nI, zup_s, zup_n, upd_s, upd_n, ne_eq, not_true_eq_false, not_false_eq_true] at hc <;> omega)
          | (intro hc; exact absurd rfl hc)
          | intro hc
          | apply And.intro
          | exact Or.inl rfl
          | exact Or.inr rfl
          | (show (_ : Int32) = 0 ∨ _ = 1; simp (disch := first | omega | decide) only [zcn, zkpl, zki, zki1, zk8, zk16, zo32, zlt0, zle0, zeq0, zgt0, zLe0, nI_ltI, nI_leI, nI_eq, nI_add, nI_clamp, vp_in_nI, zup_s, zup_n, upd_s, upd_n, ne_eq, not_true_eq_false, not_false_eq_true, zeq1, true_or, or_true]; done))
      have f81 : ZW 22 (0, 0, 0, 0) 81 [(0, .ref 18), (1, .ref 11)] [.int (nI (n8 (nm 2))), .ref 28, .ref 18] (SH, m1) Q := by
        refine zgo 3 [] ?_
        repeat' (first
          | (exact hF.use f84)
          | (show vp_in _ _; simp (disch := first | omega | decide) only [zcn, zkpl, zki, zki1, zk8, zk16, zo32, zlt0, zle0, zeq0, zgt0, zLe0, nI_ltI, nI_leI, nI_eq, nI_add, nI_clamp, vp_in_nI, zup_s, zup_n, upd_s, upd_n, ne_eq, not_true_eq_false, not_false_eq_true]; done)
          | (intro hc; exfalso; simp (disch := first | omega | decide) only [zcn, zkpl, zki, zki1, zk8, zk16, zo32, zlt0, zle0, zeq0, zgt0, zLe0, nI_ltI, nI_leI, nI_eq, nI_add, nI_clamp, vp_in_nI, zup_s, zup_n, upd_s, upd_n, ne_eq, not_true_eq_false, not_false_eq_true] at hc <;> omega)
          | (intro hc; exact absurd rfl hc)
          | intro hc
          | apply And.intro
          | exact Or.inl rfl
          | exact Or.inr rfl
          | (show (_ : Int32) = 0 ∨ _ = 1; simp (disch := first | omega | decide) only [zcn, zkpl, zki, zki1, zk8, zk16, zo32, zlt0, zle0, zeq0, zgt0, zLe0, nI_ltI, nI_leI, nI_eq, nI_add, nI_clamp, vp_in_nI, zup_s, zup_n, upd_s, upd_n, ne_eq, not_true_eq_false, not_false_eq_true, zeq1, true_or, or_true]; done))
      refine zgo 10 [] ?_
      repeat' (first
        | (exact h41.use f81)
        | (show vp_in _ _; simp (disch := first | omega | decide) only [zcn, zkpl, zki, zki1, zk8, zk16, zo32, zlt0, zle0, zeq0, zgt0, zLe0, nI_ltI, nI_leI, nI_eq, nI_add, nI_clamp, vp_in_nI, zup_s, zup_n, upd_s, upd_n, ne_eq, not_true_eq_false, not_false_eq_true]; done)
        | (intro hc; exfalso; simp (disch := first | omega | decide) only [zcn, zkpl, zki, zki1, zk8, zk16, zo32, zlt0, zle0, zeq0, zgt0, zLe0, nI_ltI, nI_leI, nI_eq, nI_add, nI_clamp, vp_in_nI, zup_s, zup_n, upd_s, upd_n, ne_eq, not_true_eq_false, not_false_eq_true] at hc <;> omega)
        | (intro hc; exact absurd rfl hc)
        | intro hc
        | apply And.intro
        | exact Or.inl rfl
        | exact Or.inr rfl
        | (show (_ : Int32) = 0 ∨ _ = 1; simp (disch := first | omega | decide) only [zcn, zkpl, zki, zki1, zk8, zk16, zo32, zlt0, zle0, zeq0, zgt0, zLe0, nI_ltI, nI_leI, nI_eq, nI_add, nI_clamp, vp_in_nI, zup_s, zup_n, upd_s, upd_n, ne_eq, not_true_eq_false, not_false_eq_true, zeq1, true_or, or_true]; done))
    · have h41 := ev_v41 (m := m1)
      rw [hM1.2.2.2.1 (by decide)] at h41
      have h43 := ev_v43 (m := m1)
      rw [hM1.2.2.2.2.1] at h43
      have f113 : ZW 22 (0, 0, 0, 0) 113 [(0, .ref 18), (1, .ref 11)] [] (SH, m') Q := by
        refine zgo 3 [] ?_
        exact hQ
      have f110 : ZW 22 (0, 0, 0, 0) 110 [(0, .ref 18), (1, .ref 11)] [.int (nI (vl 3)), .int (nI t), .ref 18] (SH, m1) Q := by
        refine zgo 3 [] ?_
        repeat' (first
          | (exact hE.use f113)
          | (show vp_in _ _; simp (disch := first | omega | decide) only [zcn, zkpl, zki, zki1, zk8, zk16, zo32, zlt0, zle0, zeq0, zgt0, zLe0, nI_ltI, nI_leI, nI_eq, nI_add, nI_clamp, vp_in_nI, zup_s, zup_n, upd_s, upd_n, ne_eq, not_true_eq_false, not_false_eq_true]; done)
          | (intro hc; exfalso; simp (disch := first | omega | decide) only [zcn, zkpl, zki, zki1, zk8, zk16, zo32, zlt0, zle0, zeq0, zgt0, zLe0, nI_ltI, nI_leI, nI_eq, nI_add, nI_clamp, vp_in_nI, zup_s, zup_n, upd_s, upd_n, ne_eq, not_true_eq_false, not_false_eq_true] at hc <;> omega)
          | (intro hc; exact absurd rfl hc)
          | intro hc
          | apply And.intro
          | exact Or.inl rfl
          | exact Or.inr rfl
          | (show (_ : Int32) = 0 ∨ _ = 1; simp (disch := first | omega | decide) only [zcn, zkpl, zki, zki1, zk8, zk16, zo32, zlt0, zle0, zeq0, zgt0, zLe0, nI_ltI, nI_leI, nI_eq, nI_add, nI_clamp, vp_in_nI, zup_s, zup_n, upd_s, upd_n, ne_eq, not_true_eq_false, not_false_eq_true, zeq1, true_or, or_true]; done))
      have f106 : ZW 22 (0, 0, 0, 0) 106 [(0, .ref 18), (1, .ref 11)] [.int (nI t), .ref 18] (SH, m1) Q := by
        refine zgo 3 [] ?_
        repeat' (first
          | (exact h43.use f110)
          | (show vp_in _ _; simp (disch := first | omega | decide) only [zcn, zkpl, zki, zki1, zk8, zk16, zo32, zlt0, zle0, zeq0, zgt0, zLe0, nI_ltI, nI_leI, nI_eq, nI_add, nI_clamp, vp_in_nI, zup_s, zup_n, upd_s, upd_n, ne_eq, not_true_eq_false, not_false_eq_true]; done)
          | (intro hc; exfalso; simp (disch := first | omega | decide) only [zcn, zkpl, zki, zki1, zk8, zk16, zo32, zlt0, zle0, zeq0, zgt0, zLe0, nI_ltI, nI_leI, nI_eq, nI_add, nI_clamp, vp_in_nI, zup_s, zup_n, upd_s, upd_n, ne_eq, not_true_eq_false, not_false_eq_true] at hc <;> omega)
          | (intro hc; exact absurd rfl hc)
          | intro hc
          | apply And.intro
          | exact Or.inl rfl
          | exact Or.inr rfl
          | (show (_ : Int32) = 0 ∨ _ = 1; simp (disch := first | omega | decide) only [zcn, zkpl, zki, zki1, zk8, zk16, zo32, zlt0, zle0, zeq0, zgt0, zLe0, nI_ltI, nI_leI, nI_eq, nI_add, nI_clamp, vp_in_nI, zup_s, zup_n, upd_s, upd_n, ne_eq, not_true_eq_false, not_false_eq_true, zeq1, true_or, or_true]; done))
      have f103 : ZW 22 (0, 0, 0, 0) 103 [(0, .ref 18), (1, .ref 11)] [.int (nI (n8 (nm 2))), .ref 28, .ref 18] (SH, m1) Q := by
        refine zgo 3 [] ?_
        repeat' (first
          | (exact hF.use f106)
          | (show vp_in _ _; simp (disch := first | omega | decide) only [zcn, zkpl, zki, zki1, zk8, zk16, zo32, zlt0, zle0, zeq0, zgt0, zLe0, nI_ltI, nI_leI, nI_eq, nI_add, nI_clamp, vp_in_nI, zup_s, zup_n, upd_s, upd_n, ne_eq, not_true_eq_false, not_false_eq_true]; done)
          | (intro hc; exfalso; simp (disch := first | omega | decide) only [zcn, zkpl, zki, zki1, zk8, zk16, zo32, zlt0, zle0, zeq0, zgt0, zLe0, nI_ltI, nI_leI, nI_eq, nI_add, nI_clamp, vp_in_nI, zup_s, zup_n, upd_s, upd_n, ne_eq, not_true_eq_false, not_false_eq_true] at hc <;> omega)
          | (intro hc; exact absurd rfl hc)
          | intro hc
          | apply And.intro
          | exact Or.inl rfl
          | exact Or.inr rfl
          | (show (_ : Int32) = 0 ∨ _ = 1; simp (disch := first | omega | decide) only [zcn, zkpl, zki, zki1, zk8, zk16, zo32, zlt0, zle0, zeq0, zgt0, zLe0, nI_ltI, nI_leI, nI_eq, nI_add, nI_clamp, vp_in_nI, zup_s, zup_n, upd_s, upd_n, ne_eq, not_true_eq_false, not_false_eq_true, zeq1, true_or, or_true]; done))
      refine zgo 10 [] ?_
      repeat' (first
        | (exact h41.use f103)
        | (show vp_in _ _; simp (disch := first | omega | decide) only [zcn, zkpl, zki, zki1, zk8, zk16, zo32, zlt0, zle0, zeq0, zgt0, zLe0, nI_ltI, nI_leI, nI_eq, nI_add, nI_clamp, vp_in_nI, zup_s, zup_n, upd_s, upd_n, ne_eq, not_true_eq_false, not_false_eq_true]; done)
        | (intro hc; exfalso; simp (disch := first | omega | decide) only [zcn, zkpl, zki, zki1, zk8, zk16, zo32, zlt0, zle0, zeq0, zgt0, zLe0, nI_ltI, nI_leI, nI_eq, nI_add, nI_clamp, vp_in_nI, zup_s, zup_n, upd_s, upd_n, ne_eq, not_true_eq_false, not_false_eq_true] at hc <;> omega)
        | (intro hc; exact absurd rfl hc)
        | intro hc
        | apply And.intro
        | exact Or.inl rfl
        | exact Or.inr rfl
        | (show (_ : Int32) = 0 ∨ _ = 1; simp (disch := first | omega | decide) only [zcn, zkpl, zki, zki1, zk8, zk16, zo32, zlt0, zle0, zeq0, zgt0, zLe0, nI_ltI, nI_leI, nI_eq, nI_add, nI_clamp, vp_in_nI, zup_s, zup_n, upd_s, upd_n, ne_eq, not_true_eq_false, not_false_eq_true, zeq1, true_or, or_true]; done))
  refine zgo 5 [] ?_
  repeat' (first
    | (exact hkd.use f39)
    | (show vp_in _ _; simp (disch := first | omega | decide) only [zcn, zkpl, zki, zki1, zk8, zk16, zo32, zlt0, zle0, zeq0, zgt0, zLe0, nI_ltI, nI_leI, nI_eq, nI_add, nI_clamp, vp_in_nI, zup_s, zup_n, upd_s, upd_n, ne_eq, not_true_eq_false, not_false_eq_true]; done)
    | (intro hc; exfalso; simp (disch := first | omega | decide) only [zcn, zkpl, zki, zki1, zk8, zk16, zo32, zlt0, zle0, zeq0, zgt0, zLe0, nI_ltI, nI_leI, nI_eq, nI_add, nI_clamp, vp_in_nI, zup_s, zup_n, upd_s, upd_n, ne_eq, not_true_eq_false, not_false_eq_true] at hc <;> omega)
    | (intro hc; exact absurd rfl hc)
    | intro hc
    | apply And.intro
    | exact Or.inl rfl
    | exact Or.inr rfl
    | (show (_ : Int32) = 0 ∨ _ = 1; simp (disch := first | omega | decide) only [zcn, zkpl, zki, zki1, zk8, zk16, zo32, zlt0, zle0, zeq0, zgt0, zLe0, nI_ltI, nI_leI, nI_eq, nI_add, nI_clamp, vp_in_nI, zup_s, zup_n, upd_s, upd_n, ne_eq, not_true_eq_false, not_false_eq_true, zeq1, true_or, or_true]; done))
theorem ev_27 {m m' : zM} {t v : Nat} (hv : (v = 65 ∧ Ev 28 [.ref 18, .int (nI t)] m none m') ∨ (v = 82 ∧ Ev 25 [.ref 18, .int (nI t)] m none m')) : Ev 27 [.ref 18, .int (nI t), .int (nI v)] m none m' := by
  intro Q hQ
  rcases hv with ⟨rfl, hE⟩ | ⟨rfl, hE⟩
  · have f11 : ZW 27 (0, 0, 0, 0) 11 [(0, .ref 18), (1, .int (nI t)), (2, .int (nI 65))] [] (SH, m') Q := by
      refine zgo 3 [] ?_
      exact hQ
    refine zgo 10 [] ?_
    repeat' (first
      | (exact hE.use f11)
      | (show vp_in _ _; simp (disch := first | omega | decide) only [zcn, zkpl, zki, zki1, zk8, zk16, zo32, zlt0, zle0, zeq0, zgt0, zLe0, nI_ltI, nI_leI, nI_eq, nI_add, nI_clamp, vp_in_nI, zup_s, zup_n, upd_s, upd_n, ne_eq, not_true_eq_false, not_false_eq_true]; done)
      | (intro hc; exfalso; simp (disch := first | omega | decide) only [zcn, zkpl, zki, zki1, zk8, zk16, zo32, zlt0, zle0, zeq0, zgt0, zLe0, nI_ltI, nI_leI, nI_eq, nI_add, nI_clamp, vp_in_nI, zup_s, zup_n, upd_s, upd_n, ne_eq, not_true_eq_false, not_false_eq_true] at hc <;> omega)
      | (intro hc; exact absurd rfl hc)
      | intro hc
      | apply And.intro
      | exact Or.inl rfl
      | exact Or.inr rfl
      | (show (_ : Int32) = 0 ∨ _ = 1; simp (disch := first | omega | decide) only [zcn, zkpl, zki, zki1, zk8, zk16, zo32, zlt0, zle0, zeq0, zgt0, zLe0, nI_ltI, nI_leI, nI_eq, nI_add, nI_clamp, vp_in_nI, zup_s, zup_n, upd_s, upd_n, ne_eq, not_true_eq_false, not_false_eq_true, zeq1, true_or, or_true]; done))
  · have f19 : ZW 27 (0, 0, 0, 0) 19 [(0, .ref 18), (1, .int (nI t)), (2, .int (nI 82))] [] (SH, m') Q := by
      refine zgo 3 [] ?_
      exact hQ
    refine zgo 10 [] ?_
    repeat' (first
      | (exact hE.use f19)
      | (show vp_in _ _; simp (disch := first | omega | decide) only [zcn, zkpl, zki, zki1, zk8, zk16, zo32, zlt0, zle0, zeq0, zgt0, zLe0, nI_ltI, nI_leI, nI_eq, nI_add, nI_clamp, vp_in_nI, zup_s, zup_n, upd_s, upd_n, ne_eq, not_true_eq_false, not_false_eq_true]; done)
      | (intro hc; exfalso; simp (disch := first | omega | decide) only [zcn, zkpl, zki, zki1, zk8, zk16, zo32, zlt0, zle0, zeq0, zgt0, zLe0, nI_ltI, nI_leI, nI_eq, nI_add, nI_clamp, vp_in_nI, zup_s, zup_n, upd_s, upd_n, ne_eq, not_true_eq_false, not_false_eq_true] at hc <;> omega)
      | (intro hc; exact absurd rfl hc)
      | intro hc
      | apply And.intro
      | exact Or.inl rfl
      | exact Or.inr rfl
      | (show (_ : Int32) = 0 ∨ _ = 1; simp (disch := first | omega | decide) only [zcn, zkpl, zki, zki1, zk8, zk16, zo32, zlt0, zle0, zeq0, zgt0, zLe0, nI_ltI, nI_leI, nI_eq, nI_add, nI_clamp, vp_in_nI, zup_s, zup_n, upd_s, upd_n, ne_eq, not_true_eq_false, not_false_eq_true, zeq1, true_or, or_true]; done))
/-- a name more on both sides -/
theorem lR_nm {u m : zM} {nT nQ nR nM : Nat} (h : lR u m nT nQ nR nM) (hM : nM < 60) {x y : Int32} (hn : nmR x y) : lR (zup (zup u 59 nM y) 42 38 (nI (nM + 1))) (cnm m nM x) nT nQ nR (nM + 1) := by
  obtain ⟨h1, h2, h3, h4, h5, h6, h7, h8, h9, h10⟩ := h
  unfold lR
  have cf : ∀ a, a ≠ 41 → a ≠ 18 → cnm m nM x a = m a := fun a g1 g2 => cnm_far g1 g2
  have uf : ∀ a, a ≠ 59 → a ≠ 42 → zup (zup u 59 nM y) 42 38 (nI (nM + 1)) a = u a := fun a g1 g2 => by rw [zup_n _ g2, zup_n _ g1]
  have ug : ∀ f, f ≠ 38 → zup (zup u 59 nM y) 42 38 (nI (nM + 1)) 42 f = u 42 f := fun f g => by rw [zup_s, upd_n _ g, zup_n _ (by decide)]
  rw [cf 28 (by decide) (by decide), cf 36 (by decide) (by decide), cf 30 (by decide) (by decide), cf 31 (by decide) (by decide), cf 32 (by decide) (by decide), cf 33 (by decide) (by decide), cf 34 (by decide) (by decide), cf 29 (by decide) (by decide), cf 35 (by decide) (by decide), cf 20 (by decide) (by decide), cf 21 (by decide) (by decide), cf 22 (by decide) (by decide), cf 37 (by decide) (by decide), cf 38 (by decide) (by decide), cf 39 (by decide) (by decide), ug 45 (by decide), ug 47 (by decide), ug 55 (by decide), uf 61 (by decide) (by decide), uf 62 (by decide) (by decide), uf 63 (by decide) (by decide), uf 64 (by decide) (by decide), uf 65 (by decide) (by decide), uf 60 (by decide) (by decide), uf 66 (by decide) (by decide), uf 67 (by decide) (by decide), uf 68 (by decide) (by decide), uf 70 (by decide) (by decide), uf 69 (by decide) (by decide), uf 71 (by decide) (by decide), uf 72 (by decide) (by decide), uf 73 (by decide) (by decide)]
  refine ⟨h1, h2, h3, ⟨rfl, rfl, by omega⟩, h5, h6, h7, fun a ha => ?_, h9, fun i hi => ?_⟩
  · obtain ⟨e, e1, e2, e3⟩ := h8 a ha
    refine ⟨e, e1, e2, fun k hk => ?_⟩
    rw [cf (24 + a) (by omega) (by omega)]
    exact e3 k hk
  · have e41 : cnm m nM x 41 = upd (m 41) nM x := rfl
    have e59 : zup (zup u 59 nM y) 42 38 (nI (nM + 1)) 59 = upd (u 59) nM y := rfl
    rw [e41, e59]
    by_cases e : i = nM
    · rw [e, upd_s, upd_s]
      exact hn
    · rw [upd_n _ e, upd_n _ e]
      exact h10 i (by omega)
