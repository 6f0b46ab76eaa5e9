/-! isValid as a whole -/
def mvW (u : zM) (s : pS) : Prop := u 42 22 = nI (nv37 (s 8) (vlen s 1) 0 (tb s 1)) ∧ (∀ i, 1 ≤ i → i < 4 → tr1 u s i) ∧ ((s 2 0 = 80 ∧ ∃ n, 1 ≤ n ∧ n ≤ 3 ∧ s 0 1 = 4 + 5 * n ∧ u 42 30 = nI n ∧ u 42 23 = nI (dvl (s 8) (vlen s 2) 0 (tb s 2)) ∧ (∃ v, AM (s 8) (tb s 3) (vlen s 3) v ∧ u 42 24 = nI v) ∧ pF s u n) ∨ (s 2 0 = 81 ∧ s 0 1 = 4 ∧ u 42 31 = nI (nv37 (s 8) (vlen s 2) 0 (tb s 2)) ∧ u 42 32 = nI (if s 8 (tb s 3) = 65 then 1 else 0)) ∨ (s 2 0 = 82 ∧ s 0 1 = 4 ∧ u 42 31 = nI (nv37 (s 8) (vlen s 2) 0 (tb s 2)) ∧ ∃ v, AM (s 8) (tb s 3) (vlen s 3) v ∧ u 56 0 = nI v))
theorem zl00 : ((0 : Int32) ≤ 0) = True := by decide
theorem nmE (s : pS) (i : Nat) : ∃ r1, (r1 = nI (nv37 (s 8) (vlen s i) 0 (tb s i)) ∧ (1 ≤ vlen s i ∧ vlen s i ≤ 4 ∧ nOK (s 8) (tb s i) (vlen s i))) ∨ (r1 = 0 ∧ ¬ (1 ≤ vlen s i ∧ vlen s i ≤ 4 ∧ nOK (s 8) (tb s i) (vlen s i))) := by
  rcases Classical.em (1 ≤ vlen s i ∧ vlen s i ≤ 4 ∧ nOK (s 8) (tb s i) (vlen s i)) with g | g
  · exact ⟨_, Or.inl ⟨rfl, g⟩⟩
  · exact ⟨_, Or.inr ⟨rfl, g⟩⟩
theorem is_pay {s : pS} (hs : mdy s) (h : lay s) (k80 : s 2 0 = 80) {u2 : zM} (hm2 : mS u2 s) (l0 : lfO s 0 0 73 1) (T1 : tr1 u2 s 1) (g1 : gV s 1) (h6 : s 6 0 = 0) (e22 : u2 42 22 = nI (nv37 (s 8) (vlen s 1) 0 (tb s 1))) (Q : zQ) (hQ1 : ∀ u', mgo s u2 u' → clV s → mvW u' s → Q (some (.int 1)) (SH, u')) (hQ2 : ∀ u', mgo s u2 u' → ¬ clV s → Q (some (.int 0)) (SH, u')) : ZW 179 (0, 0, 0, 0) 93 [(4, .int (oI (chF (s 9) 0 (s 0 1) 0 2))), (3, .int (oI (chF (s 9) 0 (s 0 1) 0 1))), (2, .int (nI 1)), (1, .int (nI 80)), (0, .ref 42)] [] (SH, u2) Q := by
  have hN := hs.1.2.1
  have g46 := hm2.1.2.2.2.2.2 0 h.1
  have bk := kc_le (f := s 9) (i := 0) (s 0 1)
  have nK : ∀ n, kc (s 9) 0 (s 0 1) = 3 + n → ¬ (1 ≤ n ∧ n ≤ 3) → ¬ clV s := fun n g g' hv => by
    obtain ⟨n', q1, q2, q3, q4⟩ := cl_VP h k80 hv
    have := q4.2.1
    omega
  have c1 : cr s 1 = 78 := by unfold cr; rw [if_neg (by decide), if_pos rfl, if_pos k80]
  have c2 : cr s 2 = 83 := by unfold cr; rw [if_neg (by decide), if_neg (by decide), if_pos k80]
  by_cases eK : 3 ≤ kc (s 9) 0 (s 0 1)
  rotate_left
  · have hQ := hQ2 (zup u2 42 30 (nI (kc (s 9) 0 (s 0 1)) - nI 3)) (mgo_f hm2 _ (by decide)) (fun hv => by
      obtain ⟨n', q1, q2, q3, q4⟩ := cl_VP h k80 hv
      have := q4.2.1
      omega)
    rcases (show kc (s 9) 0 (s 0 1) = 0 ∨ kc (s 9) 0 (s 0 1) = 1 ∨ kc (s 9) 0 (s 0 1) = 2 by omega) with e | e | e
    · rw [e] at g46 hQ
      have n1 : (nI 0 - nI 3 < nI 1) = True := by decide
      refine zgo 20 [] ?_
      repeat' (first
        | (show vp_in _ _; simp (disch := first | omega | decide) only [g46, n1, zcn, zkpl, zki, zki1, zk8, zk16, zo32, zlt0, zle0, zeq0, zgt0, zLe0, nI_ltI, nI_leI, nI_eq, nI_add, nI_clamp, vp_in_nI, zup_s, zup_n, upd_s, upd_n, ne_eq, not_true_eq_false, not_false_eq_true]; done)
        | (intro hc; exfalso; simp (disch := first | omega | decide) only [g46, n1, zcn, zkpl, zki, zki1, zk8, zk16, zo32, zlt0, zle0, zeq0, zgt0, zLe0, nI_ltI, nI_leI, nI_eq, nI_add, nI_clamp, vp_in_nI, zup_s, zup_n, upd_s, upd_n, ne_eq, not_true_eq_false, not_false_eq_true] at hc <;> omega)
        | (intro hc; exact absurd rfl hc)
        | intro hc
        | apply And.intro
        | exact hQ
        | (show Q _ (SH, _); simp (disch := first | omega | decide) only [g46, n1, zcn, zkpl, zki, zki1, zk8, zk16, zo32, zlt0, zle0, zeq0, zgt0, zLe0, nI_ltI, nI_leI, nI_eq, nI_add, nI_clamp, vp_in_nI, zup_s, zup_n, upd_s, upd_n, ne_eq, not_true_eq_false, not_false_eq_true]; exact hQ)
        | exact Or.inl rfl
        | exact Or.inr rfl
        | (show (_ : Int32) = 0 ∨ _ = 1; simp (disch := first | omega | decide) only [g46, n1, zcn, zkpl, zki, zki1, zk8, zk16, zo32, zlt0, zle0, zeq0, zgt0, zLe0, nI_ltI, nI_leI, nI_eq, nI_add, nI_clamp, vp_in_nI, zup_s, zup_n, upd_s, upd_n, ne_eq, not_true_eq_false, not_false_eq_true, zeq1, true_or, or_true]; done))
    · rw [e] at g46 hQ
      have n1 : (nI 1 - nI 3 < nI 1) = True := by decide
      refine zgo 20 [] ?_
      repeat' (first
        | (show vp_in _ _; simp (disch := first | omega | decide) only [g46, n1, zcn, zkpl, zki, zki1, zk8, zk16, zo32, zlt0, zle0, zeq0, zgt0, zLe0, nI_ltI, nI_leI, nI_eq, nI_add, nI_clamp, vp_in_nI, zup_s, zup_n, upd_s, upd_n, ne_eq, not_true_eq_false, not_false_eq_true]; done)
        | (intro hc; exfalso; simp (disch := first | omega | decide) only [g46, n1, zcn, zkpl, zki, zki1, zk8, zk16, zo32, zlt0, zle0, zeq0, zgt0, zLe0, nI_ltI, nI_leI, nI_eq, nI_add, nI_clamp, vp_in_nI, zup_s, zup_n, upd_s, upd_n, ne_eq, not_true_eq_false, not_false_eq_true] at hc <;> omega)
        | (intro hc; exact absurd rfl hc)
        | intro hc
        | apply And.intro
        | exact hQ
        | (show Q _ (SH, _); simp (disch := first | omega | decide) only [g46, n1, zcn, zkpl, zki, zki1, zk8, zk16, zo32, zlt0, zle0, zeq0, zgt0, zLe0, nI_ltI, nI_leI, nI_eq, nI_add, nI_clamp, vp_in_nI, zup_s, zup_n, upd_s, upd_n, ne_eq, not_true_eq_false, not_false_eq_true]; exact hQ)
        | exact Or.inl rfl
        | exact Or.inr rfl
        | (show (_ : Int32) = 0 ∨ _ = 1; simp (disch := first | omega | decide) only [g46, n1, zcn, zkpl, zki, zki1, zk8, zk16, zo32, zlt0, zle0, zeq0, zgt0, zLe0, nI_ltI, nI_leI, nI_eq, nI_add, nI_clamp, vp_in_nI, zup_s, zup_n, upd_s, upd_n, ne_eq, not_true_eq_false, not_false_eq_true, zeq1, true_or, or_true]; done))
    · rw [e] at g46 hQ
      have n1 : (nI 2 - nI 3 < nI 1) = True := by decide
      refine zgo 20 [] ?_
      repeat' (first
        | (show vp_in _ _; simp (disch := first | omega | decide) only [g46, n1, zcn, zkpl, zki, zki1, zk8, zk16, zo32, zlt0, zle0, zeq0, zgt0, zLe0, nI_ltI, nI_leI, nI_eq, nI_add, nI_clamp, vp_in_nI, zup_s, zup_n, upd_s, upd_n, ne_eq, not_true_eq_false, not_false_eq_true]; done)
        | (intro hc; exfalso; simp (disch := first | omega | decide) only [g46, n1, zcn, zkpl, zki, zki1, zk8, zk16, zo32, zlt0, zle0, zeq0, zgt0, zLe0, nI_ltI, nI_leI, nI_eq, nI_add, nI_clamp, vp_in_nI, zup_s, zup_n, upd_s, upd_n, ne_eq, not_true_eq_false, not_false_eq_true] at hc <;> omega)
        | (intro hc; exact absurd rfl hc)
        | intro hc
        | apply And.intro
        | exact hQ
        | (show Q _ (SH, _); simp (disch := first | omega | decide) only [g46, n1, zcn, zkpl, zki, zki1, zk8, zk16, zo32, zlt0, zle0, zeq0, zgt0, zLe0, nI_ltI, nI_leI, nI_eq, nI_add, nI_clamp, vp_in_nI, zup_s, zup_n, upd_s, upd_n, ne_eq, not_true_eq_false, not_false_eq_true]; exact hQ)
        | exact Or.inl rfl
        | exact Or.inr rfl
        | (show (_ : Int32) = 0 ∨ _ = 1; simp (disch := first | omega | decide) only [g46, n1, zcn, zkpl, zki, zki1, zk8, zk16, zo32, zlt0, zle0, zeq0, zgt0, zLe0, nI_ltI, nI_leI, nI_eq, nI_add, nI_clamp, vp_in_nI, zup_s, zup_n, upd_s, upd_n, ne_eq, not_true_eq_false, not_false_eq_true, zeq1, true_or, or_true]; done))
  obtain ⟨n, eK2⟩ : ∃ n, kc (s 9) 0 (s 0 1) = 3 + n := ⟨kc (s 9) 0 (s 0 1) - 3, by omega⟩
  have m3 := mgo_f hm2 (f := 30) (nI n) (by decide)
  have hm3 := m3.2.1
  have e30 : zup u2 42 30 (nI n) 42 30 = nI n := by rw [zup_s, upd_s]
  have e22' : zup u2 42 30 (nI n) 42 22 = nI (nv37 (s 8) (vlen s 1) 0 (tb s 1)) := by rw [zup_s, upd_n _ (by decide), e22]
  have T1' := m3.2.2 1 (ch_some l0.1).2.1 T1
  have es : 3 + n - 3 = n := by omega
  rw [eK2] at g46
  have pre : ZW 179 (0, 0, 0, 0) 105 [(4, .int (oI (chF (s 9) 0 (s 0 1) 0 2))), (3, .int (oI (chF (s 9) 0 (s 0 1) 0 1))), (2, .int (nI 1)), (1, .int (nI 80)), (0, .ref 42)] [] (SH, zup u2 42 30 (nI n)) Q → ZW 179 (0, 0, 0, 0) 93 [(4, .int (oI (chF (s 9) 0 (s 0 1) 0 2))), (3, .int (oI (chF (s 9) 0 (s 0 1) 0 1))), (2, .int (nI 1)), (1, .int (nI 80)), (0, .ref 42)] [] (SH, u2) Q := by
    intro W
    generalize oI (chF (s 9) 0 (s 0 1) 0 2) = x3 at *
    generalize oI (chF (s 9) 0 (s 0 1) 0 1) = x2 at *
    refine zgo 8 [] ?_
    repeat' (first
      | (exact zcg (by simp (disch := first | omega | decide) only [g46, pk_sub, es, zcn, zkpl, zki, zki1, zk8, zk16, zo32, zlt0, zle0, zeq0, zgt0, zLe0, nI_ltI, nI_leI, nI_eq, nI_add, nI_clamp, vp_in_nI, zup_s, zup_n, upd_s, upd_n, ne_eq, not_true_eq_false, not_false_eq_true]) W)
      | (show vp_in _ _; simp (disch := first | omega | decide) only [g46, zcn, zkpl, zki, zki1, zk8, zk16, zo32, zlt0, zle0, zeq0, zgt0, zLe0, nI_ltI, nI_leI, nI_eq, nI_add, nI_clamp, vp_in_nI, zup_s, zup_n, upd_s, upd_n, ne_eq, not_true_eq_false, not_false_eq_true]; done)
      | (intro hc; exfalso; simp (disch := first | omega | decide) only [g46, zcn, zkpl, zki, zki1, zk8, zk16, zo32, zlt0, zle0, zeq0, zgt0, zLe0, nI_ltI, nI_leI, nI_eq, nI_add, nI_clamp, vp_in_nI, zup_s, zup_n, upd_s, upd_n, ne_eq, not_true_eq_false, not_false_eq_true] at hc <;> omega)
      | (intro hc; exact absurd rfl hc)
      | intro hc
      | apply And.intro
      | exact Or.inl rfl
      | exact Or.inr rfl
      | (show (_ : Int32) = 0 ∨ _ = 1; simp (disch := first | omega | decide) only [g46, zcn, zkpl, zki, zki1, zk8, zk16, zo32, zlt0, zle0, zeq0, zgt0, zLe0, nI_ltI, nI_leI, nI_eq, nI_add, nI_clamp, vp_in_nI, zup_s, zup_n, upd_s, upd_n, ne_eq, not_true_eq_false, not_false_eq_true, zeq1, true_or, or_true]; done))
  refine pre ?_
  clear pre
  generalize zup u2 42 30 (nI n) = u3 at *
  by_cases en : 1 ≤ n ∧ n ≤ 3
  rotate_left
  · have hQ := hQ2 u3 m3 (nK n eK2 en)
    generalize oI (chF (s 9) 0 (s 0 1) 0 2) = x3 at *
    generalize oI (chF (s 9) 0 (s 0 1) 0 1) = x2 at *
    by_cases e1 : 1 ≤ n
    · refine zgo 20 [] ?_
      repeat' (first
        | (show vp_in _ _; simp (disch := first | omega | decide) only [e30, zcn, zkpl, zki, zki1, zk8, zk16, zo32, zlt0, zle0, zeq0, zgt0, zLe0, nI_ltI, nI_leI, nI_eq, nI_add, nI_clamp, vp_in_nI, zup_s, zup_n, upd_s, upd_n, ne_eq, not_true_eq_false, not_false_eq_true]; done)
        | (intro hc; exfalso; simp (disch := first | omega | decide) only [e30, zcn, zkpl, zki, zki1, zk8, zk16, zo32, zlt0, zle0, zeq0, zgt0, zLe0, nI_ltI, nI_leI, nI_eq, nI_add, nI_clamp, vp_in_nI, zup_s, zup_n, upd_s, upd_n, ne_eq, not_true_eq_false, not_false_eq_true] at hc <;> omega)
        | (intro hc; exact absurd rfl hc)
        | intro hc
        | apply And.intro
        | exact hQ
        | (show Q _ (SH, _); simp (disch := first | omega | decide) only [e30, zcn, zkpl, zki, zki1, zk8, zk16, zo32, zlt0, zle0, zeq0, zgt0, zLe0, nI_ltI, nI_leI, nI_eq, nI_add, nI_clamp, vp_in_nI, zup_s, zup_n, upd_s, upd_n, ne_eq, not_true_eq_false, not_false_eq_true]; exact hQ)
        | exact Or.inl rfl
        | exact Or.inr rfl
        | (show (_ : Int32) = 0 ∨ _ = 1; simp (disch := first | omega | decide) only [e30, zcn, zkpl, zki, zki1, zk8, zk16, zo32, zlt0, zle0, zeq0, zgt0, zLe0, nI_ltI, nI_leI, nI_eq, nI_add, nI_clamp, vp_in_nI, zup_s, zup_n, upd_s, upd_n, ne_eq, not_true_eq_false, not_false_eq_true, zeq1, true_or, or_true]; done))
    · refine zgo 20 [] ?_
      repeat' (first
        | (show vp_in _ _; simp (disch := first | omega | decide) only [e30, zcn, zkpl, zki, zki1, zk8, zk16, zo32, zlt0, zle0, zeq0, zgt0, zLe0, nI_ltI, nI_leI, nI_eq, nI_add, nI_clamp, vp_in_nI, zup_s, zup_n, upd_s, upd_n, ne_eq, not_true_eq_false, not_false_eq_true]; done)
        | (intro hc; exfalso; simp (disch := first | omega | decide) only [e30, zcn, zkpl, zki, zki1, zk8, zk16, zo32, zlt0, zle0, zeq0, zgt0, zLe0, nI_ltI, nI_leI, nI_eq, nI_add, nI_clamp, vp_in_nI, zup_s, zup_n, upd_s, upd_n, ne_eq, not_true_eq_false, not_false_eq_true] at hc <;> omega)
        | (intro hc; exact absurd rfl hc)
        | intro hc
        | apply And.intro
        | exact hQ
        | (show Q _ (SH, _); simp (disch := first | omega | decide) only [e30, zcn, zkpl, zki, zki1, zk8, zk16, zo32, zlt0, zle0, zeq0, zgt0, zLe0, nI_ltI, nI_leI, nI_eq, nI_add, nI_clamp, vp_in_nI, zup_s, zup_n, upd_s, upd_n, ne_eq, not_true_eq_false, not_false_eq_true]; exact hQ)
        | exact Or.inl rfl
        | exact Or.inr rfl
        | (show (_ : Int32) = 0 ∨ _ = 1; simp (disch := first | omega | decide) only [e30, zcn, zkpl, zki, zki1, zk8, zk16, zo32, zlt0, zle0, zeq0, zgt0, zLe0, nI_ltI, nI_leI, nI_eq, nI_add, nI_clamp, vp_in_nI, zup_s, zup_n, upd_s, upd_n, ne_eq, not_true_eq_false, not_false_eq_true, zeq1, true_or, or_true]; done))
  obtain ⟨n1, n3⟩ := en
  rcases lf_run hs h (e := 0) (by omega) (c := cr s) 1 (by omega) (by rw [c1]; decide) (x := Int32.ofInt 0) (y := Int32.ofInt 1) (z := (Int8.ofInt 78).toInt32) (by decide) (by decide) (by rw [c1]; decide) hm3 (fun j hj => by
    have e0 : j = 0 := by omega
    subst e0
    exact l0) with ⟨l1, v1⟩ | ⟨l1, v1⟩
  rotate_left
  · have hQ := hQ2 u3 m3 (fun hv => l1 ⟨_, ((cl_lf h hv).2.2 1 (by omega)).2⟩)
    generalize oI (chF (s 9) 0 (s 0 1) 0 2) = x3 at *
    generalize oI (chF (s 9) 0 (s 0 1) 0 1) = x2 at *
    have f129 : ZW 179 (0, 0, 0, 0) 129 [(4, .int x3), (3, .int x2), (2, .int (nI 1)), (1, .int (nI 80)), (0, .ref 42)] [.int 0] (SH, u3) Q := by
      refine zgo 10 [] ?_
      repeat' (first
        | (show vp_in _ _; simp (disch := first | omega | decide) only [zcn, zkpl, zki, zki1, zk8, zk16, zo32, zlt0, zle0, zeq0, zgt0, zLe0, nI_ltI, nI_leI, nI_eq, nI_add, nI_clamp, vp_in_nI, zup_s, zup_n, upd_s, upd_n, ne_eq, not_true_eq_false, not_false_eq_true]; done)
        | (intro hc; exfalso; simp (disch := first | omega | decide) only [zcn, zkpl, zki, zki1, zk8, zk16, zo32, zlt0, zle0, zeq0, zgt0, zLe0, nI_ltI, nI_leI, nI_eq, nI_add, nI_clamp, vp_in_nI, zup_s, zup_n, upd_s, upd_n, ne_eq, not_true_eq_false, not_false_eq_true] at hc <;> omega)
        | (intro hc; exact absurd rfl hc)
        | intro hc
        | apply And.intro
        | exact hQ
        | (show Q _ (SH, _); simp (disch := first | omega | decide) only [zcn, zkpl, zki, zki1, zk8, zk16, zo32, zlt0, zle0, zeq0, zgt0, zLe0, nI_ltI, nI_leI, nI_eq, nI_add, nI_clamp, vp_in_nI, zup_s, zup_n, upd_s, upd_n, ne_eq, not_true_eq_false, not_false_eq_true]; exact hQ)
        | exact Or.inl rfl
        | exact Or.inr rfl
        | (show (_ : Int32) = 0 ∨ _ = 1; simp (disch := first | omega | decide) only [zcn, zkpl, zki, zki1, zk8, zk16, zo32, zlt0, zle0, zeq0, zgt0, zLe0, nI_ltI, nI_leI, nI_eq, nI_add, nI_clamp, vp_in_nI, zup_s, zup_n, upd_s, upd_n, ne_eq, not_true_eq_false, not_false_eq_true, zeq1, true_or, or_true]; done))
    refine zgo 20 [] ?_
    repeat' (first
      | (exact v1.use f129)
      | (show vp_in _ _; simp (disch := first | omega | decide) only [e30, zcn, zkpl, zki, zki1, zk8, zk16, zo32, zlt0, zle0, zeq0, zgt0, zLe0, nI_ltI, nI_leI, nI_eq, nI_add, nI_clamp, vp_in_nI, zup_s, zup_n, upd_s, upd_n, ne_eq, not_true_eq_false, not_false_eq_true]; done)
      | (intro hc; exfalso; simp (disch := first | omega | decide) only [e30, zcn, zkpl, zki, zki1, zk8, zk16, zo32, zlt0, zle0, zeq0, zgt0, zLe0, nI_ltI, nI_leI, nI_eq, nI_add, nI_clamp, vp_in_nI, zup_s, zup_n, upd_s, upd_n, ne_eq, not_true_eq_false, not_false_eq_true] at hc <;> omega)
      | (intro hc; exact absurd rfl hc)
      | intro hc
      | apply And.intro
      | exact Or.inl rfl
      | exact Or.inr rfl
      | (show (_ : Int32) = 0 ∨ _ = 1; simp (disch := first | omega | decide) only [e30, zcn, zkpl, zki, zki1, zk8, zk16, zo32, zlt0, zle0, zeq0, zgt0, zLe0, nI_ltI, nI_leI, nI_eq, nI_add, nI_clamp, vp_in_nI, zup_s, zup_n, upd_s, upd_n, ne_eq, not_true_eq_false, not_false_eq_true, zeq1, true_or, or_true]; done))
  obtain ⟨m4, t2⟩ := mgo_tm hm3 (i := 0 + 1 + 1)
  have o4 : ∀ a, a ≠ 48 → a ≠ 49 → tmm u3 s (0 + 1 + 1) a = u3 a := fun a h1 h2 => tmm_o h1 h2
  generalize tmm u3 s (0 + 1 + 1) = u4 at *
  have hm4 := m4.2.1
  have pre : ∀ (b : Int32) u5, (b = 0 ∨ b = 1) → Ev 173 [.ref 42, .int (Int32.ofInt 0), .int (Int32.ofInt 2), .int (Int8.ofInt 83).toInt32] u4 (some (.int b)) u5 → ZW 179 (0, 0, 0, 0) 140 [(4, .int (oI (chF (s 9) 0 (s 0 1) 0 2))), (3, .int (oI (chF (s 9) 0 (s 0 1) 0 1))), (2, .int (nI 1)), (1, .int (nI 80)), (0, .ref 42)] [.int b] (SH, u5) Q → ZW 179 (0, 0, 0, 0) 105 [(4, .int (oI (chF (s 9) 0 (s 0 1) 0 2))), (3, .int (oI (chF (s 9) 0 (s 0 1) 0 1))), (2, .int (nI 1)), (1, .int (nI 80)), (0, .ref 42)] [] (SH, u3) Q := by
    intro b u5 hb v2 W
    generalize oI (chF (s 9) 0 (s 0 1) 0 2) = x3 at *
    generalize oI (chF (s 9) 0 (s 0 1) 0 1) = x2 at *
    have f129 : ZW 179 (0, 0, 0, 0) 129 [(4, .int x3), (3, .int x2), (2, .int (nI 1)), (1, .int (nI 80)), (0, .ref 42)] [.int 1] (SH, u4) Q := by
      refine zgo 10 [] ?_
      repeat' (first
        | (exact v2.use W)
        | (show vp_in _ _; simp (disch := first | omega | decide) only [z10, zcn, zkpl, zki, zki1, zk8, zk16, zo32, zlt0, zle0, zeq0, zgt0, zLe0, nI_ltI, nI_leI, nI_eq, nI_add, nI_clamp, vp_in_nI, zup_s, zup_n, upd_s, upd_n, ne_eq, not_true_eq_false, not_false_eq_true]; done)
        | (intro hc; exfalso; simp (disch := first | omega | decide) only [z10, zcn, zkpl, zki, zki1, zk8, zk16, zo32, zlt0, zle0, zeq0, zgt0, zLe0, nI_ltI, nI_leI, nI_eq, nI_add, nI_clamp, vp_in_nI, zup_s, zup_n, upd_s, upd_n, ne_eq, not_true_eq_false, not_false_eq_true] at hc <;> omega)
        | (intro hc; exact absurd rfl hc)
        | intro hc
        | apply And.intro
        | exact Or.inl rfl
        | exact Or.inr rfl
        | (show (_ : Int32) = 0 ∨ _ = 1; simp (disch := first | omega | decide) only [z10, zcn, zkpl, zki, zki1, zk8, zk16, zo32, zlt0, zle0, zeq0, zgt0, zLe0, nI_ltI, nI_leI, nI_eq, nI_add, nI_clamp, vp_in_nI, zup_s, zup_n, upd_s, upd_n, ne_eq, not_true_eq_false, not_false_eq_true, zeq1, true_or, or_true]; done))
    refine zgo 20 [] ?_
    repeat' (first
      | (exact v1.use f129)
      | (show vp_in _ _; simp (disch := first | omega | decide) only [e30, zcn, zkpl, zki, zki1, zk8, zk16, zo32, zlt0, zle0, zeq0, zgt0, zLe0, nI_ltI, nI_leI, nI_eq, nI_add, nI_clamp, vp_in_nI, zup_s, zup_n, upd_s, upd_n, ne_eq, not_true_eq_false, not_false_eq_true]; done)
      | (intro hc; exfalso; simp (disch := first | omega | decide) only [e30, zcn, zkpl, zki, zki1, zk8, zk16, zo32, zlt0, zle0, zeq0, zgt0, zLe0, nI_ltI, nI_leI, nI_eq, nI_add, nI_clamp, vp_in_nI, zup_s, zup_n, upd_s, upd_n, ne_eq, not_true_eq_false, not_false_eq_true] at hc <;> omega)
      | (intro hc; exact absurd rfl hc)
      | intro hc
      | apply And.intro
      | exact Or.inl rfl
      | exact Or.inr rfl
      | (show (_ : Int32) = 0 ∨ _ = 1; simp (disch := first | omega | decide) only [e30, zcn, zkpl, zki, zki1, zk8, zk16, zo32, zlt0, zle0, zeq0, zgt0, zLe0, nI_ltI, nI_leI, nI_eq, nI_add, nI_clamp, vp_in_nI, zup_s, zup_n, upd_s, upd_n, ne_eq, not_true_eq_false, not_false_eq_true, zeq1, true_or, or_true]; done))
  rcases lf_run hs h (e := 0) (by omega) (c := cr s) 2 (by omega) (by rw [c2]; decide) (x := Int32.ofInt 0) (y := Int32.ofInt 2) (z := (Int8.ofInt 83).toInt32) (by decide) (by decide) (by rw [c2]; decide) hm4 (fun j hj => by
    rcases (show j = 0 ∨ j = 1 by omega) with rfl | rfl
    · exact l0
    · exact l1) with ⟨l2, v2⟩ | ⟨l2, v2⟩
  rotate_left
  · have hQ := hQ2 u4 (m3.tr m4) (fun hv => l2 ⟨_, ((cl_lf h hv).2.2 2 (by omega)).2⟩)
    refine pre 0 u4 (Or.inl rfl) v2 ?_
    generalize oI (chF (s 9) 0 (s 0 1) 0 2) = x3 at *
    generalize oI (chF (s 9) 0 (s 0 1) 0 1) = x2 at *
    refine zgo 10 [] ?_
    repeat' (first
      | (show vp_in _ _; simp (disch := first | omega | decide) only [zcn, zkpl, zki, zki1, zk8, zk16, zo32, zlt0, zle0, zeq0, zgt0, zLe0, nI_ltI, nI_leI, nI_eq, nI_add, nI_clamp, vp_in_nI, zup_s, zup_n, upd_s, upd_n, ne_eq, not_true_eq_false, not_false_eq_true]; done)
      | (intro hc; exfalso; simp (disch := first | omega | decide) only [zcn, zkpl, zki, zki1, zk8, zk16, zo32, zlt0, zle0, zeq0, zgt0, zLe0, nI_ltI, nI_leI, nI_eq, nI_add, nI_clamp, vp_in_nI, zup_s, zup_n, upd_s, upd_n, ne_eq, not_true_eq_false, not_false_eq_true] at hc <;> omega)
      | (intro hc; exact absurd rfl hc)
      | intro hc
      | apply And.intro
      | exact hQ
      | (show Q _ (SH, _); simp (disch := first | omega | decide) only [zcn, zkpl, zki, zki1, zk8, zk16, zo32, zlt0, zle0, zeq0, zgt0, zLe0, nI_ltI, nI_leI, nI_eq, nI_add, nI_clamp, vp_in_nI, zup_s, zup_n, upd_s, upd_n, ne_eq, not_true_eq_false, not_false_eq_true]; exact hQ)
      | exact Or.inl rfl
      | exact Or.inr rfl
      | (show (_ : Int32) = 0 ∨ _ = 1; simp (disch := first | omega | decide) only [zcn, zkpl, zki, zki1, zk8, zk16, zo32, zlt0, zle0, zeq0, zgt0, zLe0, nI_ltI, nI_leI, nI_eq, nI_add, nI_clamp, vp_in_nI, zup_s, zup_n, upd_s, upd_n, ne_eq, not_true_eq_false, not_false_eq_true, zeq1, true_or, or_true]; done))
  obtain ⟨m5, t3⟩ := mgo_tm hm4 (i := 0 + 1 + 2)
  have o5 : ∀ a, a ≠ 48 → a ≠ 49 → tmm u4 s (0 + 1 + 2) a = u3 a := fun a h1 h2 => by rw [tmm_o h1 h2, o4 a h1 h2]
  refine pre 1 _ (Or.inr rfl) v2 ?_
  clear pre v1 v2
  generalize tmm u4 s (0 + 1 + 2) = u5 at *
  have hm5 := m5.2.1
  have mm := m3.tr (m4.tr m5)
  have N1 : 1 < s 0 1 := (ch_some l0.1).2.1
  have N2 : 2 < s 0 1 := (ch_some l1.1).2.1
  have N3 : 3 < s 0 1 := (ch_some l2.1).2.1
  have T1 : tr1 u5 s 1 := (m4.tr m5).2.2 _ N1 T1'
  have T2 : tr1 u5 s 2 := m5.2.2 _ N2 t2
  have T3 : tr1 u5 s 3 := t3
  have x3 : oI (chF (s 9) 0 (s 0 1) 0 2) = nI 3 := by rw [l2.1]; rfl
  have x2 : oI (chF (s 9) 0 (s 0 1) 0 1) = nI 2 := by rw [l1.1]; rfl
  rw [x3, x2]
  have q2 : s 2 2 = 78 := by
    have := l1.2.1
    rw [c1] at this
    exact this
  have q3 : s 2 3 = 83 := by
    have := l2.2.1
    rw [c2] at this
    exact this
  have U2 := hm5.uv hs N2 T2
  obtain ⟨r2, hr2⟩ : ∃ r2, (r2 = nI (dvl (s 8) (vlen s 2) 0 (tb s 2)) ∧ (1 ≤ vlen s 2 ∧ vlen s 2 ≤ 2 ∧ dOK (s 8) (tb s 2) (vlen s 2))) ∨ (r2 = -1 ∧ ¬ (1 ≤ vlen s 2 ∧ vlen s 2 ≤ 2 ∧ dOK (s 8) (tb s 2) (vlen s 2))) := by
    rcases Classical.em (1 ≤ vlen s 2 ∧ vlen s 2 ≤ 2 ∧ dOK (s 8) (tb s 2) (vlen s 2)) with g | g
    · exact ⟨_, Or.inl ⟨rfl, g⟩⟩
    · exact ⟨_, Or.inr ⟨rfl, g⟩⟩
  have S2 := es_small U2 (x := nI 2) (y := u5 48 (nI 2).toNatClampNeg) (r := r2) (tb s 2) rfl (by
    have := U2.2.2.1
    simp (disch := first | omega | decide) only [this, zcn, zkpl, zki, zki1, zk8, zk16, zo32, zlt0, zle0, zeq0, zgt0, zLe0, nI_ltI, nI_leI, nI_eq, nI_add, nI_clamp, vp_in_nI, zup_s, zup_n, upd_s, upd_n, ne_eq, not_true_eq_false, not_false_eq_true]) (by omega) (by omega) (by rw [Nat.add_sub_cancel_left]; exact hr2)
  have m6 := mgo_f hm5 (f := 23) r2 (by decide)
  have E3 := es_amt (m6.2.1.uv hs N3 (m6.2.2 _ N3 T3))
  have f164 : ZM 177 0 0 [.ref 42, .int (nI 3)] (SH, zup u5 42 23 r2) (fun r h => ZW 179 (0, 0, 0, 0) 167 [(4, .int (nI 3)), (3, .int (nI 2)), (2, .int (nI 1)), (1, .int (nI 80)), (0, .ref 42)] (r.toList ++ [.ref 42]) h Q) := by
    refine E3 _ (fun r3 hr3 => ?_)
    have m7 := mgo_f m6.2.1 (f := 24) r3 (by decide)
    have mall := mm.tr (m6.tr m7)
    have q23 : zup (zup u5 42 23 r2) 42 24 r3 42 23 = r2 := rfl
    have q24 : zup (zup u5 42 23 r2) 42 24 r3 42 24 = r3 := rfl
    have q30 : zup (zup u5 42 23 r2) 42 24 r3 42 30 = nI n := by
      show u5 42 30 = nI n
      rw [o5 42 (by decide) (by decide)]
      exact e30
    have q22 : zup (zup u5 42 23 r2) 42 24 r3 42 22 = nI (nv37 (s 8) (vlen s 1) 0 (tb s 1)) := by
      show u5 42 22 = _
      rw [o5 42 (by decide) (by decide)]
      exact e22'
    have TT : ∀ i, 1 ≤ i → i < 4 → tr1 (zup (zup u5 42 23 r2) 42 24 r3) s i := fun i g1 g2 => by
      rcases (show i = 1 ∨ i = 2 ∨ i = 3 by omega) with rfl | rfl | rfl
      · exact (m6.tr m7).2.2 _ N1 T1
      · exact (m6.tr m7).2.2 _ N2 T2
      · exact (m6.tr m7).2.2 _ N3 T3
    have hm7 := m7.2.1
    have f170 : ZW 179 (0, 0, 0, 0) 170 [(4, .int (nI 3)), (3, .int (nI 2)), (2, .int (nI 1)), (1, .int (nI 80)), (0, .ref 42)] [] (SH, zup (zup u5 42 23 r2) 42 24 r3) Q := by
      clear m6 m7 S2 E3 U2
      generalize zup (zup u5 42 23 r2) 42 24 r3 = u7 at *
      have f191 : ∀ b : Int32, (b = 0 ∨ b = 1) → ZW 179 (0, 0, 0, 0) 194 (vlR (.int (nI 3)) (.int (nI 2)) (.int (nI 1)) (.int (nI 80)) 0 b) [] (SH, u7) Q → ZW 179 (0, 0, 0, 0) 189 [(4, .int (nI 3)), (3, .int (nI 2)), (2, .int (nI 1)), (1, .int (nI 80)), (0, .ref 42)] [.int b] (SH, u7) Q := by
        intro b hb W
        unfold vlR at W
        refine zgo 5 [] ?_
        exact W
      rcases hr2 with ⟨hr2, P2⟩ | ⟨hr2, P2⟩
      rotate_left
      · have W := f191 0 (Or.inl rfl) (vl_ex q30 n3 (by omega) (Or.inl rfl) (hQ2 u7 mall (fun hv => P2 ((gV_N q2).1 ((cl_lf h hv).2.2 1 (by omega)).1.2.2.2.2))))
        rw [hr2] at q23
        refine zgo 4 [] ?_
        repeat' (first
          | (exact W)
          | (show vp_in _ _; simp (disch := first | omega | decide) only [q23, m1l0, zcn, zkpl, zki, zki1, zk8, zk16, zo32, zlt0, zle0, zeq0, zgt0, zLe0, nI_ltI, nI_leI, nI_eq, nI_add, nI_clamp, vp_in_nI, zup_s, zup_n, upd_s, upd_n, ne_eq, not_true_eq_false, not_false_eq_true]; done)
          | (intro hc; exfalso; simp (disch := first | omega | decide) only [q23, m1l0, zcn, zkpl, zki, zki1, zk8, zk16, zo32, zlt0, zle0, zeq0, zgt0, zLe0, nI_ltI, nI_leI, nI_eq, nI_add, nI_clamp, vp_in_nI, zup_s, zup_n, upd_s, upd_n, ne_eq, not_true_eq_false, not_false_eq_true] at hc <;> omega)
          | (intro hc; exact absurd rfl hc)
          | intro hc
          | apply And.intro
          | exact Or.inl rfl
          | exact Or.inr rfl
          | (show (_ : Int32) = 0 ∨ _ = 1; simp (disch := first | omega | decide) only [q23, m1l0, zcn, zkpl, zki, zki1, zk8, zk16, zo32, zlt0, zle0, zeq0, zgt0, zLe0, nI_ltI, nI_leI, nI_eq, nI_add, nI_clamp, vp_in_nI, zup_s, zup_n, upd_s, upd_n, ne_eq, not_true_eq_false, not_false_eq_true, zeq1, true_or, or_true]; done))
      have b2 := dvl_b2 P2.2.2 P2.2.1
      rw [hr2] at q23
      rcases hr3 with ⟨v, P3, hr3⟩ | ⟨hr3, P3⟩
      rotate_left
      · have W := f191 0 (Or.inl rfl) (vl_ex q30 n3 (by omega) (Or.inl rfl) (hQ2 u7 mall (fun hv => P3 ((gV_A (Or.inl q3)).1 (by
          have := ((cl_lf h hv).2.2 2 (by omega)).1.2.2.2.2
          exact this)))))
        rw [hr3] at q24
        generalize dvl (s 8) (vlen s 2) 0 (tb s 2) = dv at *
        refine zgo 7 [] ?_
        repeat' (first
          | (exact W)
          | (show vp_in _ _; simp (disch := first | omega | decide) only [q23, q24, zl00, zcn, zkpl, zki, zki1, zk8, zk16, zo32, zlt0, zle0, zeq0, zgt0, zLe0, nI_ltI, nI_leI, nI_eq, nI_add, nI_clamp, vp_in_nI, zup_s, zup_n, upd_s, upd_n, ne_eq, not_true_eq_false, not_false_eq_true]; done)
          | (intro hc; exfalso; simp (disch := first | omega | decide) only [q23, q24, zl00, zcn, zkpl, zki, zki1, zk8, zk16, zo32, zlt0, zle0, zeq0, zgt0, zLe0, nI_ltI, nI_leI, nI_eq, nI_add, nI_clamp, vp_in_nI, zup_s, zup_n, upd_s, upd_n, ne_eq, not_true_eq_false, not_false_eq_true] at hc <;> omega)
          | (intro hc; exact absurd rfl hc)
          | intro hc
          | apply And.intro
          | exact Or.inl rfl
          | exact Or.inr rfl
          | (show (_ : Int32) = 0 ∨ _ = 1; simp (disch := first | omega | decide) only [q23, q24, zl00, zcn, zkpl, zki, zki1, zk8, zk16, zo32, zlt0, zle0, zeq0, zgt0, zLe0, nI_ltI, nI_leI, nI_eq, nI_add, nI_clamp, vp_in_nI, zup_s, zup_n, upd_s, upd_n, ne_eq, not_true_eq_false, not_false_eq_true, zeq1, true_or, or_true]; done))
      have b3 := AM_le P3
      have b3' : 0 < v := by
        obtain ⟨p, _, _, _, _, g, _⟩ := P3
        exact g
      rw [hr3] at q24
      have L2 : LF s 2 78 := by
        have := lf_LF l1 ((gV_N q2).2 P2)
        rw [c1] at this
        exact this
      have L3 : LF s 3 83 := by
        have := lf_LF l2 ((gV_A (Or.inl q3)).2 ⟨v, P3⟩)
        rw [c2] at this
        exact this
      have L1 : LF s 1 73 := lf_LF (k := 0) l0 g1
      have hk := LF_kc h L1 L2 L3
      have W := f191 1 (Or.inr rfl) (vl_loop hs h k80 n1 n3 eK2 L3 hk.2.2.1 Q n 0 u7 (by omega) hm7 q30 (fun t' ht' => absurd ht' (Nat.not_lt_zero t')) (fun u' w1 w2 w3 => by
        have hv : clV s := VP_cl h k80 n1 n3 ⟨h6, eK2, ⟨L1, L2, L3⟩, fun t ht => (w2 t ht).1⟩
        exact hQ1 u' (mall.tr w1) hv ⟨by rw [w3]; exact q22, fun i g1 g2 => w1.2.2 i (by omega) (TT i g1 g2), Or.inl ⟨k80, n, n1, n3, by
          obtain ⟨n', z1, z2, z3, z4⟩ := cl_VP h k80 hv
          have := z4.2.1
          omega, by rw [w3]; exact q30, by rw [w3]; exact q23, ⟨v, P3, by rw [w3]; exact q24⟩, w2⟩⟩) (fun u' w1 w2 => hQ2 u' (mall.tr w1) w2))
      generalize dvl (s 8) (vlen s 2) 0 (tb s 2) = dv at *
      refine zgo 8 [] ?_
      repeat' (first
        | (exact W)
        | (show vp_in _ _; simp (disch := first | omega | decide) only [q23, q24, zcn, zkpl, zki, zki1, zk8, zk16, zo32, zlt0, zle0, zeq0, zgt0, zLe0, nI_ltI, nI_leI, nI_eq, nI_add, nI_clamp, vp_in_nI, zup_s, zup_n, upd_s, upd_n, ne_eq, not_true_eq_false, not_false_eq_true]; done)
        | (intro hc; exfalso; simp (disch := first | omega | decide) only [q23, q24, zcn, zkpl, zki, zki1, zk8, zk16, zo32, zlt0, zle0, zeq0, zgt0, zLe0, nI_ltI, nI_leI, nI_eq, nI_add, nI_clamp, vp_in_nI, zup_s, zup_n, upd_s, upd_n, ne_eq, not_true_eq_false, not_false_eq_true] at hc <;> omega)
        | (intro hc; exact absurd rfl hc)
        | intro hc
        | apply And.intro
        | exact Or.inl rfl
        | exact Or.inr rfl
        | (show (_ : Int32) = 0 ∨ _ = 1; simp (disch := first | omega | decide) only [q23, q24, zcn, zkpl, zki, zki1, zk8, zk16, zo32, zlt0, zle0, zeq0, zgt0, zLe0, nI_ltI, nI_leI, nI_eq, nI_add, nI_clamp, vp_in_nI, zup_s, zup_n, upd_s, upd_n, ne_eq, not_true_eq_false, not_false_eq_true, zeq1, true_or, or_true]; done))
    refine zgo 1 [] ?_
    exact f170
  have f160 : ZW 179 (0, 0, 0, 0) 160 [(4, .int (nI 3)), (3, .int (nI 2)), (2, .int (nI 1)), (1, .int (nI 80)), (0, .ref 42)] [] (SH, zup u5 42 23 r2) Q := by
    refine zgo 10 [] ?_
    repeat' (first
      | (exact f164)
      | (show vp_in _ _; simp (disch := first | omega | decide) only [zcn, zkpl, zki, zki1, zk8, zk16, zo32, zlt0, zle0, zeq0, zgt0, zLe0, nI_ltI, nI_leI, nI_eq, nI_add, nI_clamp, vp_in_nI, zup_s, zup_n, upd_s, upd_n, ne_eq, not_true_eq_false, not_false_eq_true]; done)
      | (intro hc; exfalso; simp (disch := first | omega | decide) only [zcn, zkpl, zki, zki1, zk8, zk16, zo32, zlt0, zle0, zeq0, zgt0, zLe0, nI_ltI, nI_leI, nI_eq, nI_add, nI_clamp, vp_in_nI, zup_s, zup_n, upd_s, upd_n, ne_eq, not_true_eq_false, not_false_eq_true] at hc <;> omega)
      | (intro hc; exact absurd rfl hc)
      | intro hc
      | apply And.intro
      | exact Or.inl rfl
      | exact Or.inr rfl
      | (show (_ : Int32) = 0 ∨ _ = 1; simp (disch := first | omega | decide) only [zcn, zkpl, zki, zki1, zk8, zk16, zo32, zlt0, zle0, zeq0, zgt0, zLe0, nI_ltI, nI_leI, nI_eq, nI_add, nI_clamp, vp_in_nI, zup_s, zup_n, upd_s, upd_n, ne_eq, not_true_eq_false, not_false_eq_true, zeq1, true_or, or_true]; done))
  have f157 : ZW 179 (0, 0, 0, 0) 157 [(4, .int (nI 3)), (3, .int (nI 2)), (2, .int (nI 1)), (1, .int (nI 80)), (0, .ref 42)] [.int r2, .ref 42] (SH, u5) Q := by
    refine zgo 1 [] ?_
    exact f160
  have f145 : ZW 179 (0, 0, 0, 0) 145 [(4, .int (nI 3)), (3, .int (nI 2)), (2, .int (nI 1)), (1, .int (nI 80)), (0, .ref 42)] [] (SH, u5) Q := by
    refine zgo 20 [] ?_
    repeat' (first
      | (exact S2.use f157)
      | (show vp_in _ _; simp (disch := first | omega | decide) only [zcn, zkpl, zki, zki1, zk8, zk16, zo32, zlt0, zle0, zeq0, zgt0, zLe0, nI_ltI, nI_leI, nI_eq, nI_add, nI_clamp, vp_in_nI, zup_s, zup_n, upd_s, upd_n, ne_eq, not_true_eq_false, not_false_eq_true]; done)
      | (intro hc; exfalso; simp (disch := first | omega | decide) only [zcn, zkpl, zki, zki1, zk8, zk16, zo32, zlt0, zle0, zeq0, zgt0, zLe0, nI_ltI, nI_leI, nI_eq, nI_add, nI_clamp, vp_in_nI, zup_s, zup_n, upd_s, upd_n, ne_eq, not_true_eq_false, not_false_eq_true] at hc <;> omega)
      | (intro hc; exact absurd rfl hc)
      | intro hc
      | apply And.intro
      | exact Or.inl rfl
      | exact Or.inr rfl
      | (show (_ : Int32) = 0 ∨ _ = 1; simp (disch := first | omega | decide) only [zcn, zkpl, zki, zki1, zk8, zk16, zo32, zlt0, zle0, zeq0, zgt0, zLe0, nI_ltI, nI_leI, nI_eq, nI_add, nI_clamp, vp_in_nI, zup_s, zup_n, upd_s, upd_n, ne_eq, not_true_eq_false, not_false_eq_true, zeq1, true_or, or_true]; done))
  refine zgo 1 [] ?_
  repeat' (first
    | (exact f145)
    | (show vp_in _ _; simp (disch := first | omega | decide) only [z10, zcn, zkpl, zki, zki1, zk8, zk16, zo32, zlt0, zle0, zeq0, zgt0, zLe0, nI_ltI, nI_leI, nI_eq, nI_add, nI_clamp, vp_in_nI, zup_s, zup_n, upd_s, upd_n, ne_eq, not_true_eq_false, not_false_eq_true]; done)
    | (intro hc; exfalso; simp (disch := first | omega | decide) only [z10, zcn, zkpl, zki, zki1, zk8, zk16, zo32, zlt0, zle0, zeq0, zgt0, zLe0, nI_ltI, nI_leI, nI_eq, nI_add, nI_clamp, vp_in_nI, zup_s, zup_n, upd_s, upd_n, ne_eq, not_true_eq_false, not_false_eq_true] at hc <;> omega)
    | (intro hc; exact absurd rfl hc)
    | intro hc
    | apply And.intro
    | exact Or.inl rfl
    | exact Or.inr rfl
    | (show (_ : Int32) = 0 ∨ _ = 1; simp (disch := first | omega | decide) only [z10, zcn, zkpl, zki, zki1, zk8, zk16, zo32, zlt0, zle0, zeq0, zgt0, zLe0, nI_ltI, nI_leI, nI_eq, nI_add, nI_clamp, vp_in_nI, zup_s, zup_n, upd_s, upd_n, ne_eq, not_true_eq_false, not_false_eq_true, zeq1, true_or, or_true]; done))
set_option maxRecDepth 4000 in
theorem is_fol {s : pS} (hs : mdy s) (h : lay s) {k0 : Nat} (hk0 : s 2 0 = k0) (hQR : k0 = 81 ∨ k0 = 82) {u2 : zM} (hm2 : mS u2 s) (l0 : lfO s 0 0 73 1) (T1 : tr1 u2 s 1) (g1 : gV s 1) (h6 : s 6 0 = 0) (e22 : u2 42 22 = nI (nv37 (s 8) (vlen s 1) 0 (tb s 1))) (Q : zQ) (hQ1 : ∀ u', mgo s u2 u' → clV s → mvW u' s → Q (some (.int 1)) (SH, u')) (hQ2 : ∀ u', mgo s u2 u' → ¬ clV s → Q (some (.int 0)) (SH, u')) : ZW 179 (0, 0, 0, 0) 225 [(4, .int (oI (chF (s 9) 0 (s 0 1) 0 2))), (3, .int (oI (chF (s 9) 0 (s 0 1) 0 1))), (2, .int (nI 1)), (1, .int (nI k0)), (0, .ref 42)] [] (SH, u2) Q := by
  have hN := hs.1.2.1
  have g46 := hm2.1.2.2.2.2.2 0 h.1
  have bk := kc_le (f := s 9) (i := 0) (s 0 1)
  have hcs : ∃ c, (s 2 0 = 81 ∧ c = 86) ∨ (s 2 0 = 82 ∧ c = 65) := by
    rcases hQR with g | g
    · exact ⟨86, Or.inl ⟨by omega, rfl⟩⟩
    · exact ⟨65, Or.inr ⟨by omega, rfl⟩⟩
  obtain ⟨c, hcs⟩ := hcs
  have c1 : cr s 1 = 79 := by unfold cr; rw [if_neg (by decide), if_pos rfl, if_neg (by omega)]
  have c2 : cr s 2 = c := by
    unfold cr
    rw [if_neg (by decide), if_neg (by decide), if_neg (by omega)]
    rcases hcs with ⟨g, rfl⟩ | ⟨g, rfl⟩
    · rw [if_pos g]
    · rw [if_neg (by omega)]
  have cl3 : clV s → kc (s 9) 0 (s 0 1) = 3 := fun hv => (cl_VQ h hcs hv).2.2.1
  by_cases eK : kc (s 9) 0 (s 0 1) = 3
  rotate_left
  · have hQ := hQ2 u2 (mgo_r hm2) (fun hv => eK (cl3 hv))
    generalize oI (chF (s 9) 0 (s 0 1) 0 2) = x3 at *
    generalize oI (chF (s 9) 0 (s 0 1) 0 1) = x2 at *
    generalize kc (s 9) 0 (s 0 1) = kk at *
    refine zgo 20 [] ?_
    repeat' (first
      | (show vp_in _ _; simp (disch := first | omega | decide) only [g46, zcn, zkpl, zki, zki1, zk8, zk16, zo32, zlt0, zle0, zeq0, zgt0, zLe0, nI_ltI, nI_leI, nI_eq, nI_add, nI_clamp, vp_in_nI, zup_s, zup_n, upd_s, upd_n, ne_eq, not_true_eq_false, not_false_eq_true]; done)
      | (intro hc; exfalso; simp (disch := first | omega | decide) only [g46, zcn, zkpl, zki, zki1, zk8, zk16, zo32, zlt0, zle0, zeq0, zgt0, zLe0, nI_ltI, nI_leI, nI_eq, nI_add, nI_clamp, vp_in_nI, zup_s, zup_n, upd_s, upd_n, ne_eq, not_true_eq_false, not_false_eq_true] at hc <;> omega)
      | (intro hc; exact absurd rfl hc)
      | intro hc
      | apply And.intro
      | exact hQ
      | (show Q _ (SH, _); simp (disch := first | omega | decide) only [g46, zcn, zkpl, zki, zki1, zk8, zk16, zo32, zlt0, zle0, zeq0, zgt0, zLe0, nI_ltI, nI_leI, nI_eq, nI_add, nI_clamp, vp_in_nI, zup_s, zup_n, upd_s, upd_n, ne_eq, not_true_eq_false, not_false_eq_true]; exact hQ)
      | exact Or.inl rfl
      | exact Or.inr rfl
      | (show (_ : Int32) = 0 ∨ _ = 1; simp (disch := first | omega | decide) only [g46, zcn, zkpl, zki, zki1, zk8, zk16, zo32, zlt0, zle0, zeq0, zgt0, zLe0, nI_ltI, nI_leI, nI_eq, nI_add, nI_clamp, vp_in_nI, zup_s, zup_n, upd_s, upd_n, ne_eq, not_true_eq_false, not_false_eq_true, zeq1, true_or, or_true]; done))
  rw [eK] at g46
  have N1 : 1 < s 0 1 := (ch_some l0.1).2.1
  rcases lf_run hs h (e := 0) (by omega) (c := cr s) 1 (by omega) (by rw [c1]; decide) (x := Int32.ofInt 0) (y := Int32.ofInt 1) (z := (Int8.ofInt 79).toInt32) (by decide) (by decide) (by rw [c1]; decide) hm2 (fun j hj => by
    have e0 : j = 0 := by omega
    subst e0
    exact l0) with ⟨l1, v1⟩ | ⟨l1, v1⟩
  rotate_left
  · have hQ := hQ2 u2 (mgo_r hm2) (fun hv => l1 ⟨_, ((cl_lf h hv).2.2 1 (by omega)).2⟩)
    generalize oI (chF (s 9) 0 (s 0 1) 0 2) = x3 at *
    generalize oI (chF (s 9) 0 (s 0 1) 0 1) = x2 at *
    have f243 : ZW 179 (0, 0, 0, 0) 243 [(4, .int x3), (3, .int x2), (2, .int (nI 1)), (1, .int (nI k0)), (0, .ref 42)] [.int 0] (SH, u2) Q := by
      refine zgo 10 [] ?_
      repeat' (first
        | (show vp_in _ _; simp (disch := first | omega | decide) only [zcn, zkpl, zki, zki1, zk8, zk16, zo32, zlt0, zle0, zeq0, zgt0, zLe0, nI_ltI, nI_leI, nI_eq, nI_add, nI_clamp, vp_in_nI, zup_s, zup_n, upd_s, upd_n, ne_eq, not_true_eq_false, not_false_eq_true]; done)
        | (intro hc; exfalso; simp (disch := first | omega | decide) only [zcn, zkpl, zki, zki1, zk8, zk16, zo32, zlt0, zle0, zeq0, zgt0, zLe0, nI_ltI, nI_leI, nI_eq, nI_add, nI_clamp, vp_in_nI, zup_s, zup_n, upd_s, upd_n, ne_eq, not_true_eq_false, not_false_eq_true] at hc <;> omega)
        | (intro hc; exact absurd rfl hc)
        | intro hc
        | apply And.intro
        | exact hQ
        | (show Q _ (SH, _); simp (disch := first | omega | decide) only [zcn, zkpl, zki, zki1, zk8, zk16, zo32, zlt0, zle0, zeq0, zgt0, zLe0, nI_ltI, nI_leI, nI_eq, nI_add, nI_clamp, vp_in_nI, zup_s, zup_n, upd_s, upd_n, ne_eq, not_true_eq_false, not_false_eq_true]; exact hQ)
        | exact Or.inl rfl
        | exact Or.inr rfl
        | (show (_ : Int32) = 0 ∨ _ = 1; simp (disch := first | omega | decide) only [zcn, zkpl, zki, zki1, zk8, zk16, zo32, zlt0, zle0, zeq0, zgt0, zLe0, nI_ltI, nI_leI, nI_eq, nI_add, nI_clamp, vp_in_nI, zup_s, zup_n, upd_s, upd_n, ne_eq, not_true_eq_false, not_false_eq_true, zeq1, true_or, or_true]; done))
    refine zgo 20 [] ?_
    repeat' (first
      | (exact v1.use f243)
      | (show vp_in _ _; simp (disch := first | omega | decide) only [g46, zcn, zkpl, zki, zki1, zk8, zk16, zo32, zlt0, zle0, zeq0, zgt0, zLe0, nI_ltI, nI_leI, nI_eq, nI_add, nI_clamp, vp_in_nI, zup_s, zup_n, upd_s, upd_n, ne_eq, not_true_eq_false, not_false_eq_true]; done)
      | (intro hc; exfalso; simp (disch := first | omega | decide) only [g46, zcn, zkpl, zki, zki1, zk8, zk16, zo32, zlt0, zle0, zeq0, zgt0, zLe0, nI_ltI, nI_leI, nI_eq, nI_add, nI_clamp, vp_in_nI, zup_s, zup_n, upd_s, upd_n, ne_eq, not_true_eq_false, not_false_eq_true] at hc <;> omega)
      | (intro hc; exact absurd rfl hc)
      | intro hc
      | apply And.intro
      | exact Or.inl rfl
      | exact Or.inr rfl
      | (show (_ : Int32) = 0 ∨ _ = 1; simp (disch := first | omega | decide) only [g46, zcn, zkpl, zki, zki1, zk8, zk16, zo32, zlt0, zle0, zeq0, zgt0, zLe0, nI_ltI, nI_leI, nI_eq, nI_add, nI_clamp, vp_in_nI, zup_s, zup_n, upd_s, upd_n, ne_eq, not_true_eq_false, not_false_eq_true, zeq1, true_or, or_true]; done))
  obtain ⟨m4, t2⟩ := mgo_tm hm2 (i := 0 + 1 + 1)
  have o4 : ∀ a, a ≠ 48 → a ≠ 49 → tmm u2 s (0 + 1 + 1) a = u2 a := fun a h1 h2 => tmm_o h1 h2
  generalize tmm u2 s (0 + 1 + 1) = u4 at *
  have hm4 := m4.2.1
  have pre : ∀ (b : Int32) u5, (b = 0 ∨ b = 1) → Ev 173 [.ref 42, .int (Int32.ofInt 0), .int (Int32.ofInt 2), .int (nI c)] u4 (some (.int b)) u5 → ZW 179 (0, 0, 0, 0) 265 [(4, .int (oI (chF (s 9) 0 (s 0 1) 0 2))), (3, .int (oI (chF (s 9) 0 (s 0 1) 0 1))), (2, .int (nI 1)), (1, .int (nI k0)), (0, .ref 42)] [.int b] (SH, u5) Q → ZW 179 (0, 0, 0, 0) 225 [(4, .int (oI (chF (s 9) 0 (s 0 1) 0 2))), (3, .int (oI (chF (s 9) 0 (s 0 1) 0 1))), (2, .int (nI 1)), (1, .int (nI k0)), (0, .ref 42)] [] (SH, u2) Q := by
    intro b u5 hb v2 W
    generalize oI (chF (s 9) 0 (s 0 1) 0 2) = x3 at *
    generalize oI (chF (s 9) 0 (s 0 1) 0 1) = x2 at *
    have f243 : ZW 179 (0, 0, 0, 0) 243 [(4, .int x3), (3, .int x2), (2, .int (nI 1)), (1, .int (nI k0)), (0, .ref 42)] [.int 1] (SH, u4) Q := by
      rcases hcs with ⟨g, rfl⟩ | ⟨g, rfl⟩
      · obtain rfl : k0 = 81 := by omega
        rw [show nI 86 = (Int8.ofInt 86).toInt32 by decide] at v2
        refine zgo 20 [] ?_
        repeat' (first
          | (exact v2.use W)
          | (show vp_in _ _; simp (disch := first | omega | decide) only [z10, zcn, zkpl, zki, zki1, zk8, zk16, zo32, zlt0, zle0, zeq0, zgt0, zLe0, nI_ltI, nI_leI, nI_eq, nI_add, nI_clamp, vp_in_nI, zup_s, zup_n, upd_s, upd_n, ne_eq, not_true_eq_false, not_false_eq_true]; done)
          | (intro hc; exfalso; simp (disch := first | omega | decide) only [z10, zcn, zkpl, zki, zki1, zk8, zk16, zo32, zlt0, zle0, zeq0, zgt0, zLe0, nI_ltI, nI_leI, nI_eq, nI_add, nI_clamp, vp_in_nI, zup_s, zup_n, upd_s, upd_n, ne_eq, not_true_eq_false, not_false_eq_true] at hc <;> omega)
          | (intro hc; exact absurd rfl hc)
          | intro hc
          | apply And.intro
          | exact Or.inl rfl
          | exact Or.inr rfl
          | (show (_ : Int32) = 0 ∨ _ = 1; simp (disch := first | omega | decide) only [z10, zcn, zkpl, zki, zki1, zk8, zk16, zo32, zlt0, zle0, zeq0, zgt0, zLe0, nI_ltI, nI_leI, nI_eq, nI_add, nI_clamp, vp_in_nI, zup_s, zup_n, upd_s, upd_n, ne_eq, not_true_eq_false, not_false_eq_true, zeq1, true_or, or_true]; done))
      · obtain rfl : k0 = 82 := by omega
        rw [show nI 65 = (Int8.ofInt 65).toInt32 by decide] at v2
        refine zgo 20 [] ?_
        repeat' (first
          | (exact v2.use W)
          | (show vp_in _ _; simp (disch := first | omega | decide) only [z10, zcn, zkpl, zki, zki1, zk8, zk16, zo32, zlt0, zle0, zeq0, zgt0, zLe0, nI_ltI, nI_leI, nI_eq, nI_add, nI_clamp, vp_in_nI, zup_s, zup_n, upd_s, upd_n, ne_eq, not_true_eq_false, not_false_eq_true]; done)
          | (intro hc; exfalso; simp (disch := first | omega | decide) only [z10, zcn, zkpl, zki, zki1, zk8, zk16, zo32, zlt0, zle0, zeq0, zgt0, zLe0, nI_ltI, nI_leI, nI_eq, nI_add, nI_clamp, vp_in_nI, zup_s, zup_n, upd_s, upd_n, ne_eq, not_true_eq_false, not_false_eq_true] at hc <;> omega)
          | (intro hc; exact absurd rfl hc)
          | intro hc
          | apply And.intro
          | exact Or.inl rfl
          | exact Or.inr rfl
          | (show (_ : Int32) = 0 ∨ _ = 1; simp (disch := first | omega | decide) only [z10, zcn, zkpl, zki, zki1, zk8, zk16, zo32, zlt0, zle0, zeq0, zgt0, zLe0, nI_ltI, nI_leI, nI_eq, nI_add, nI_clamp, vp_in_nI, zup_s, zup_n, upd_s, upd_n, ne_eq, not_true_eq_false, not_false_eq_true, zeq1, true_or, or_true]; done))
    refine zgo 20 [] ?_
    repeat' (first
      | (exact v1.use f243)
      | (show vp_in _ _; simp (disch := first | omega | decide) only [g46, zcn, zkpl, zki, zki1, zk8, zk16, zo32, zlt0, zle0, zeq0, zgt0, zLe0, nI_ltI, nI_leI, nI_eq, nI_add, nI_clamp, vp_in_nI, zup_s, zup_n, upd_s, upd_n, ne_eq, not_true_eq_false, not_false_eq_true]; done)
      | (intro hc; exfalso; simp (disch := first | omega | decide) only [g46, zcn, zkpl, zki, zki1, zk8, zk16, zo32, zlt0, zle0, zeq0, zgt0, zLe0, nI_ltI, nI_leI, nI_eq, nI_add, nI_clamp, vp_in_nI, zup_s, zup_n, upd_s, upd_n, ne_eq, not_true_eq_false, not_false_eq_true] at hc <;> omega)
      | (intro hc; exact absurd rfl hc)
      | intro hc
      | apply And.intro
      | exact Or.inl rfl
      | exact Or.inr rfl
      | (show (_ : Int32) = 0 ∨ _ = 1; simp (disch := first | omega | decide) only [g46, zcn, zkpl, zki, zki1, zk8, zk16, zo32, zlt0, zle0, zeq0, zgt0, zLe0, nI_ltI, nI_leI, nI_eq, nI_add, nI_clamp, vp_in_nI, zup_s, zup_n, upd_s, upd_n, ne_eq, not_true_eq_false, not_false_eq_true, zeq1, true_or, or_true]; done))
  rcases lf_run hs h (e := 0) (by omega) (c := cr s) 2 (by omega) (by rw [c2]; omega) (x := Int32.ofInt 0) (y := Int32.ofInt 2) (z := nI c) (by decide) (by decide) (by rw [c2]) hm4 (fun j hj => by
    rcases (show j = 0 ∨ j = 1 by omega) with rfl | rfl
    · exact l0
    · exact l1) with ⟨l2, v2⟩ | ⟨l2, v2⟩
  rotate_left
  · have hQ := hQ2 u4 m4 (fun hv => l2 ⟨_, ((cl_lf h hv).2.2 2 (by omega)).2⟩)
    refine pre 0 u4 (Or.inl rfl) v2 ?_
    generalize oI (chF (s 9) 0 (s 0 1) 0 2) = x3 at *
    generalize oI (chF (s 9) 0 (s 0 1) 0 1) = x2 at *
    refine zgo 10 [] ?_
    repeat' (first
      | (show vp_in _ _; simp (disch := first | omega | decide) only [zcn, zkpl, zki, zki1, zk8, zk16, zo32, zlt0, zle0, zeq0, zgt0, zLe0, nI_ltI, nI_leI, nI_eq, nI_add, nI_clamp, vp_in_nI, zup_s, zup_n, upd_s, upd_n, ne_eq, not_true_eq_false, not_false_eq_true]; done)
      | (intro hc; exfalso; simp (disch := first | omega | decide) only [zcn, zkpl, zki, zki1, zk8, zk16, zo32, zlt0, zle0, zeq0, zgt0, zLe0, nI_ltI, nI_leI, nI_eq, nI_add, nI_clamp, vp_in_nI, zup_s, zup_n, upd_s, upd_n, ne_eq, not_true_eq_false, not_false_eq_true] at hc <;> omega)
      | (intro hc; exact absurd rfl hc)
      | intro hc
      | apply And.intro
      | exact hQ
      | (show Q _ (SH, _); simp (disch := first | omega | decide) only [zcn, zkpl, zki, zki1, zk8, zk16, zo32, zlt0, zle0, zeq0, zgt0, zLe0, nI_ltI, nI_leI, nI_eq, nI_add, nI_clamp, vp_in_nI, zup_s, zup_n, upd_s, upd_n, ne_eq, not_true_eq_false, not_false_eq_true]; exact hQ)
      | exact Or.inl rfl
      | exact Or.inr rfl
      | (show (_ : Int32) = 0 ∨ _ = 1; simp (disch := first | omega | decide) only [zcn, zkpl, zki, zki1, zk8, zk16, zo32, zlt0, zle0, zeq0, zgt0, zLe0, nI_ltI, nI_leI, nI_eq, nI_add, nI_clamp, vp_in_nI, zup_s, zup_n, upd_s, upd_n, ne_eq, not_true_eq_false, not_false_eq_true, zeq1, true_or, or_true]; done))
  obtain ⟨m5, t3⟩ := mgo_tm hm4 (i := 0 + 1 + 2)
  have o5 : ∀ a, a ≠ 48 → a ≠ 49 → tmm u4 s (0 + 1 + 2) a = u2 a := fun a h1 h2 => by rw [tmm_o h1 h2, o4 a h1 h2]
  refine pre 1 _ (Or.inr rfl) v2 ?_
  clear pre v1 v2
  generalize tmm u4 s (0 + 1 + 2) = u5 at *
  have hm5 := m5.2.1
  have mm := m4.tr m5
  have N2 : 2 < s 0 1 := (ch_some l1.1).2.1
  have N3 : 3 < s 0 1 := (ch_some l2.1).2.1
  have T1 : tr1 u5 s 1 := mm.2.2 _ N1 T1
  have T2 : tr1 u5 s 2 := m5.2.2 _ N2 t2
  have T3 : tr1 u5 s 3 := t3
  have x3 : oI (chF (s 9) 0 (s 0 1) 0 2) = nI 3 := by rw [l2.1]; rfl
  have x2 : oI (chF (s 9) 0 (s 0 1) 0 1) = nI 2 := by rw [l1.1]; rfl
  rw [x3, x2]
  have q2 : s 2 2 = 79 := by
    have := l1.2.1
    rw [c1] at this
    exact this
  have q3 : s 2 3 = c := by
    have := l2.2.1
    rw [c2] at this
    exact this
  obtain ⟨r2, hr2⟩ := nmE s 2
  have E2 := es_name (hm5.uv hs N2 T2) hr2
  have m6 := mgo_f hm5 (f := 31) r2 (by decide)
  have hm6 := m6.2.1
  have e31 : zup u5 42 31 r2 42 31 = r2 := rfl
  have e226 : zup u5 42 31 r2 42 22 = nI (nv37 (s 8) (vlen s 1) 0 (tb s 1)) := by
    show u5 42 22 = _
    rw [o5 42 (by decide) (by decide)]
    exact e22
  have T16 := m6.2.2 _ N1 T1
  have T26 := m6.2.2 _ N2 T2
  have T36 := m6.2.2 _ N3 T3
  have mm6 := mm.tr m6
  have f279 : ZW 179 (0, 0, 0, 0) 279 [(4, .int (nI 3)), (3, .int (nI 2)), (2, .int (nI 1)), (1, .int (nI k0)), (0, .ref 42)] [] (SH, zup u5 42 31 r2) Q := by
    clear E2 m6 mm m5 m4 T1 T2 T3
    generalize zup u5 42 31 r2 = u6 at *
    have U3 := hm6.uv hs N3 T36
    have L1 : LF s 1 73 := lf_LF (k := 0) l0 g1
    have b2 : ∀ x, x = nv37 (s 8) (vlen s 2) 0 (tb s 2) → (1 ≤ vlen s 2 ∧ vlen s 2 ≤ 4 ∧ nOK (s 8) (tb s 2) (vlen s 2)) → 1 ≤ x ∧ x < 2000000 := fun x hx g => by
      rw [hx]
      exact nv37_b g.1 g.2.1 g.2.2
    have nI2 : ¬ (1 ≤ vlen s 2 ∧ vlen s 2 ≤ 4 ∧ nOK (s 8) (tb s 2) (vlen s 2)) → ¬ clV s := fun g hv => g ((gV_I (Or.inr (Or.inr q2))).1 ((cl_lf h hv).2.2 1 (by omega)).1.2.2.2.2)
    have L2 : (1 ≤ vlen s 2 ∧ vlen s 2 ≤ 4 ∧ nOK (s 8) (tb s 2) (vlen s 2)) → LF s 2 79 := fun g => by
      have := lf_LF l1 ((gV_I (Or.inr (Or.inr q2))).2 g)
      rw [c1] at this
      exact this
    rcases hcs with ⟨g81, rfl⟩ | ⟨g82, rfl⟩
    · obtain rfl : k0 = 81 := by omega
      obtain ⟨⟨hl8, h32⟩, h50, h48, h49, hle, he⟩ := U3
      have fin : ∀ (u7 : zM), mgo s u2 u7 → u7 42 31 = r2 → u7 42 22 = nI (nv37 (s 8) (vlen s 1) 0 (tb s 1)) → (∀ i, 1 ≤ i → i < 4 → tr1 u7 s i) → ∀ z : Nat, (z = 65 ∨ z = 82 ∨ z = 32 ∨ True) → z ≤ 126 → u7 42 32 = nI (if z = 65 then 1 else 0) → (z = s 8 (tb s 3) ∧ vlen s 3 = 1 ∨ z = 32 ∧ vlen s 3 ≠ 1) → ZW 179 (0, 0, 0, 0) 339 [(5, .int (nI z)), (4, .int (nI 3)), (3, .int (nI 2)), (2, .int (nI 1)), (1, .int (nI 81)), (0, .ref 42)] [] (SH, u7) Q := by
        intro u7 hg7 e317 e227 hT z _ hz e327 hzz
        rcases hr2 with ⟨hr2, P2⟩ | ⟨hr2, P2⟩
        rotate_left
        · have hQ := hQ2 u7 hg7 (nI2 P2)
          rw [hr2] at e317
          refine zgo 20 [] ?_
          repeat' (first
            | (show vp_in _ _; simp (disch := first | omega | decide) only [e317, zl00, zcn, zkpl, zki, zki1, zk8, zk16, zo32, zlt0, zle0, zeq0, zgt0, zLe0, nI_ltI, nI_leI, nI_eq, nI_add, nI_clamp, vp_in_nI, zup_s, zup_n, upd_s, upd_n, ne_eq, not_true_eq_false, not_false_eq_true]; done)
            | (intro hc; exfalso; simp (disch := first | omega | decide) only [e317, zl00, zcn, zkpl, zki, zki1, zk8, zk16, zo32, zlt0, zle0, zeq0, zgt0, zLe0, nI_ltI, nI_leI, nI_eq, nI_add, nI_clamp, vp_in_nI, zup_s, zup_n, upd_s, upd_n, ne_eq, not_true_eq_false, not_false_eq_true] at hc <;> omega)
            | (intro hc; exact absurd rfl hc)
            | intro hc
            | apply And.intro
            | exact hQ
            | (show Q _ (SH, _); simp (disch := first | omega | decide) only [e317, zl00, zcn, zkpl, zki, zki1, zk8, zk16, zo32, zlt0, zle0, zeq0, zgt0, zLe0, nI_ltI, nI_leI, nI_eq, nI_add, nI_clamp, vp_in_nI, zup_s, zup_n, upd_s, upd_n, ne_eq, not_true_eq_false, not_false_eq_true]; exact hQ)
            | exact Or.inl rfl
            | exact Or.inr rfl
            | (show (_ : Int32) = 0 ∨ _ = 1; simp (disch := first | omega | decide) only [e317, zl00, zcn, zkpl, zki, zki1, zk8, zk16, zo32, zlt0, zle0, zeq0, zgt0, zLe0, nI_ltI, nI_leI, nI_eq, nI_add, nI_clamp, vp_in_nI, zup_s, zup_n, upd_s, upd_n, ne_eq, not_true_eq_false, not_false_eq_true, zeq1, true_or, or_true]; done))
        have b2' := b2 _ rfl P2
        rw [hr2] at e317
        by_cases ez : z = 65 ∨ z = 82
        · have hv3 : vOK (s 8) (tb s 3) (vlen s 3) := by
            unfold vOK
            omega
          have L3 : LF s 3 86 := by
            have := lf_LF l2 ((gV_V q3).2 hv3)
            rw [c2] at this
            exact this
          have hv : clV s := VQ_cl h (Or.inl ⟨g81, rfl⟩) ⟨h6, eK, L1, L2 P2, L3⟩
          have hQ := hQ1 u7 hg7 hv ⟨e227, hT, Or.inr (Or.inl ⟨g81, (cl_VQ h (Or.inl ⟨g81, rfl⟩) hv).1, e317, by
            rw [e327]
            have : z = s 8 (tb s 3) := by omega
            rw [this]⟩)⟩
          clear hQ1 hQ2
          generalize nv37 (s 8) (vlen s 2) 0 (tb s 2) = nn at *
          rcases ez with rfl | rfl
          · refine zgo 20 [] ?_
            repeat' (first
              | (show vp_in _ _; simp (disch := first | omega | decide) only [e317, zcn, zkpl, zki, zki1, zk8, zk16, zo32, zlt0, zle0, zeq0, zgt0, zLe0, nI_ltI, nI_leI, nI_eq, nI_add, nI_clamp, vp_in_nI, zup_s, zup_n, upd_s, upd_n, ne_eq, not_true_eq_false, not_false_eq_true]; done)
              | (intro hc; exfalso; simp (disch := first | omega | decide) only [e317, zcn, zkpl, zki, zki1, zk8, zk16, zo32, zlt0, zle0, zeq0, zgt0, zLe0, nI_ltI, nI_leI, nI_eq, nI_add, nI_clamp, vp_in_nI, zup_s, zup_n, upd_s, upd_n, ne_eq, not_true_eq_false, not_false_eq_true] at hc <;> omega)
              | (intro hc; exact absurd rfl hc)
              | intro hc
              | apply And.intro
              | exact hQ
              | (show Q _ (SH, _); simp (disch := first | omega | decide) only [e317, zcn, zkpl, zki, zki1, zk8, zk16, zo32, zlt0, zle0, zeq0, zgt0, zLe0, nI_ltI, nI_leI, nI_eq, nI_add, nI_clamp, vp_in_nI, zup_s, zup_n, upd_s, upd_n, ne_eq, not_true_eq_false, not_false_eq_true]; exact hQ)
              | exact Or.inl rfl
              | exact Or.inr rfl
              | (show (_ : Int32) = 0 ∨ _ = 1; simp (disch := first | omega | decide) only [e317, zcn, zkpl, zki, zki1, zk8, zk16, zo32, zlt0, zle0, zeq0, zgt0, zLe0, nI_ltI, nI_leI, nI_eq, nI_add, nI_clamp, vp_in_nI, zup_s, zup_n, upd_s, upd_n, ne_eq, not_true_eq_false, not_false_eq_true, zeq1, true_or, or_true]; done))
          · refine zgo 20 [] ?_
            repeat' (first
              | (show vp_in _ _; simp (disch := first | omega | decide) only [e317, zcn, zkpl, zki, zki1, zk8, zk16, zo32, zlt0, zle0, zeq0, zgt0, zLe0, nI_ltI, nI_leI, nI_eq, nI_add, nI_clamp, vp_in_nI, zup_s, zup_n, upd_s, upd_n, ne_eq, not_true_eq_false, not_false_eq_true]; done)
              | (intro hc; exfalso; simp (disch := first | omega | decide) only [e317, zcn, zkpl, zki, zki1, zk8, zk16, zo32, zlt0, zle0, zeq0, zgt0, zLe0, nI_ltI, nI_leI, nI_eq, nI_add, nI_clamp, vp_in_nI, zup_s, zup_n, upd_s, upd_n, ne_eq, not_true_eq_false, not_false_eq_true] at hc <;> omega)
              | (intro hc; exact absurd rfl hc)
              | intro hc
              | apply And.intro
              | exact hQ
              | (show Q _ (SH, _); simp (disch := first | omega | decide) only [e317, zcn, zkpl, zki, zki1, zk8, zk16, zo32, zlt0, zle0, zeq0, zgt0, zLe0, nI_ltI, nI_leI, nI_eq, nI_add, nI_clamp, vp_in_nI, zup_s, zup_n, upd_s, upd_n, ne_eq, not_true_eq_false, not_false_eq_true]; exact hQ)
              | exact Or.inl rfl
              | exact Or.inr rfl
              | (show (_ : Int32) = 0 ∨ _ = 1; simp (disch := first | omega | decide) only [e317, zcn, zkpl, zki, zki1, zk8, zk16, zo32, zlt0, zle0, zeq0, zgt0, zLe0, nI_ltI, nI_leI, nI_eq, nI_add, nI_clamp, vp_in_nI, zup_s, zup_n, upd_s, upd_n, ne_eq, not_true_eq_false, not_false_eq_true, zeq1, true_or, or_true]; done))
        · have hQ := hQ2 u7 hg7 (fun hv => by
            have := (gV_V q3).1 (by
              have := ((cl_lf h hv).2.2 2 (by omega)).1.2.2.2.2
              exact this)
            unfold vOK at this
            omega)
          generalize nv37 (s 8) (vlen s 2) 0 (tb s 2) = nn at *
          refine zgo 20 [] ?_
          repeat' (first
            | (show vp_in _ _; simp (disch := first | omega | decide) only [e317, zcn, zkpl, zki, zki1, zk8, zk16, zo32, zlt0, zle0, zeq0, zgt0, zLe0, nI_ltI, nI_leI, nI_eq, nI_add, nI_clamp, vp_in_nI, zup_s, zup_n, upd_s, upd_n, ne_eq, not_true_eq_false, not_false_eq_true]; done)
            | (intro hc; exfalso; simp (disch := first | omega | decide) only [e317, zcn, zkpl, zki, zki1, zk8, zk16, zo32, zlt0, zle0, zeq0, zgt0, zLe0, nI_ltI, nI_leI, nI_eq, nI_add, nI_clamp, vp_in_nI, zup_s, zup_n, upd_s, upd_n, ne_eq, not_true_eq_false, not_false_eq_true] at hc <;> omega)
            | (intro hc; exact absurd rfl hc)
            | intro hc
            | apply And.intro
            | exact hQ
            | (show Q _ (SH, _); simp (disch := first | omega | decide) only [e317, zcn, zkpl, zki, zki1, zk8, zk16, zo32, zlt0, zle0, zeq0, zgt0, zLe0, nI_ltI, nI_leI, nI_eq, nI_add, nI_clamp, vp_in_nI, zup_s, zup_n, upd_s, upd_n, ne_eq, not_true_eq_false, not_false_eq_true]; exact hQ)
            | exact Or.inl rfl
            | exact Or.inr rfl
            | (show (_ : Int32) = 0 ∨ _ = 1; simp (disch := first | omega | decide) only [e317, zcn, zkpl, zki, zki1, zk8, zk16, zo32, zlt0, zle0, zeq0, zgt0, zLe0, nI_ltI, nI_leI, nI_eq, nI_add, nI_clamp, vp_in_nI, zup_s, zup_n, upd_s, upd_n, ne_eq, not_true_eq_false, not_false_eq_true, zeq1, true_or, or_true]; done))
      have f321 : ∀ z : Nat, z ≤ 126 → (z = s 8 (tb s 3) ∧ vlen s 3 = 1 ∨ z = 32 ∧ vlen s 3 ≠ 1) → ZW 179 (0, 0, 0, 0) 321 [(4, .int (nI 3)), (3, .int (nI 2)), (2, .int (nI 1)), (1, .int (nI 81)), (0, .ref 42)] [.int (nI z)] (SH, u6) Q := by
        intro z hz hzz
        have m7 := mgo_f hm6 (f := 32) (nI (if z = 65 then 1 else 0)) (by decide)
        have F := fin (zup u6 42 32 (nI (if z = 65 then 1 else 0))) (mm6.tr m7) (by rw [zup_s, upd_n _ (by decide)]; exact e31) (by rw [zup_s, upd_n _ (by decide)]; exact e226) (fun i g1 g2 => by
          rcases (show i = 1 ∨ i = 2 ∨ i = 3 by omega) with rfl | rfl | rfl
          · exact m7.2.2 _ N1 T16
          · exact m7.2.2 _ N2 T26
          · exact m7.2.2 _ N3 T36) z (Or.inr (Or.inr (Or.inr trivial))) hz (by rw [zup_s, upd_s]) hzz
        clear fin
        by_cases ez : z = 65
        · subst ez
          rw [if_pos rfl] at F
          refine zgo 8 [] ?_
          repeat' (first
            | (exact F)
            | (show vp_in _ _; simp (disch := first | omega | decide) only [zcn, zkpl, zki, zki1, zk8, zk16, zo32, zlt0, zle0, zeq0, zgt0, zLe0, nI_ltI, nI_leI, nI_eq, nI_add, nI_clamp, vp_in_nI, zup_s, zup_n, upd_s, upd_n, ne_eq, not_true_eq_false, not_false_eq_true]; done)
            | (intro hc; exfalso; simp (disch := first | omega | decide) only [zcn, zkpl, zki, zki1, zk8, zk16, zo32, zlt0, zle0, zeq0, zgt0, zLe0, nI_ltI, nI_leI, nI_eq, nI_add, nI_clamp, vp_in_nI, zup_s, zup_n, upd_s, upd_n, ne_eq, not_true_eq_false, not_false_eq_true] at hc <;> omega)
            | (intro hc; exact absurd rfl hc)
            | intro hc
            | apply And.intro
            | exact Or.inl rfl
            | exact Or.inr rfl
            | (show (_ : Int32) = 0 ∨ _ = 1; simp (disch := first | omega | decide) only [zcn, zkpl, zki, zki1, zk8, zk16, zo32, zlt0, zle0, zeq0, zgt0, zLe0, nI_ltI, nI_leI, nI_eq, nI_add, nI_clamp, vp_in_nI, zup_s, zup_n, upd_s, upd_n, ne_eq, not_true_eq_false, not_false_eq_true, zeq1, true_or, or_true]; done))
        · rw [if_neg ez] at F
          refine zgo 7 [] ?_
          repeat' (first
            | (exact F)
            | (show vp_in _ _; simp (disch := first | omega | decide) only [zcn, zkpl, zki, zki1, zk8, zk16, zo32, zlt0, zle0, zeq0, zgt0, zLe0, nI_ltI, nI_leI, nI_eq, nI_add, nI_clamp, vp_in_nI, zup_s, zup_n, upd_s, upd_n, ne_eq, not_true_eq_false, not_false_eq_true]; done)
            | (intro hc; exfalso; simp (disch := first | omega | decide) only [zcn, zkpl, zki, zki1, zk8, zk16, zo32, zlt0, zle0, zeq0, zgt0, zLe0, nI_ltI, nI_leI, nI_eq, nI_add, nI_clamp, vp_in_nI, zup_s, zup_n, upd_s, upd_n, ne_eq, not_true_eq_false, not_false_eq_true] at hc <;> omega)
            | (intro hc; exact absurd rfl hc)
            | intro hc
            | apply And.intro
            | exact Or.inl rfl
            | exact Or.inr rfl
            | (show (_ : Int32) = 0 ∨ _ = 1; simp (disch := first | omega | decide) only [zcn, zkpl, zki, zki1, zk8, zk16, zo32, zlt0, zle0, zeq0, zgt0, zLe0, nI_ltI, nI_leI, nI_eq, nI_add, nI_clamp, vp_in_nI, zup_s, zup_n, upd_s, upd_n, ne_eq, not_true_eq_false, not_false_eq_true, zeq1, true_or, or_true]; done))
      have e1 : nI (tb s 3 + vlen s 3) - nI (tb s 3) = nI (vlen s 3) := by rw [pk_sub (by omega), Nat.add_sub_cancel_left]
      have hle2 : vlen s 3 ≤ 300 := by omega
      have htb : tb s 3 ≤ 300 := by omega
      by_cases el : vlen s 3 = 1
      · have g50 := h50 (tb s 3) (by omega)
        have f := f321 (s 8 (tb s 3)) (h32 (tb s 3) (by omega)).2 (Or.inl ⟨rfl, el⟩)
        have e50 : u6 50 (u6 48 (nI 3).toNatClampNeg).toNatClampNeg = nI (s 8 (tb s 3)) := by
          simp (disch := first | omega | decide) only [h48, g50, zcn, zkpl, zki, zki1, zk8, zk16, zo32, zlt0, zle0, zeq0, zgt0, zLe0, nI_ltI, nI_leI, nI_eq, nI_add, nI_clamp, vp_in_nI, zup_s, zup_n, upd_s, upd_n, ne_eq, not_true_eq_false, not_false_eq_true]
        rw [← e50] at f
        rw [el] at e1 h49
        refine zgo 22 [] ?_
        repeat' (first
          | (exact f)
          | (show vp_in _ _; simp (disch := first | omega | decide) only [h48, h49, e1, zcn, zkpl, zki, zki1, zk8, zk16, zo32, zlt0, zle0, zeq0, zgt0, zLe0, nI_ltI, nI_leI, nI_eq, nI_add, nI_clamp, vp_in_nI, zup_s, zup_n, upd_s, upd_n, ne_eq, not_true_eq_false, not_false_eq_true]; done)
          | (intro hc; exfalso; simp (disch := first | omega | decide) only [h48, h49, e1, zcn, zkpl, zki, zki1, zk8, zk16, zo32, zlt0, zle0, zeq0, zgt0, zLe0, nI_ltI, nI_leI, nI_eq, nI_add, nI_clamp, vp_in_nI, zup_s, zup_n, upd_s, upd_n, ne_eq, not_true_eq_false, not_false_eq_true] at hc <;> omega)
          | (intro hc; exact absurd rfl hc)
          | intro hc
          | apply And.intro
          | exact Or.inl rfl
          | exact Or.inr rfl
          | (show (_ : Int32) = 0 ∨ _ = 1; simp (disch := first | omega | decide) only [h48, h49, e1, zcn, zkpl, zki, zki1, zk8, zk16, zo32, zlt0, zle0, zeq0, zgt0, zLe0, nI_ltI, nI_leI, nI_eq, nI_add, nI_clamp, vp_in_nI, zup_s, zup_n, upd_s, upd_n, ne_eq, not_true_eq_false, not_false_eq_true, zeq1, true_or, or_true]; done))
      · have f := f321 32 (by omega) (Or.inr ⟨rfl, el⟩)
        refine zgo 15 [] ?_
        repeat' (first
          | (exact f)
          | (show vp_in _ _; simp (disch := first | omega | decide) only [h48, h49, e1, zcn, zkpl, zki, zki1, zk8, zk16, zo32, zlt0, zle0, zeq0, zgt0, zLe0, nI_ltI, nI_leI, nI_eq, nI_add, nI_clamp, vp_in_nI, zup_s, zup_n, upd_s, upd_n, ne_eq, not_true_eq_false, not_false_eq_true]; done)
          | (intro hc; exfalso; simp (disch := first | omega | decide) only [h48, h49, e1, zcn, zkpl, zki, zki1, zk8, zk16, zo32, zlt0, zle0, zeq0, zgt0, zLe0, nI_ltI, nI_leI, nI_eq, nI_add, nI_clamp, vp_in_nI, zup_s, zup_n, upd_s, upd_n, ne_eq, not_true_eq_false, not_false_eq_true] at hc <;> omega)
          | (intro hc; exact absurd rfl hc)
          | intro hc
          | apply And.intro
          | exact Or.inl rfl
          | exact Or.inr rfl
          | (show (_ : Int32) = 0 ∨ _ = 1; simp (disch := first | omega | decide) only [h48, h49, e1, zcn, zkpl, zki, zki1, zk8, zk16, zo32, zlt0, zle0, zeq0, zgt0, zLe0, nI_ltI, nI_leI, nI_eq, nI_add, nI_clamp, vp_in_nI, zup_s, zup_n, upd_s, upd_n, ne_eq, not_true_eq_false, not_false_eq_true, zeq1, true_or, or_true]; done))
    · obtain rfl : k0 = 82 := by omega
      have E3 := es_amt U3
      have f374 : ZM 177 0 0 [.ref 42, .int (nI 3)] (SH, u6) (fun r h => ZW 179 (0, 0, 0, 0) 377 [(4, .int (nI 3)), (3, .int (nI 2)), (2, .int (nI 1)), (1, .int (nI 82)), (0, .ref 42)] (r.toList ++ [.int (nI 0), .ref 56]) h Q) := by
        refine E3 _ (fun r3 hr3 => ?_)
        have m7 := mgo_w hm6 (a := 56) (k := 0) r3 (by decide)
        have q31 : zup u6 56 0 r3 42 31 = r2 := e31
        have q56 : zup u6 56 0 r3 56 0 = r3 := rfl
        have hT : ∀ i, 1 ≤ i → i < 4 → tr1 (zup u6 56 0 r3) s i := fun i g1 g2 => by
          rcases (show i = 1 ∨ i = 2 ∨ i = 3 by omega) with rfl | rfl | rfl
          · exact m7.2.2 _ N1 T16
          · exact m7.2.2 _ N2 T26
          · exact m7.2.2 _ N3 T36
        have q22 : zup u6 56 0 r3 42 22 = nI (nv37 (s 8) (vlen s 1) 0 (tb s 1)) := e226
        have mall := mm6.tr m7
        have f378 : ZW 179 (0, 0, 0, 0) 378 [(4, .int (nI 3)), (3, .int (nI 2)), (2, .int (nI 1)), (1, .int (nI 82)), (0, .ref 42)] [] (SH, zup u6 56 0 r3) Q := by
          generalize zup u6 56 0 r3 = u7 at *
          rcases hr2 with ⟨hr2, P2⟩ | ⟨hr2, P2⟩
          rotate_left
          · have hQ := hQ2 u7 mall (nI2 P2)
            rw [hr2] at q31
            refine zgo 20 [] ?_
            repeat' (first
              | (show vp_in _ _; simp (disch := first | omega | decide) only [q31, zl00, zcn, zkpl, zki, zki1, zk8, zk16, zo32, zlt0, zle0, zeq0, zgt0, zLe0, nI_ltI, nI_leI, nI_eq, nI_add, nI_clamp, vp_in_nI, zup_s, zup_n, upd_s, upd_n, ne_eq, not_true_eq_false, not_false_eq_true]; done)
              | (intro hc; exfalso; simp (disch := first | omega | decide) only [q31, zl00, zcn, zkpl, zki, zki1, zk8, zk16, zo32, zlt0, zle0, zeq0, zgt0, zLe0, nI_ltI, nI_leI, nI_eq, nI_add, nI_clamp, vp_in_nI, zup_s, zup_n, upd_s, upd_n, ne_eq, not_true_eq_false, not_false_eq_true] at hc <;> omega)
              | (intro hc; exact absurd rfl hc)
              | intro hc
              | apply And.intro
              | exact hQ
              | (show Q _ (SH, _); simp (disch := first | omega | decide) only [q31, zl00, zcn, zkpl, zki, zki1, zk8, zk16, zo32, zlt0, zle0, zeq0, zgt0, zLe0, nI_ltI, nI_leI, nI_eq, nI_add, nI_clamp, vp_in_nI, zup_s, zup_n, upd_s, upd_n, ne_eq, not_true_eq_false, not_false_eq_true]; exact hQ)
              | exact Or.inl rfl
              | exact Or.inr rfl
              | (show (_ : Int32) = 0 ∨ _ = 1; simp (disch := first | omega | decide) only [q31, zl00, zcn, zkpl, zki, zki1, zk8, zk16, zo32, zlt0, zle0, zeq0, zgt0, zLe0, nI_ltI, nI_leI, nI_eq, nI_add, nI_clamp, vp_in_nI, zup_s, zup_n, upd_s, upd_n, ne_eq, not_true_eq_false, not_false_eq_true, zeq1, true_or, or_true]; done))
          have b2' := b2 _ rfl P2
          rw [hr2] at q31
          rcases hr3 with ⟨v, P3, hr3⟩ | ⟨hr3, P3⟩
          rotate_left
          · have hQ := hQ2 u7 mall (fun hv => P3 ((gV_A (Or.inr q3)).1 (by
              have := ((cl_lf h hv).2.2 2 (by omega)).1.2.2.2.2
              exact this)))
            rw [hr3] at q56
            generalize nv37 (s 8) (vlen s 2) 0 (tb s 2) = nn at *
            refine zgo 20 [] ?_
            repeat' (first
              | (show vp_in _ _; simp (disch := first | omega | decide) only [q31, q56, zl00, zcn, zkpl, zki, zki1, zk8, zk16, zo32, zlt0, zle0, zeq0, zgt0, zLe0, nI_ltI, nI_leI, nI_eq, nI_add, nI_clamp, vp_in_nI, zup_s, zup_n, upd_s, upd_n, ne_eq, not_true_eq_false, not_false_eq_true]; done)
              | (intro hc; exfalso; simp (disch := first | omega | decide) only [q31, q56, zl00, zcn, zkpl, zki, zki1, zk8, zk16, zo32, zlt0, zle0, zeq0, zgt0, zLe0, nI_ltI, nI_leI, nI_eq, nI_add, nI_clamp, vp_in_nI, zup_s, zup_n, upd_s, upd_n, ne_eq, not_true_eq_false, not_false_eq_true] at hc <;> omega)
              | (intro hc; exact absurd rfl hc)
              | intro hc
              | apply And.intro
              | exact hQ
              | (show Q _ (SH, _); simp (disch := first | omega | decide) only [q31, q56, zl00, zcn, zkpl, zki, zki1, zk8, zk16, zo32, zlt0, zle0, zeq0, zgt0, zLe0, nI_ltI, nI_leI, nI_eq, nI_add, nI_clamp, vp_in_nI, zup_s, zup_n, upd_s, upd_n, ne_eq, not_true_eq_false, not_false_eq_true]; exact hQ)
              | exact Or.inl rfl
              | exact Or.inr rfl
              | (show (_ : Int32) = 0 ∨ _ = 1; simp (disch := first | omega | decide) only [q31, q56, zl00, zcn, zkpl, zki, zki1, zk8, zk16, zo32, zlt0, zle0, zeq0, zgt0, zLe0, nI_ltI, nI_leI, nI_eq, nI_add, nI_clamp, vp_in_nI, zup_s, zup_n, upd_s, upd_n, ne_eq, not_true_eq_false, not_false_eq_true, zeq1, true_or, or_true]; done))
          have b3 := AM_le P3
          have b3' : 0 < v := by
            obtain ⟨p, _, _, _, _, g, _⟩ := P3
            exact g
          rw [hr3] at q56
          have L3 : LF s 3 65 := by
            have := lf_LF l2 ((gV_A (Or.inr q3)).2 ⟨v, P3⟩)
            rw [c2] at this
            exact this
          have hv : clV s := VQ_cl h (Or.inr ⟨g82, rfl⟩) ⟨h6, eK, L1, L2 P2, L3⟩
          have hQ := hQ1 u7 mall hv ⟨q22, hT, Or.inr (Or.inr ⟨g82, (cl_VQ h (Or.inr ⟨g82, rfl⟩) hv).1, q31, v, P3, q56⟩)⟩
          clear hQ1 hQ2
          generalize nv37 (s 8) (vlen s 2) 0 (tb s 2) = nn at *
          refine zgo 20 [] ?_
          repeat' (first
            | (show vp_in _ _; simp (disch := first | omega | decide) only [q31, q56, zcn, zkpl, zki, zki1, zk8, zk16, zo32, zlt0, zle0, zeq0, zgt0, zLe0, nI_ltI, nI_leI, nI_eq, nI_add, nI_clamp, vp_in_nI, zup_s, zup_n, upd_s, upd_n, ne_eq, not_true_eq_false, not_false_eq_true]; done)
            | (intro hc; exfalso; simp (disch := first | omega | decide) only [q31, q56, zcn, zkpl, zki, zki1, zk8, zk16, zo32, zlt0, zle0, zeq0, zgt0, zLe0, nI_ltI, nI_leI, nI_eq, nI_add, nI_clamp, vp_in_nI, zup_s, zup_n, upd_s, upd_n, ne_eq, not_true_eq_false, not_false_eq_true] at hc <;> omega)
            | (intro hc; exact absurd rfl hc)
            | intro hc
            | apply And.intro
            | exact hQ
            | (show Q _ (SH, _); simp (disch := first | omega | decide) only [q31, q56, zcn, zkpl, zki, zki1, zk8, zk16, zo32, zlt0, zle0, zeq0, zgt0, zLe0, nI_ltI, nI_leI, nI_eq, nI_add, nI_clamp, vp_in_nI, zup_s, zup_n, upd_s, upd_n, ne_eq, not_true_eq_false, not_false_eq_true]; exact hQ)
            | exact Or.inl rfl
            | exact Or.inr rfl
            | (show (_ : Int32) = 0 ∨ _ = 1; simp (disch := first | omega | decide) only [q31, q56, zcn, zkpl, zki, zki1, zk8, zk16, zo32, zlt0, zle0, zeq0, zgt0, zLe0, nI_ltI, nI_leI, nI_eq, nI_add, nI_clamp, vp_in_nI, zup_s, zup_n, upd_s, upd_n, ne_eq, not_true_eq_false, not_false_eq_true, zeq1, true_or, or_true]; done))
        refine zgo 1 [] ?_
        repeat' (first
          | (exact zcg (by simp (disch := first | omega | decide) only [zcn, zkpl, zki, zki1, zk8, zk16, zo32, zlt0, zle0, zeq0, zgt0, zLe0, nI_ltI, nI_leI, nI_eq, nI_add, nI_clamp, vp_in_nI, zup_s, zup_n, upd_s, upd_n, ne_eq, not_true_eq_false, not_false_eq_true]) f378)
          | (show vp_in _ _; simp (disch := first | omega | decide) only [zcn, zkpl, zki, zki1, zk8, zk16, zo32, zlt0, zle0, zeq0, zgt0, zLe0, nI_ltI, nI_leI, nI_eq, nI_add, nI_clamp, vp_in_nI, zup_s, zup_n, upd_s, upd_n, ne_eq, not_true_eq_false, not_false_eq_true]; done)
          | (intro hc; exfalso; simp (disch := first | omega | decide) only [zcn, zkpl, zki, zki1, zk8, zk16, zo32, zlt0, zle0, zeq0, zgt0, zLe0, nI_ltI, nI_leI, nI_eq, nI_add, nI_clamp, vp_in_nI, zup_s, zup_n, upd_s, upd_n, ne_eq, not_true_eq_false, not_false_eq_true] at hc <;> omega)
          | (intro hc; exact absurd rfl hc)
          | intro hc
          | apply And.intro
          | exact Or.inl rfl
          | exact Or.inr rfl
          | (show (_ : Int32) = 0 ∨ _ = 1; simp (disch := first | omega | decide) only [zcn, zkpl, zki, zki1, zk8, zk16, zo32, zlt0, zle0, zeq0, zgt0, zLe0, nI_ltI, nI_leI, nI_eq, nI_add, nI_clamp, vp_in_nI, zup_s, zup_n, upd_s, upd_n, ne_eq, not_true_eq_false, not_false_eq_true, zeq1, true_or, or_true]; done))
      refine zgo 20 [] ?_
      repeat' (first
        | (exact f374)
        | (show vp_in _ _; simp (disch := first | omega | decide) only [zcn, zkpl, zki, zki1, zk8, zk16, zo32, zlt0, zle0, zeq0, zgt0, zLe0, nI_ltI, nI_leI, nI_eq, nI_add, nI_clamp, vp_in_nI, zup_s, zup_n, upd_s, upd_n, ne_eq, not_true_eq_false, not_false_eq_true]; done)
        | (intro hc; exfalso; simp (disch := first | omega | decide) only [zcn, zkpl, zki, zki1, zk8, zk16, zo32, zlt0, zle0, zeq0, zgt0, zLe0, nI_ltI, nI_leI, nI_eq, nI_add, nI_clamp, vp_in_nI, zup_s, zup_n, upd_s, upd_n, ne_eq, not_true_eq_false, not_false_eq_true] at hc <;> omega)
        | (intro hc; exact absurd rfl hc)
        | intro hc
        | apply And.intro
        | exact Or.inl rfl
        | exact Or.inr rfl
        | (show (_ : Int32) = 0 ∨ _ = 1; simp (disch := first | omega | decide) only [zcn, zkpl, zki, zki1, zk8, zk16, zo32, zlt0, zle0, zeq0, zgt0, zLe0, nI_ltI, nI_leI, nI_eq, nI_add, nI_clamp, vp_in_nI, zup_s, zup_n, upd_s, upd_n, ne_eq, not_true_eq_false, not_false_eq_true, zeq1, true_or, or_true]; done))
  have f276 : ZW 179 (0, 0, 0, 0) 276 [(4, .int (nI 3)), (3, .int (nI 2)), (2, .int (nI 1)), (1, .int (nI k0)), (0, .ref 42)] [.int r2, .ref 42] (SH, u5) Q := by
    refine zgo 1 [] ?_
    exact f279
  refine zgo 20 [] ?_
  repeat' (first
    | (exact E2.use f276)
    | (show vp_in _ _; simp (disch := first | omega | decide) only [z10, zcn, zkpl, zki, zki1, zk8, zk16, zo32, zlt0, zle0, zeq0, zgt0, zLe0, nI_ltI, nI_leI, nI_eq, nI_add, nI_clamp, vp_in_nI, zup_s, zup_n, upd_s, upd_n, ne_eq, not_true_eq_false, not_false_eq_true]; done)
    | (intro hc; exfalso; simp (disch := first | omega | decide) only [z10, zcn, zkpl, zki, zki1, zk8, zk16, zo32, zlt0, zle0, zeq0, zgt0, zLe0, nI_ltI, nI_leI, nI_eq, nI_add, nI_clamp, vp_in_nI, zup_s, zup_n, upd_s, upd_n, ne_eq, not_true_eq_false, not_false_eq_true] at hc <;> omega)
    | (intro hc; exact absurd rfl hc)
    | intro hc
    | apply And.intro
    | exact Or.inl rfl
    | exact Or.inr rfl
    | (show (_ : Int32) = 0 ∨ _ = 1; simp (disch := first | omega | decide) only [z10, zcn, zkpl, zki, zki1, zk8, zk16, zo32, zlt0, zle0, zeq0, zgt0, zLe0, nI_ltI, nI_leI, nI_eq, nI_add, nI_clamp, vp_in_nI, zup_s, zup_n, upd_s, upd_n, ne_eq, not_true_eq_false, not_false_eq_true, zeq1, true_or, or_true]; done))
