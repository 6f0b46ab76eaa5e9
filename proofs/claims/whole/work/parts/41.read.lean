/-! the text as a whole, on both sides -/
def lpOK (w : Nat → Nat) (wl a : Nat) (s s' : pS) : Prop := (∀ m i, tX w wl m a → tD m s → i ≤ a → ∃ m', (∀ Q : zQ, Q (some (.int 1)) (SH, m') → ZW 79 (0, 0, 0, 0) 14 [(1, .int (nI i)), (0, .ref 9)] [] (SH, m) Q) ∧ tD m' s' ∧ cF m m') ∧ ∀ u, mX w wl u a → mD u s → u 42 21 = 1 → ∃ u', (∀ (Q : zQ) R, mL R → Q (some (.int 1)) (SH, u') → ZW 171 (0, 0, 0, 0) 30 R [] (SH, u) Q) ∧ mD u' s' ∧ mG u u'
def lpNo (w : Nat → Nat) (wl a : Nat) (s : pS) : Prop := (∀ m i, tX w wl m a → tD m s → i ≤ a → ∃ m', (∀ Q : zQ, Q (some (.int 0)) (SH, m') → ZW 79 (0, 0, 0, 0) 14 [(1, .int (nI i)), (0, .ref 9)] [] (SH, m) Q) ∧ cF m m') ∧ ∀ u, mX w wl u a → mD u s → u 42 21 = 1 → ∃ u', (∀ (Q : zQ) R, mL R → Q (some (.int 0)) (SH, u') → ZW 171 (0, 0, 0, 0) 30 R [] (SH, u) Q) ∧ mG u u'
theorem cl_fin {w : Nat → Nat} {wl i : Nat} {m : zM} {s : pS} (ho : okT w wl) (hx : tX w wl m wl) (hd : tD m s) (hi : sI wl s) (hw : i ≤ wl) {b : Int32} (hb : (b = 1 ∧ s 0 3 = 0 ∧ 0 < s 0 1) ∨ (b = 0 ∧ ¬ (s 0 3 = 0 ∧ 0 < s 0 1))) {Q : zQ} (hQ : Q (some (.int b)) (SH, m)) : ZW 79 (0, 0, 0, 0) 14 [(1, .int (nI i)), (0, .ref 9)] [] (SH, m) Q := by
  have hl := ho.1
  have i1 := hi.1
  obtain ⟨h1, h2, h3⟩ := hx
  have d1 := hd.1.1
  have d3 := hd.1.2.2
  have hev : Ev 110 [.ref 1] m (some (.int b)) m := by
    intro Q hQ
    clear hd hi h2
    generalize s 0 1 = N at *
    generalize s 0 3 = d at *
    by_cases e : d = 0
    · subst e
      by_cases e2 : N = 0
      · subst e2
        obtain rfl : b = 0 := by
          rcases hb with hb | hb
          · omega
          · exact hb.1
        refine zgo 20 [] ?_
        repeat' (first
          | (show vp_in _ _; simp (disch := first | omega | decide) only [d1, d3, zcn, zkpl, zki, zki1, zk8, zk16, zo32, zlt0, zle0, zeq0, zgt0, zLe0, nI_ltI, nI_leI, nI_eq, nI_add, nI_clamp, vp_in_nI, zup_s, zup_n, upd_s, upd_n, ne_eq, not_true_eq_false, not_false_eq_true]; done)
          | (intro hc; exfalso; simp (disch := first | omega | decide) only [d1, d3, zcn, zkpl, zki, zki1, zk8, zk16, zo32, zlt0, zle0, zeq0, zgt0, zLe0, nI_ltI, nI_leI, nI_eq, nI_add, nI_clamp, vp_in_nI, zup_s, zup_n, upd_s, upd_n, ne_eq, not_true_eq_false, not_false_eq_true] at hc <;> omega)
          | (intro hc; exact absurd rfl hc)
          | intro hc
          | apply And.intro
          | exact hQ
          | (show Q _ (SH, _); simp (disch := first | omega | decide) only [d1, d3, zcn, zkpl, zki, zki1, zk8, zk16, zo32, zlt0, zle0, zeq0, zgt0, zLe0, nI_ltI, nI_leI, nI_eq, nI_add, nI_clamp, vp_in_nI, zup_s, zup_n, upd_s, upd_n, ne_eq, not_true_eq_false, not_false_eq_true]; exact hQ)
          | exact Or.inl rfl
          | exact Or.inr rfl
          | (show (_ : Int32) = 0 ∨ _ = 1; simp (disch := first | omega | decide) only [d1, d3, zcn, zkpl, zki, zki1, zk8, zk16, zo32, zlt0, zle0, zeq0, zgt0, zLe0, nI_ltI, nI_leI, nI_eq, nI_add, nI_clamp, vp_in_nI, zup_s, zup_n, upd_s, upd_n, ne_eq, not_true_eq_false, not_false_eq_true, zeq1, true_or, or_true]; done))
      · obtain rfl : b = 1 := by
          rcases hb with hb | hb
          · exact hb.1
          · omega
        refine zgo 20 [] ?_
        repeat' (first
          | (show vp_in _ _; simp (disch := first | omega | decide) only [d1, d3, zcn, zkpl, zki, zki1, zk8, zk16, zo32, zlt0, zle0, zeq0, zgt0, zLe0, nI_ltI, nI_leI, nI_eq, nI_add, nI_clamp, vp_in_nI, zup_s, zup_n, upd_s, upd_n, ne_eq, not_true_eq_false, not_false_eq_true]; done)
          | (intro hc; exfalso; simp (disch := first | omega | decide) only [d1, d3, zcn, zkpl, zki, zki1, zk8, zk16, zo32, zlt0, zle0, zeq0, zgt0, zLe0, nI_ltI, nI_leI, nI_eq, nI_add, nI_clamp, vp_in_nI, zup_s, zup_n, upd_s, upd_n, ne_eq, not_true_eq_false, not_false_eq_true] at hc <;> omega)
          | (intro hc; exact absurd rfl hc)
          | intro hc
          | apply And.intro
          | exact hQ
          | (show Q _ (SH, _); simp (disch := first | omega | decide) only [d1, d3, zcn, zkpl, zki, zki1, zk8, zk16, zo32, zlt0, zle0, zeq0, zgt0, zLe0, nI_ltI, nI_leI, nI_eq, nI_add, nI_clamp, vp_in_nI, zup_s, zup_n, upd_s, upd_n, ne_eq, not_true_eq_false, not_false_eq_true]; exact hQ)
          | exact Or.inl rfl
          | exact Or.inr rfl
          | (show (_ : Int32) = 0 ∨ _ = 1; simp (disch := first | omega | decide) only [d1, d3, zcn, zkpl, zki, zki1, zk8, zk16, zo32, zlt0, zle0, zeq0, zgt0, zLe0, nI_ltI, nI_leI, nI_eq, nI_add, nI_clamp, vp_in_nI, zup_s, zup_n, upd_s, upd_n, ne_eq, not_true_eq_false, not_false_eq_true, zeq1, true_or, or_true]; done))
    · obtain rfl : b = 0 := by
        rcases hb with hb | hb
        · omega
        · exact hb.1
      refine zgo 20 [] ?_
      repeat' (first
        | (show vp_in _ _; simp (disch := first | omega | decide) only [d1, d3, zcn, zkpl, zki, zki1, zk8, zk16, zo32, zlt0, zle0, zeq0, zgt0, zLe0, nI_ltI, nI_leI, nI_eq, nI_add, nI_clamp, vp_in_nI, zup_s, zup_n, upd_s, upd_n, ne_eq, not_true_eq_false, not_false_eq_true]; done)
        | (intro hc; exfalso; simp (disch := first | omega | decide) only [d1, d3, zcn, zkpl, zki, zki1, zk8, zk16, zo32, zlt0, zle0, zeq0, zgt0, zLe0, nI_ltI, nI_leI, nI_eq, nI_add, nI_clamp, vp_in_nI, zup_s, zup_n, upd_s, upd_n, ne_eq, not_true_eq_false, not_false_eq_true] at hc <;> omega)
        | (intro hc; exact absurd rfl hc)
        | intro hc
        | apply And.intro
        | exact hQ
        | (show Q _ (SH, _); simp (disch := first | omega | decide) only [d1, d3, zcn, zkpl, zki, zki1, zk8, zk16, zo32, zlt0, zle0, zeq0, zgt0, zLe0, nI_ltI, nI_leI, nI_eq, nI_add, nI_clamp, vp_in_nI, zup_s, zup_n, upd_s, upd_n, ne_eq, not_true_eq_false, not_false_eq_true]; exact hQ)
        | exact Or.inl rfl
        | exact Or.inr rfl
        | (show (_ : Int32) = 0 ∨ _ = 1; simp (disch := first | omega | decide) only [d1, d3, zcn, zkpl, zki, zki1, zk8, zk16, zo32, zlt0, zle0, zeq0, zgt0, zLe0, nI_ltI, nI_leI, nI_eq, nI_add, nI_clamp, vp_in_nI, zup_s, zup_n, upd_s, upd_n, ne_eq, not_true_eq_false, not_false_eq_true, zeq1, true_or, or_true]; done))
  have hb1 : b = 0 ∨ b = 1 := hb.elim (fun g => Or.inr g.1) (fun g => Or.inl g.1)
  have f2 : ZW 79 (0, 0, 0, 0) 65 [(1, .int (nI i)), (0, .ref 9)] [.int b] (SH, m) Q := by
    rcases hb1 with rfl | rfl
    · refine zgo 20 [] ?_
      repeat' (first
        | (show vp_in _ _; simp (disch := first | omega | decide) only [z10, zcn, zkpl, zki, zki1, zk8, zk16, zo32, zlt0, zle0, zeq0, zgt0, zLe0, nI_ltI, nI_leI, nI_eq, nI_add, nI_clamp, vp_in_nI, zup_s, zup_n, upd_s, upd_n, ne_eq, not_true_eq_false, not_false_eq_true]; done)
        | (intro hc; exfalso; simp (disch := first | omega | decide) only [z10, zcn, zkpl, zki, zki1, zk8, zk16, zo32, zlt0, zle0, zeq0, zgt0, zLe0, nI_ltI, nI_leI, nI_eq, nI_add, nI_clamp, vp_in_nI, zup_s, zup_n, upd_s, upd_n, ne_eq, not_true_eq_false, not_false_eq_true] at hc <;> omega)
        | (intro hc; exact absurd rfl hc)
        | intro hc
        | apply And.intro
        | exact hQ
        | (show Q _ (SH, _); simp (disch := first | omega | decide) only [z10, zcn, zkpl, zki, zki1, zk8, zk16, zo32, zlt0, zle0, zeq0, zgt0, zLe0, nI_ltI, nI_leI, nI_eq, nI_add, nI_clamp, vp_in_nI, zup_s, zup_n, upd_s, upd_n, ne_eq, not_true_eq_false, not_false_eq_true]; exact hQ)
        | exact Or.inl rfl
        | exact Or.inr rfl
        | (show (_ : Int32) = 0 ∨ _ = 1; simp (disch := first | omega | decide) only [z10, zcn, zkpl, zki, zki1, zk8, zk16, zo32, zlt0, zle0, zeq0, zgt0, zLe0, nI_ltI, nI_leI, nI_eq, nI_add, nI_clamp, vp_in_nI, zup_s, zup_n, upd_s, upd_n, ne_eq, not_true_eq_false, not_false_eq_true, zeq1, true_or, or_true]; done))
    · refine zgo 20 [] ?_
      repeat' (first
        | (show vp_in _ _; simp (disch := first | omega | decide) only [z10, zcn, zkpl, zki, zki1, zk8, zk16, zo32, zlt0, zle0, zeq0, zgt0, zLe0, nI_ltI, nI_leI, nI_eq, nI_add, nI_clamp, vp_in_nI, zup_s, zup_n, upd_s, upd_n, ne_eq, not_true_eq_false, not_false_eq_true]; done)
        | (intro hc; exfalso; simp (disch := first | omega | decide) only [z10, zcn, zkpl, zki, zki1, zk8, zk16, zo32, zlt0, zle0, zeq0, zgt0, zLe0, nI_ltI, nI_leI, nI_eq, nI_add, nI_clamp, vp_in_nI, zup_s, zup_n, upd_s, upd_n, ne_eq, not_true_eq_false, not_false_eq_true] at hc <;> omega)
        | (intro hc; exact absurd rfl hc)
        | intro hc
        | apply And.intro
        | exact hQ
        | (show Q _ (SH, _); simp (disch := first | omega | decide) only [z10, zcn, zkpl, zki, zki1, zk8, zk16, zo32, zlt0, zle0, zeq0, zgt0, zLe0, nI_ltI, nI_leI, nI_eq, nI_add, nI_clamp, vp_in_nI, zup_s, zup_n, upd_s, upd_n, ne_eq, not_true_eq_false, not_false_eq_true]; exact hQ)
        | exact Or.inl rfl
        | exact Or.inr rfl
        | (show (_ : Int32) = 0 ∨ _ = 1; simp (disch := first | omega | decide) only [z10, zcn, zkpl, zki, zki1, zk8, zk16, zo32, zlt0, zle0, zeq0, zgt0, zLe0, nI_ltI, nI_leI, nI_eq, nI_add, nI_clamp, vp_in_nI, zup_s, zup_n, upd_s, upd_n, ne_eq, not_true_eq_false, not_false_eq_true, zeq1, true_or, or_true]; done))
  have f1 : ZW 79 (0, 0, 0, 0) 47 [(1, .int (nI i)), (0, .ref 9)] [] (SH, m) Q := by
    refine zgo 20 [] ?_
    repeat' (first
      | (exact hev.use f2)
      | (show vp_in _ _; simp (disch := first | omega | decide) only [h1, h3, zcn, zkpl, zki, zki1, zk8, zk16, zo32, zlt0, zle0, zeq0, zgt0, zLe0, nI_ltI, nI_leI, nI_eq, nI_add, nI_clamp, vp_in_nI, zup_s, zup_n, upd_s, upd_n, ne_eq, not_true_eq_false, not_false_eq_true]; done)
      | (intro hc; exfalso; simp (disch := first | omega | decide) only [h1, h3, zcn, zkpl, zki, zki1, zk8, zk16, zo32, zlt0, zle0, zeq0, zgt0, zLe0, nI_ltI, nI_leI, nI_eq, nI_add, nI_clamp, vp_in_nI, zup_s, zup_n, upd_s, upd_n, ne_eq, not_true_eq_false, not_false_eq_true] at hc <;> omega)
      | (intro hc; exact absurd rfl hc)
      | intro hc
      | apply And.intro
      | exact Or.inl rfl
      | exact Or.inr rfl
      | (show (_ : Int32) = 0 ∨ _ = 1; simp (disch := first | omega | decide) only [h1, h3, zcn, zkpl, zki, zki1, zk8, zk16, zo32, zlt0, zle0, zeq0, zgt0, zLe0, nI_ltI, nI_leI, nI_eq, nI_add, nI_clamp, vp_in_nI, zup_s, zup_n, upd_s, upd_n, ne_eq, not_true_eq_false, not_false_eq_true, zeq1, true_or, or_true]; done))
  by_cases e : i < 300
  · refine zgo 8 [] ?_
    repeat' (first
      | (exact f1)
      | (show vp_in _ _; simp (disch := first | omega | decide) only [h1, h3, zcn, zkpl, zki, zki1, zk8, zk16, zo32, zlt0, zle0, zeq0, zgt0, zLe0, nI_ltI, nI_leI, nI_eq, nI_add, nI_clamp, vp_in_nI, zup_s, zup_n, upd_s, upd_n, ne_eq, not_true_eq_false, not_false_eq_true]; done)
      | (intro hc; exfalso; simp (disch := first | omega | decide) only [h1, h3, zcn, zkpl, zki, zki1, zk8, zk16, zo32, zlt0, zle0, zeq0, zgt0, zLe0, nI_ltI, nI_leI, nI_eq, nI_add, nI_clamp, vp_in_nI, zup_s, zup_n, upd_s, upd_n, ne_eq, not_true_eq_false, not_false_eq_true] at hc <;> omega)
      | (intro hc; exact absurd rfl hc)
      | intro hc
      | apply And.intro
      | exact Or.inl rfl
      | exact Or.inr rfl
      | (show (_ : Int32) = 0 ∨ _ = 1; simp (disch := first | omega | decide) only [h1, h3, zcn, zkpl, zki, zki1, zk8, zk16, zo32, zlt0, zle0, zeq0, zgt0, zLe0, nI_ltI, nI_leI, nI_eq, nI_add, nI_clamp, vp_in_nI, zup_s, zup_n, upd_s, upd_n, ne_eq, not_true_eq_false, not_false_eq_true, zeq1, true_or, or_true]; done))
  · refine zgo 3 [] ?_
    repeat' (first
      | (exact f1)
      | (show vp_in _ _; simp (disch := first | omega | decide) only [h1, h3, zcn, zkpl, zki, zki1, zk8, zk16, zo32, zlt0, zle0, zeq0, zgt0, zLe0, nI_ltI, nI_leI, nI_eq, nI_add, nI_clamp, vp_in_nI, zup_s, zup_n, upd_s, upd_n, ne_eq, not_true_eq_false, not_false_eq_true]; done)
      | (intro hc; exfalso; simp (disch := first | omega | decide) only [h1, h3, zcn, zkpl, zki, zki1, zk8, zk16, zo32, zlt0, zle0, zeq0, zgt0, zLe0, nI_ltI, nI_leI, nI_eq, nI_add, nI_clamp, vp_in_nI, zup_s, zup_n, upd_s, upd_n, ne_eq, not_true_eq_false, not_false_eq_true] at hc <;> omega)
      | (intro hc; exact absurd rfl hc)
      | intro hc
      | apply And.intro
      | exact Or.inl rfl
      | exact Or.inr rfl
      | (show (_ : Int32) = 0 ∨ _ = 1; simp (disch := first | omega | decide) only [h1, h3, zcn, zkpl, zki, zki1, zk8, zk16, zo32, zlt0, zle0, zeq0, zgt0, zLe0, nI_ltI, nI_leI, nI_eq, nI_add, nI_clamp, vp_in_nI, zup_s, zup_n, upd_s, upd_n, ne_eq, not_true_eq_false, not_false_eq_true, zeq1, true_or, or_true]; done))
theorem cl_step {w : Nat → Nat} {wl a i : Nat} {m m' : zM} (ho : okT w wl) (hx : tX w wl m a) (ha : a < wl) (hw : i ≤ a) (he : Ev 80 [.ref 9] m (some (.int 1)) m') {Q : zQ} (W : ZW 79 (0, 0, 0, 0) 14 [(1, .int (nI (i + 1))), (0, .ref 9)] [] (SH, m') Q) : ZW 79 (0, 0, 0, 0) 14 [(1, .int (nI i)), (0, .ref 9)] [] (SH, m) Q := by
  have hl := ho.1
  obtain ⟨h1, h2, h3⟩ := hx
  have e3 : nI i + Int32.ofInt 1 = nI (i + 1) := by rw [zki, nI_add]
  rw [← e3] at W
  have f1 : ZW 79 (0, 0, 0, 0) 36 [(1, .int (nI i)), (0, .ref 9)] [.int 1] (SH, m') Q := by
    refine zgo 20 [] ?_
    repeat' (first
      | (exact W)
      | (show vp_in _ _; simp (disch := first | omega | decide) only [z10, zcn, zkpl, zki, zki1, zk8, zk16, zo32, zlt0, zle0, zeq0, zgt0, zLe0, nI_ltI, nI_leI, nI_eq, nI_add, nI_clamp, vp_in_nI, zup_s, zup_n, upd_s, upd_n, ne_eq, not_true_eq_false, not_false_eq_true]; done)
      | (intro hc; exfalso; simp (disch := first | omega | decide) only [z10, zcn, zkpl, zki, zki1, zk8, zk16, zo32, zlt0, zle0, zeq0, zgt0, zLe0, nI_ltI, nI_leI, nI_eq, nI_add, nI_clamp, vp_in_nI, zup_s, zup_n, upd_s, upd_n, ne_eq, not_true_eq_false, not_false_eq_true] at hc <;> omega)
      | (intro hc; exact absurd rfl hc)
      | intro hc
      | apply And.intro
      | exact Or.inl rfl
      | exact Or.inr rfl
      | (show (_ : Int32) = 0 ∨ _ = 1; simp (disch := first | omega | decide) only [z10, zcn, zkpl, zki, zki1, zk8, zk16, zo32, zlt0, zle0, zeq0, zgt0, zLe0, nI_ltI, nI_leI, nI_eq, nI_add, nI_clamp, vp_in_nI, zup_s, zup_n, upd_s, upd_n, ne_eq, not_true_eq_false, not_false_eq_true, zeq1, true_or, or_true]; done))
  refine zgo 20 [] ?_
  repeat' (first
    | (exact he.use f1)
    | (show vp_in _ _; simp (disch := first | omega | decide) only [h1, h3, zcn, zkpl, zki, zki1, zk8, zk16, zo32, zlt0, zle0, zeq0, zgt0, zLe0, nI_ltI, nI_leI, nI_eq, nI_add, nI_clamp, vp_in_nI, zup_s, zup_n, upd_s, upd_n, ne_eq, not_true_eq_false, not_false_eq_true]; done)
    | (intro hc; exfalso; simp (disch := first | omega | decide) only [h1, h3, zcn, zkpl, zki, zki1, zk8, zk16, zo32, zlt0, zle0, zeq0, zgt0, zLe0, nI_ltI, nI_leI, nI_eq, nI_add, nI_clamp, vp_in_nI, zup_s, zup_n, upd_s, upd_n, ne_eq, not_true_eq_false, not_false_eq_true] at hc <;> omega)
    | (intro hc; exact absurd rfl hc)
    | intro hc
    | apply And.intro
    | exact Or.inl rfl
    | exact Or.inr rfl
    | (show (_ : Int32) = 0 ∨ _ = 1; simp (disch := first | omega | decide) only [h1, h3, zcn, zkpl, zki, zki1, zk8, zk16, zo32, zlt0, zle0, zeq0, zgt0, zLe0, nI_ltI, nI_leI, nI_eq, nI_add, nI_clamp, vp_in_nI, zup_s, zup_n, upd_s, upd_n, ne_eq, not_true_eq_false, not_false_eq_true, zeq1, true_or, or_true]; done))
theorem cl_no {w : Nat → Nat} {wl a i : Nat} {m m' : zM} (ho : okT w wl) (hx : tX w wl m a) (ha : a < wl) (hw : i ≤ a) (he : Ev 80 [.ref 9] m (some (.int 0)) m') {Q : zQ} (hQ : Q (some (.int 0)) (SH, m')) : ZW 79 (0, 0, 0, 0) 14 [(1, .int (nI i)), (0, .ref 9)] [] (SH, m) Q := by
  have hl := ho.1
  obtain ⟨h1, h2, h3⟩ := hx
  have f1 : ZW 79 (0, 0, 0, 0) 36 [(1, .int (nI i)), (0, .ref 9)] [.int 0] (SH, m') Q := by
    refine zgo 20 [] ?_
    repeat' (first
      | (show vp_in _ _; simp (disch := first | omega | decide) only [z10, zcn, zkpl, zki, zki1, zk8, zk16, zo32, zlt0, zle0, zeq0, zgt0, zLe0, nI_ltI, nI_leI, nI_eq, nI_add, nI_clamp, vp_in_nI, zup_s, zup_n, upd_s, upd_n, ne_eq, not_true_eq_false, not_false_eq_true]; done)
      | (intro hc; exfalso; simp (disch := first | omega | decide) only [z10, zcn, zkpl, zki, zki1, zk8, zk16, zo32, zlt0, zle0, zeq0, zgt0, zLe0, nI_ltI, nI_leI, nI_eq, nI_add, nI_clamp, vp_in_nI, zup_s, zup_n, upd_s, upd_n, ne_eq, not_true_eq_false, not_false_eq_true] at hc <;> omega)
      | (intro hc; exact absurd rfl hc)
      | intro hc
      | apply And.intro
      | exact hQ
      | (show Q _ (SH, _); simp (disch := first | omega | decide) only [z10, zcn, zkpl, zki, zki1, zk8, zk16, zo32, zlt0, zle0, zeq0, zgt0, zLe0, nI_ltI, nI_leI, nI_eq, nI_add, nI_clamp, vp_in_nI, zup_s, zup_n, upd_s, upd_n, ne_eq, not_true_eq_false, not_false_eq_true]; exact hQ)
      | exact Or.inl rfl
      | exact Or.inr rfl
      | (show (_ : Int32) = 0 ∨ _ = 1; simp (disch := first | omega | decide) only [z10, zcn, zkpl, zki, zki1, zk8, zk16, zo32, zlt0, zle0, zeq0, zgt0, zLe0, nI_ltI, nI_leI, nI_eq, nI_add, nI_clamp, vp_in_nI, zup_s, zup_n, upd_s, upd_n, ne_eq, not_true_eq_false, not_false_eq_true, zeq1, true_or, or_true]; done))
  refine zgo 20 [] ?_
  repeat' (first
    | (exact he.use f1)
    | (show vp_in _ _; simp (disch := first | omega | decide) only [h1, h3, zcn, zkpl, zki, zki1, zk8, zk16, zo32, zlt0, zle0, zeq0, zgt0, zLe0, nI_ltI, nI_leI, nI_eq, nI_add, nI_clamp, vp_in_nI, zup_s, zup_n, upd_s, upd_n, ne_eq, not_true_eq_false, not_false_eq_true]; done)
    | (intro hc; exfalso; simp (disch := first | omega | decide) only [h1, h3, zcn, zkpl, zki, zki1, zk8, zk16, zo32, zlt0, zle0, zeq0, zgt0, zLe0, nI_ltI, nI_leI, nI_eq, nI_add, nI_clamp, vp_in_nI, zup_s, zup_n, upd_s, upd_n, ne_eq, not_true_eq_false, not_false_eq_true] at hc <;> omega)
    | (intro hc; exact absurd rfl hc)
    | intro hc
    | apply And.intro
    | exact Or.inl rfl
    | exact Or.inr rfl
    | (show (_ : Int32) = 0 ∨ _ = 1; simp (disch := first | omega | decide) only [h1, h3, zcn, zkpl, zki, zki1, zk8, zk16, zo32, zlt0, zle0, zeq0, zgt0, zLe0, nI_ltI, nI_leI, nI_eq, nI_add, nI_clamp, vp_in_nI, zup_s, zup_n, upd_s, upd_n, ne_eq, not_true_eq_false, not_false_eq_true, zeq1, true_or, or_true]; done))
theorem lp_all {w : Nat → Nat} {wl : Nat} (ho : okT w wl) : ∀ (n a : Nat) (s : pS), a + n = wl → sI a s → (∃ s', sI wl s' ∧ s' 0 3 = 0 ∧ 0 < s' 0 1 ∧ lpOK w wl a s s') ∨ lpNo w wl a s := by
  have hl := ho.1
  intro n
  induction n using Nat.strongRecOn with
  | ind n ih =>
    intro a s han hi
    rcases Nat.eq_zero_or_pos n with rfl | hn
    · obtain rfl : a = wl := by omega
      have i1 := hi.1
      by_cases e : s 0 3 = 0 ∧ 0 < s 0 1
      · refine Or.inl ⟨s, hi, e.1, e.2, fun m i hx hd hia => ⟨m, fun Q hQ => cl_fin ho hx hd hi hia (Or.inl ⟨rfl, e⟩) hQ, hd, fun _ _ => rfl⟩, fun u hx hd hf => ⟨u, fun Q R hR hQ => mi_fin ho hx hd i1.2.2 hf (Nat.le_refl _) (by omega) (Or.inl ⟨rfl, e⟩) hR hQ, hd, mG_r u⟩⟩
      · refine Or.inr ⟨fun m i hx hd hia => ⟨m, fun Q hQ => cl_fin ho hx hd hi hia (Or.inr ⟨rfl, e⟩) hQ, fun _ _ => rfl⟩, fun u hx hd hf => ⟨u, fun Q R hR hQ => mi_fin ho hx hd i1.2.2 hf (Nat.le_refl _) (by omega) (Or.inr ⟨rfl, e⟩) hR hQ, mG_r u⟩⟩
    · have ha : a < wl := by omega
      rcases st_all ho hi ha with ⟨a', s', g1, g2, g3, g4, g5⟩ | ⟨g4, g5⟩
      · rcases ih (wl - a') (by omega) a' s' (by omega) g3 with ⟨s'', j1, j2, j3, j4, j5⟩ | ⟨j4, j5⟩
        · refine Or.inl ⟨s'', j1, j2, j3, fun m i hx hd hia => ?_, fun u hx hd hf => ?_⟩
          · obtain ⟨m1, x1, x2, x3, x4⟩ := g4 m hx hd
            obtain ⟨m2, y1, y2, y3⟩ := j4 m1 (i + 1) x2 x3 (by omega)
            exact ⟨m2, fun Q hQ => cl_step ho hx ha hia x1 (y1 Q hQ), y2, x4.tr y3⟩
          · obtain ⟨u1, x1, x2, x3, x4, x5⟩ := g5 u hx hd hf
            obtain ⟨u2, y1, y2, y3⟩ := j5 u1 x2 x3 x4
            exact ⟨u2, fun Q R hR hQ => x1 Q R hR (fun R hR => y1 Q R hR hQ), y2, x5.tr y3⟩
        · refine Or.inr ⟨fun m i hx hd hia => ?_, fun u hx hd hf => ?_⟩
          · obtain ⟨m1, x1, x2, x3, x4⟩ := g4 m hx hd
            obtain ⟨m2, y1, y3⟩ := j4 m1 (i + 1) x2 x3 (by omega)
            exact ⟨m2, fun Q hQ => cl_step ho hx ha hia x1 (y1 Q hQ), x4.tr y3⟩
          · obtain ⟨u1, x1, x2, x3, x4, x5⟩ := g5 u hx hd hf
            obtain ⟨u2, y1, y3⟩ := j5 u1 x2 x3 x4
            exact ⟨u2, fun Q R hR hQ => x1 Q R hR (fun R hR => y1 Q R hR hQ), x5.tr y3⟩
      · refine Or.inr ⟨fun m i hx hd hia => ?_, fun u hx hd hf => ?_⟩
        · obtain ⟨m1, x1, x4⟩ := g4 m hx hd
          exact ⟨m1, fun Q hQ => cl_no ho hx ha hia x1 hQ, x4⟩
        · obtain ⟨u1, x1, x5⟩ := g5 u hx hd hf
          exact ⟨u1, fun Q R hR hQ => x1 Q R hR hQ, x5⟩
def s0 : pS := fun _ _ => 0
theorem s0_I : sI 0 s0 := ⟨⟨Nat.le_refl _, Nat.le_refl _, by decide⟩, fun i hi => absurd hi (Nat.not_lt_zero i), fun j hj => absurd hj (Nat.not_lt_zero j), fun j hj => absurd hj (Nat.not_lt_zero j), fun _ => rfl, fun i _ hi => absurd hi (Nat.not_lt_zero i)⟩
def rC (m : zM) : zM := zup (zup (zup (zup m 9 3 (nI 0)) 1 5 (nI 0)) 1 7 (nI 0)) 1 9 (nI 0)
theorem aR_0 {f : Nat → Int32} {g : Nat → Nat} : aR f g 0 := fun j hj => absurd hj (Nat.not_lt_zero j)
theorem rC_D (m : zM) : tD (rC m) s0 := ⟨⟨rfl, rfl, rfl⟩, ⟨aR_0, aR_0, aR_0, aR_0, aR_0⟩, aR_0, aR_0⟩
theorem rC_go {m : zM} {Q : zQ} (W : ZW 79 (0, 0, 0, 0) 14 [(1, .int (nI 0)), (0, .ref 9)] [] (SH, rC m) Q) : ZM 79 0 0 [.ref 9] (SH, m) Q := by
  refine zgo 20 [108] ?_
  exact W
def rM (u : zM) : zM := zup (zup (zup (zup (zup (zup u 42 14 (nI 0)) 42 16 (nI 0)) 42 18 (nI 0)) 42 20 (nI 0)) 42 19 (nI 0)) 42 21 (nI 1)
theorem rM_D (u : zM) : mD (rM u) s0 := ⟨⟨rfl, rfl, rfl, rfl⟩, ⟨aR_0, aR_0, aR_0, aR_0⟩, aR_0, aR_0, fun j _ hj => absurd hj (Nat.not_lt_zero j), fun h => absurd h (Nat.not_lt_zero 0), fun j hj => absurd hj (Nat.not_lt_zero j)⟩
theorem rM_go {u : zM} {Q : zQ} (W : ZW 171 (0, 0, 0, 0) 30 [(0, .ref 42)] [] (SH, rM u) Q) : ZM 171 0 0 [.ref 42] (SH, u) Q := by
  refine zgo 30 [] ?_
  repeat' (first
    | (exact W)
    | (show vp_in _ _; simp (disch := first | omega | decide) only [zcn, zkpl, zki, zki1, zk8, zk16, zo32, zlt0, zle0, zeq0, zgt0, zLe0, nI_ltI, nI_leI, nI_eq, nI_add, nI_clamp, vp_in_nI, zup_s, zup_n, upd_s, upd_n, ne_eq, not_true_eq_false, not_false_eq_true]; done)
    | (intro hc; exfalso; simp (disch := first | omega | decide) only [zcn, zkpl, zki, zki1, zk8, zk16, zo32, zlt0, zle0, zeq0, zgt0, zLe0, nI_ltI, nI_leI, nI_eq, nI_add, nI_clamp, vp_in_nI, zup_s, zup_n, upd_s, upd_n, ne_eq, not_true_eq_false, not_false_eq_true] at hc <;> omega)
    | (intro hc; exact absurd rfl hc)
    | intro hc
    | apply And.intro
    | exact Or.inl rfl
    | exact Or.inr rfl
    | (show (_ : Int32) = 0 ∨ _ = 1; simp (disch := first | omega | decide) only [zcn, zkpl, zki, zki1, zk8, zk16, zo32, zlt0, zle0, zeq0, zgt0, zLe0, nI_ltI, nI_leI, nI_eq, nI_add, nI_clamp, vp_in_nI, zup_s, zup_n, upd_s, upd_n, ne_eq, not_true_eq_false, not_false_eq_true, zeq1, true_or, or_true]; done))
/-- reading the text: both refuse it, or both have the same document -/
theorem rd_doc {w : Nat → Nat} {wl : Nat} (ho : okT w wl) : (∃ s, sI wl s ∧ s 0 3 = 0 ∧ 0 < s 0 1 ∧ (∀ m, m 9 2 = nI wl → aR (m 10) w wl → ∃ m', Ev 79 [.ref 9] m (some (.int 1)) m' ∧ tD m' s ∧ cF m m') ∧ ∀ u, u 42 7 = nI wl → aR (u 43) w wl → ∃ u', Ev 171 [.ref 42] u (some (.int 1)) u' ∧ mD u' s ∧ mG u u') ∨ ((∀ m, m 9 2 = nI wl → aR (m 10) w wl → ∃ m', Ev 79 [.ref 9] m (some (.int 0)) m' ∧ cF m m') ∧ ∀ u, u 42 7 = nI wl → aR (u 43) w wl → ∃ u', Ev 171 [.ref 42] u (some (.int 0)) u' ∧ mG u u') := by
  have cX : ∀ m, m 9 2 = nI wl → aR (m 10) w wl → tX w wl (rC m) 0 := fun m g1 g2 => ⟨g1, g2, rfl⟩
  have cG : ∀ m, cF m (rC m) := fun m a ha => by
    unfold rC
    rw [zup_n _ (by omega), zup_n _ (by omega), zup_n _ (by omega), zup_n _ (by omega)]
  have uX : ∀ u, u 42 7 = nI wl → aR (u 43) w wl → mX w wl (rM u) 0 := fun u g1 g2 => ⟨g1, g2, rfl⟩
  have uG : ∀ u, mG u (rM u) := fun u => (mG_f _ _ (by decide)).tr ((mG_f _ _ (by decide)).tr ((mG_f _ _ (by decide)).tr ((mG_f _ _ (by decide)).tr ((mG_f _ _ (by decide)).tr (mG_f _ _ (by decide))))))
  rcases lp_all ho wl 0 s0 (by omega) s0_I with ⟨s, g1, g2, g3, g4, g5⟩ | ⟨g4, g5⟩
  · refine Or.inl ⟨s, g1, g2, g3, fun m x1 x2 => ?_, fun u x1 x2 => ?_⟩
    · obtain ⟨m', y1, y2, y3⟩ := g4 (rC m) 0 (cX m x1 x2) (rC_D m) (by omega)
      exact ⟨m', fun Q hQ => rC_go (y1 Q hQ), y2, (cG m).tr y3⟩
    · obtain ⟨u', y1, y2, y3⟩ := g5 (rM u) (uX u x1 x2) (rM_D u) rfl
      exact ⟨u', fun Q hQ => rM_go (y1 Q _ (Or.inl rfl) hQ), y2, (uG u).tr y3⟩
  · refine Or.inr ⟨fun m x1 x2 => ?_, fun u x1 x2 => ?_⟩
    · obtain ⟨m', y1, y3⟩ := g4 (rC m) 0 (cX m x1 x2) (rC_D m) (by omega)
      exact ⟨m', fun Q hQ => rC_go (y1 Q hQ), (cG m).tr y3⟩
    · obtain ⟨u', y1, y3⟩ := g5 (rM u) (uX u x1 x2) (rM_D u) rfl
      exact ⟨u', fun Q hQ => rM_go (y1 Q _ (Or.inl rfl) hQ), (uG u).tr y3⟩
