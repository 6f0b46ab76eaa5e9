/-! the canonical form, in the class -/
def apd (A F f : Nat) : List Nat → zM → Nat → zM
  | [], m, _ => m
  | x :: xs, m, c => apd A F f xs (zup (zup m A c (nI x)) F f (nI (c + 1))) (c + 1)
theorem apd_app {A F f : Nat} : ∀ (xs ys : List Nat) (m : zM) (c : Nat), apd A F f (xs ++ ys) m c = apd A F f ys (apd A F f xs m c) (c + xs.length) := by
  intro xs
  induction xs with
  | nil => intro ys m c; rfl
  | cons x xs ih =>
    intro ys m c
    rw [List.cons_append, apd, apd, ih, List.length_cons, show c + 1 + xs.length = c + (xs.length + 1) by omega]
theorem apd_cnt {A F f : Nat} : ∀ (xs : List Nat) (m : zM) (c : Nat), m F f = nI c → apd A F f xs m c F f = nI (c + xs.length) := by
  intro xs
  induction xs with
  | nil => intro m c h; exact h
  | cons x xs ih =>
    intro m c h
    rw [apd, ih _ _ (by rw [zup_s, upd_s]), List.length_cons, show c + 1 + xs.length = c + (xs.length + 1) by omega]
theorem apd_far {A F f a : Nat} (h1 : a ≠ A) (h2 : a ≠ F) : ∀ (xs : List Nat) (m : zM) (c : Nat), apd A F f xs m c a = m a := by
  intro xs
  induction xs with
  | nil => intro m c; rfl
  | cons x xs ih =>
    intro m c
    rw [apd, ih, zup_n _ h2, zup_n _ h1]
theorem apd_fld {A F f g : Nat} (hA : F ≠ A) (h : g ≠ f) : ∀ (xs : List Nat) (m : zM) (c : Nat), apd A F f xs m c F g = m F g := by
  intro xs
  induction xs with
  | nil => intro m c; rfl
  | cons x xs ih =>
    intro m c
    rw [apd, ih, zup_s, upd_n _ h, zup_n _ hA]
theorem apd_old {A F f : Nat} (hA : A ≠ F) : ∀ (xs : List Nat) (m : zM) (c j : Nat), j < c → apd A F f xs m c A j = m A j := by
  intro xs
  induction xs with
  | nil => intro m c j _; rfl
  | cons x xs ih =>
    intro m c j h
    rw [apd, ih _ _ _ (by omega), zup_n _ hA, zup_s, upd_n _ (by omega)]
theorem apd_new {A F f : Nat} (hA : A ≠ F) : ∀ (xs : List Nat) (m : zM) (c j : Nat), j < xs.length → apd A F f xs m c A (c + j) = nI (xs.getD j 0) := by
  intro xs
  induction xs with
  | nil => intro m c j h; exact absurd h (Nat.not_lt_zero j)
  | cons x xs ih =>
    intro m c j h
    rw [apd]
    rcases Nat.eq_zero_or_pos j with rfl | h0
    · show apd A F f xs (zup (zup m A c (nI x)) F f (nI (c + 1))) (c + 1) A c = nI x
      rw [apd_old hA _ _ _ _ (by omega), zup_n _ hA, zup_s, upd_s]
    · rw [List.length_cons] at h
      rw [show c + j = c + 1 + (j - 1) by omega, ih _ _ _ (by omega)]
      obtain ⟨i, rfl⟩ : ∃ i, j = i + 1 := ⟨j - 1, by omega⟩
      rfl
def cA (m : zM) (c : Nat) (xs : List Nat) : zM := apd 16 14 4 xs m c
theorem cA_cnt {m : zM} {c : Nat} (h : m 14 4 = nI c) (xs : List Nat) : cA m c xs 14 4 = nI (c + xs.length) := apd_cnt xs m c h
theorem ca1 {m : zM} {c : Nat} (x : Nat) (h : m 14 4 = nI c) (hc' : c < 258) {y : Int32} (hy : y = nI x) : Ev 59 [.ref 14, .int y] m none (cA m c [x]) := by
  subst hy
  exact ev_add (nI x) h hc'
theorem ev_tB {m : zM} {c l : Nat} (h : m 14 4 = nI c) (hc' : c + 3 ≤ 258) : Ev 12 [.ref 17, .int (nI l)] m none (cA m c [60, l, 62]) := by
  intro Q hQ
  have s1 := ca1 60 h (by omega) (y := (Int8.ofInt 60).toInt32) (by decide)
  have h1 := cA_cnt h [60]
  have s2 := ca1 l h1 (show c + 1 < 258 by omega) (y := nI l) rfl
  have h2 := cA_cnt h1 [l]
  have s3 := ca1 62 h2 (show c + 1 + 1 < 258 by omega) (y := (Int8.ofInt 62).toInt32) (by decide)
  have f26 : ZW 12 (0, 0, 0, 0) 26 [(0, .ref 17), (1, .int (nI l))] [] (SH, cA (cA (cA m c [60]) (c + 1) [l]) (c + 1 + 1) [62]) Q := by
    refine zgo 2 [] ?_
    exact hQ
  have f17 : ZW 12 (0, 0, 0, 0) 17 [(0, .ref 17), (1, .int (nI l))] [] (SH, cA (cA m c [60]) (c + 1) [l]) Q := by
    refine zgo 5 [] ?_
    repeat' (first
      | (exact s3.use f26)
      | (show vp_in _ _; simp (disch := first | omega | decide) only [zcn, zkpl, zki, zki1, zk8, zk16, zo32, zlt0, zle0, zeq0, zgt0, zLe0, nI_ltI, nI_leI, nI_eq, nI_add, nI_clamp, vp_in_nI, zup_s, zup_n, upd_s, upd_n, ne_eq, not_true_eq_false, not_false_eq_true]; done)
      | (intro hc; exfalso; simp (disch := first | omega | decide) only [zcn, zkpl, zki, zki1, zk8, zk16, zo32, zlt0, zle0, zeq0, zgt0, zLe0, nI_ltI, nI_leI, nI_eq, nI_add, nI_clamp, vp_in_nI, zup_s, zup_n, upd_s, upd_n, ne_eq, not_true_eq_false, not_false_eq_true] at hc <;> omega)
      | (intro hc; exact absurd rfl hc)
      | intro hc
      | apply And.intro
      | exact Or.inl rfl
      | exact Or.inr rfl
      | (show (_ : Int32) = 0 ∨ _ = 1; simp (disch := first | omega | decide) only [zcn, zkpl, zki, zki1, zk8, zk16, zo32, zlt0, zle0, zeq0, zgt0, zLe0, nI_ltI, nI_leI, nI_eq, nI_add, nI_clamp, vp_in_nI, zup_s, zup_n, upd_s, upd_n, ne_eq, not_true_eq_false, not_false_eq_true, zeq1, true_or, or_true]; done))
  have f9 : ZW 12 (0, 0, 0, 0) 9 [(0, .ref 17), (1, .int (nI l))] [] (SH, cA m c [60]) Q := by
    refine zgo 5 [] ?_
    repeat' (first
      | (exact s2.use f17)
      | (show vp_in _ _; simp (disch := first | omega | decide) only [zcn, zkpl, zki, zki1, zk8, zk16, zo32, zlt0, zle0, zeq0, zgt0, zLe0, nI_ltI, nI_leI, nI_eq, nI_add, nI_clamp, vp_in_nI, zup_s, zup_n, upd_s, upd_n, ne_eq, not_true_eq_false, not_false_eq_true]; done)
      | (intro hc; exfalso; simp (disch := first | omega | decide) only [zcn, zkpl, zki, zki1, zk8, zk16, zo32, zlt0, zle0, zeq0, zgt0, zLe0, nI_ltI, nI_leI, nI_eq, nI_add, nI_clamp, vp_in_nI, zup_s, zup_n, upd_s, upd_n, ne_eq, not_true_eq_false, not_false_eq_true] at hc <;> omega)
      | (intro hc; exact absurd rfl hc)
      | intro hc
      | apply And.intro
      | exact Or.inl rfl
      | exact Or.inr rfl
      | (show (_ : Int32) = 0 ∨ _ = 1; simp (disch := first | omega | decide) only [zcn, zkpl, zki, zki1, zk8, zk16, zo32, zlt0, zle0, zeq0, zgt0, zLe0, nI_ltI, nI_leI, nI_eq, nI_add, nI_clamp, vp_in_nI, zup_s, zup_n, upd_s, upd_n, ne_eq, not_true_eq_false, not_false_eq_true, zeq1, true_or, or_true]; done))
  refine zgo 5 [] ?_
  repeat' (first
    | (exact s1.use f9)
    | (show vp_in _ _; simp (disch := first | omega | decide) only [zcn, zkpl, zki, zki1, zk8, zk16, zo32, zlt0, zle0, zeq0, zgt0, zLe0, nI_ltI, nI_leI, nI_eq, nI_add, nI_clamp, vp_in_nI, zup_s, zup_n, upd_s, upd_n, ne_eq, not_true_eq_false, not_false_eq_true]; done)
    | (intro hc; exfalso; simp (disch := first | omega | decide) only [zcn, zkpl, zki, zki1, zk8, zk16, zo32, zlt0, zle0, zeq0, zgt0, zLe0, nI_ltI, nI_leI, nI_eq, nI_add, nI_clamp, vp_in_nI, zup_s, zup_n, upd_s, upd_n, ne_eq, not_true_eq_false, not_false_eq_true] at hc <;> omega)
    | (intro hc; exact absurd rfl hc)
    | intro hc
    | apply And.intro
    | exact Or.inl rfl
    | exact Or.inr rfl
    | (show (_ : Int32) = 0 ∨ _ = 1; simp (disch := first | omega | decide) only [zcn, zkpl, zki, zki1, zk8, zk16, zo32, zlt0, zle0, zeq0, zgt0, zLe0, nI_ltI, nI_leI, nI_eq, nI_add, nI_clamp, vp_in_nI, zup_s, zup_n, upd_s, upd_n, ne_eq, not_true_eq_false, not_false_eq_true, zeq1, true_or, or_true]; done))
theorem ev_tE {m : zM} {c l : Nat} (h : m 14 4 = nI c) (hc' : c + 4 ≤ 258) : Ev 13 [.ref 17, .int (nI l)] m none (cA m c [60, 47, l, 62]) := by
  intro Q hQ
  have s1 := ca1 60 h (by omega) (y := (Int8.ofInt 60).toInt32) (by decide)
  have h1 := cA_cnt h [60]
  have s2 := ca1 47 h1 (show c + 1 < 258 by omega) (y := (Int8.ofInt 47).toInt32) (by decide)
  have h2 := cA_cnt h1 [47]
  have s3 := ca1 l h2 (show c + 1 + 1 < 258 by omega) (y := nI l) rfl
  have h3 := cA_cnt h2 [l]
  have s4 := ca1 62 h3 (show c + 1 + 1 + 1 < 258 by omega) (y := (Int8.ofInt 62).toInt32) (by decide)
  have f35 : ZW 13 (0, 0, 0, 0) 35 [(0, .ref 17), (1, .int (nI l))] [] (SH, cA (cA (cA (cA m c [60]) (c + 1) [47]) (c + 1 + 1) [l]) (c + 1 + 1 + 1) [62]) Q := by
    refine zgo 2 [] ?_
    exact hQ
  have f26 : ZW 13 (0, 0, 0, 0) 26 [(0, .ref 17), (1, .int (nI l))] [] (SH, cA (cA (cA m c [60]) (c + 1) [47]) (c + 1 + 1) [l]) Q := by
    refine zgo 5 [] ?_
    repeat' (first
      | (exact s4.use f35)
      | (show vp_in _ _; simp (disch := first | omega | decide) only [zcn, zkpl, zki, zki1, zk8, zk16, zo32, zlt0, zle0, zeq0, zgt0, zLe0, nI_ltI, nI_leI, nI_eq, nI_add, nI_clamp, vp_in_nI, zup_s, zup_n, upd_s, upd_n, ne_eq, not_true_eq_false, not_false_eq_true]; done)
      | (intro hc; exfalso; simp (disch := first | omega | decide) only [zcn, zkpl, zki, zki1, zk8, zk16, zo32, zlt0, zle0, zeq0, zgt0, zLe0, nI_ltI, nI_leI, nI_eq, nI_add, nI_clamp, vp_in_nI, zup_s, zup_n, upd_s, upd_n, ne_eq, not_true_eq_false, not_false_eq_true] at hc <;> omega)
      | (intro hc; exact absurd rfl hc)
      | intro hc
      | apply And.intro
      | exact Or.inl rfl
      | exact Or.inr rfl
      | (show (_ : Int32) = 0 ∨ _ = 1; simp (disch := first | omega | decide) only [zcn, zkpl, zki, zki1, zk8, zk16, zo32, zlt0, zle0, zeq0, zgt0, zLe0, nI_ltI, nI_leI, nI_eq, nI_add, nI_clamp, vp_in_nI, zup_s, zup_n, upd_s, upd_n, ne_eq, not_true_eq_false, not_false_eq_true, zeq1, true_or, or_true]; done))
  have f18 : ZW 13 (0, 0, 0, 0) 18 [(0, .ref 17), (1, .int (nI l))] [] (SH, cA (cA m c [60]) (c + 1) [47]) Q := by
    refine zgo 5 [] ?_
    repeat' (first
      | (exact s3.use f26)
      | (show vp_in _ _; simp (disch := first | omega | decide) only [zcn, zkpl, zki, zki1, zk8, zk16, zo32, zlt0, zle0, zeq0, zgt0, zLe0, nI_ltI, nI_leI, nI_eq, nI_add, nI_clamp, vp_in_nI, zup_s, zup_n, upd_s, upd_n, ne_eq, not_true_eq_false, not_false_eq_true]; done)
      | (intro hc; exfalso; simp (disch := first | omega | decide) only [zcn, zkpl, zki, zki1, zk8, zk16, zo32, zlt0, zle0, zeq0, zgt0, zLe0, nI_ltI, nI_leI, nI_eq, nI_add, nI_clamp, vp_in_nI, zup_s, zup_n, upd_s, upd_n, ne_eq, not_true_eq_false, not_false_eq_true] at hc <;> omega)
      | (intro hc; exact absurd rfl hc)
      | intro hc
      | apply And.intro
      | exact Or.inl rfl
      | exact Or.inr rfl
      | (show (_ : Int32) = 0 ∨ _ = 1; simp (disch := first | omega | decide) only [zcn, zkpl, zki, zki1, zk8, zk16, zo32, zlt0, zle0, zeq0, zgt0, zLe0, nI_ltI, nI_leI, nI_eq, nI_add, nI_clamp, vp_in_nI, zup_s, zup_n, upd_s, upd_n, ne_eq, not_true_eq_false, not_false_eq_true, zeq1, true_or, or_true]; done))
  have f9 : ZW 13 (0, 0, 0, 0) 9 [(0, .ref 17), (1, .int (nI l))] [] (SH, cA m c [60]) Q := by
    refine zgo 5 [] ?_
    repeat' (first
      | (exact s2.use f18)
      | (show vp_in _ _; simp (disch := first | omega | decide) only [zcn, zkpl, zki, zki1, zk8, zk16, zo32, zlt0, zle0, zeq0, zgt0, zLe0, nI_ltI, nI_leI, nI_eq, nI_add, nI_clamp, vp_in_nI, zup_s, zup_n, upd_s, upd_n, ne_eq, not_true_eq_false, not_false_eq_true]; done)
      | (intro hc; exfalso; simp (disch := first | omega | decide) only [zcn, zkpl, zki, zki1, zk8, zk16, zo32, zlt0, zle0, zeq0, zgt0, zLe0, nI_ltI, nI_leI, nI_eq, nI_add, nI_clamp, vp_in_nI, zup_s, zup_n, upd_s, upd_n, ne_eq, not_true_eq_false, not_false_eq_true] at hc <;> omega)
      | (intro hc; exact absurd rfl hc)
      | intro hc
      | apply And.intro
      | exact Or.inl rfl
      | exact Or.inr rfl
      | (show (_ : Int32) = 0 ∨ _ = 1; simp (disch := first | omega | decide) only [zcn, zkpl, zki, zki1, zk8, zk16, zo32, zlt0, zle0, zeq0, zgt0, zLe0, nI_ltI, nI_leI, nI_eq, nI_add, nI_clamp, vp_in_nI, zup_s, zup_n, upd_s, upd_n, ne_eq, not_true_eq_false, not_false_eq_true, zeq1, true_or, or_true]; done))
  refine zgo 5 [] ?_
  repeat' (first
    | (exact s1.use f9)
    | (show vp_in _ _; simp (disch := first | omega | decide) only [zcn, zkpl, zki, zki1, zk8, zk16, zo32, zlt0, zle0, zeq0, zgt0, zLe0, nI_ltI, nI_leI, nI_eq, nI_add, nI_clamp, vp_in_nI, zup_s, zup_n, upd_s, upd_n, ne_eq, not_true_eq_false, not_false_eq_true]; done)
    | (intro hc; exfalso; simp (disch := first | omega | decide) only [zcn, zkpl, zki, zki1, zk8, zk16, zo32, zlt0, zle0, zeq0, zgt0, zLe0, nI_ltI, nI_leI, nI_eq, nI_add, nI_clamp, vp_in_nI, zup_s, zup_n, upd_s, upd_n, ne_eq, not_true_eq_false, not_false_eq_true] at hc <;> omega)
    | (intro hc; exact absurd rfl hc)
    | intro hc
    | apply And.intro
    | exact Or.inl rfl
    | exact Or.inr rfl
    | (show (_ : Int32) = 0 ∨ _ = 1; simp (disch := first | omega | decide) only [zcn, zkpl, zki, zki1, zk8, zk16, zo32, zlt0, zle0, zeq0, zgt0, zLe0, nI_ltI, nI_leI, nI_eq, nI_add, nI_clamp, vp_in_nI, zup_s, zup_n, upd_s, upd_n, ne_eq, not_true_eq_false, not_false_eq_true, zeq1, true_or, or_true]; done))
def two (v : Nat) : List Nat := [48 + v / 10, 48 + v % 10]
theorem ev_two {m : zM} {c v : Nat} (h : m 14 4 = nI c) (hc' : c + 2 ≤ 258) (hv : v ≤ 99) : Ev 17 [.ref 17, .int (nI v)] m none (cA m c (two v)) := by
  intro Q hQ
  have d1 : nI v / nI 10 = nI (v / 10) := pk_div (by omega) (by decide) (by decide)
  have d2 : nI v - nI v / nI 10 * nI 10 = nI (v % 10) := pk_rem (by omega) (by decide) (by decide)
  have z10' : ¬ (Int8.ofInt 10).toInt32 = 0 := by decide
  have s1 := ca1 (48 + v / 10) h (by omega) (y := (Int8.ofInt 48).toInt32 + nI v / (Int8.ofInt 10).toInt32) (by rw [show (Int8.ofInt 48).toInt32 = nI 48 by decide, show (Int8.ofInt 10).toInt32 = nI 10 by decide, d1, nI_add])
  have h1 := cA_cnt h [48 + v / 10]
  have s2 := ca1 (48 + v % 10) h1 (show c + 1 < 258 by omega) (y := (Int8.ofInt 48).toInt32 + (nI v - nI v / (Int8.ofInt 10).toInt32 * (Int8.ofInt 10).toInt32)) (by rw [show (Int8.ofInt 48).toInt32 = nI 48 by decide, show (Int8.ofInt 10).toInt32 = nI 10 by decide, d2, nI_add])
  have f28 : ZW 17 (0, 0, 0, 0) 28 [(0, .ref 17), (1, .int (nI v))] [] (SH, cA (cA m c [48 + v / 10]) (c + 1) [48 + v % 10]) Q := by
    refine zgo 2 [] ?_
    exact hQ
  have f14 : ZW 17 (0, 0, 0, 0) 14 [(0, .ref 17), (1, .int (nI v))] [] (SH, cA m c [48 + v / 10]) Q := by
    refine zgo 10 [] ?_
    refine ⟨z10', ?_⟩
    repeat' (first
      | (exact s2.use f28)
      | (show vp_in _ _; simp (disch := first | omega | decide) only [zcn, zkpl, zki, zki1, zk8, zk16, zo32, zlt0, zle0, zeq0, zgt0, zLe0, nI_ltI, nI_leI, nI_eq, nI_add, nI_clamp, vp_in_nI, zup_s, zup_n, upd_s, upd_n, ne_eq, not_true_eq_false, not_false_eq_true]; done)
      | (intro hc; exfalso; simp (disch := first | omega | decide) only [zcn, zkpl, zki, zki1, zk8, zk16, zo32, zlt0, zle0, zeq0, zgt0, zLe0, nI_ltI, nI_leI, nI_eq, nI_add, nI_clamp, vp_in_nI, zup_s, zup_n, upd_s, upd_n, ne_eq, not_true_eq_false, not_false_eq_true] at hc <;> omega)
      | (intro hc; exact absurd rfl hc)
      | intro hc
      | apply And.intro
      | exact Or.inl rfl
      | exact Or.inr rfl
      | (show (_ : Int32) = 0 ∨ _ = 1; simp (disch := first | omega | decide) only [zcn, zkpl, zki, zki1, zk8, zk16, zo32, zlt0, zle0, zeq0, zgt0, zLe0, nI_ltI, nI_leI, nI_eq, nI_add, nI_clamp, vp_in_nI, zup_s, zup_n, upd_s, upd_n, ne_eq, not_true_eq_false, not_false_eq_true, zeq1, true_or, or_true]; done))
  refine zgo 10 [] ?_
  refine ⟨z10', ?_⟩
  repeat' (first
    | (exact s1.use f14)
    | (show vp_in _ _; simp (disch := first | omega | decide) only [zcn, zkpl, zki, zki1, zk8, zk16, zo32, zlt0, zle0, zeq0, zgt0, zLe0, nI_ltI, nI_leI, nI_eq, nI_add, nI_clamp, vp_in_nI, zup_s, zup_n, upd_s, upd_n, ne_eq, not_true_eq_false, not_false_eq_true]; done)
    | (intro hc; exfalso; simp (disch := first | omega | decide) only [zcn, zkpl, zki, zki1, zk8, zk16, zo32, zlt0, zle0, zeq0, zgt0, zLe0, nI_ltI, nI_leI, nI_eq, nI_add, nI_clamp, vp_in_nI, zup_s, zup_n, upd_s, upd_n, ne_eq, not_true_eq_false, not_false_eq_true] at hc <;> omega)
    | (intro hc; exact absurd rfl hc)
    | intro hc
    | apply And.intro
    | exact Or.inl rfl
    | exact Or.inr rfl
    | (show (_ : Int32) = 0 ∨ _ = 1; simp (disch := first | omega | decide) only [zcn, zkpl, zki, zki1, zk8, zk16, zo32, zlt0, zle0, zeq0, zgt0, zLe0, nI_ltI, nI_leI, nI_eq, nI_add, nI_clamp, vp_in_nI, zup_s, zup_n, upd_s, upd_n, ne_eq, not_true_eq_false, not_false_eq_true, zeq1, true_or, or_true]; done))
/-- the digits of a number, from place i on -/
def nda (v : Nat) : Nat → List Nat
  | 0 => [48 + v / 1 % 10]
  | i + 1 => (if 10 ^ (i + 1) ≤ v then [48 + v / 10 ^ (i + 1) % 10] else []) ++ nda v i
theorem nda_len (v : Nat) : ∀ i, (nda v i).length ≤ i + 1 := by
  intro i
  induction i with
  | zero => exact Nat.le_refl 1
  | succ i ih =>
    rw [nda, List.length_append]
    split
    · simp only [List.length_cons, List.length_nil]
      omega
    · simp only [List.length_nil]
      omega
theorem num_loop {v : Nat} (hv : v ≤ 999999) (Q : zQ) : ∀ (i : Nat) (m : zM) (c : Nat), i ≤ 5 → m 14 4 = nI c → c + (i + 1) ≤ 258 → Q none (SH, cA m c (nda v i)) → ZW 16 (0, 0, 0, 0) 3 [(2, .int (nI (10 ^ i))), (0, .ref 17), (1, .int (nI v))] [] (SH, m) Q := by
  have z10' : ¬ (Int8.ofInt 10).toInt32 = 0 := by decide
  intro i
  induction i with
  | zero =>
    intro m c _ h hc' hQ
    have f3 : ZW 16 (0, 0, 0, 0) 3 [(2, .int (nI 0)), (0, .ref 17), (1, .int (nI v))] [] (SH, cA m c [48 + v / 1 % 10]) Q := by
      refine zgo 10 [] ?_
      repeat' (first
        | (exact hQ)
        | (show vp_in _ _; simp (disch := first | omega | decide) only [zcn, zkpl, zki, zki1, zk8, zk16, zo32, zlt0, zle0, zeq0, zgt0, zLe0, nI_ltI, nI_leI, nI_eq, nI_add, nI_clamp, vp_in_nI, zup_s, zup_n, upd_s, upd_n, ne_eq, not_true_eq_false, not_false_eq_true]; done)
        | (intro hc; exfalso; simp (disch := first | omega | decide) only [zcn, zkpl, zki, zki1, zk8, zk16, zo32, zlt0, zle0, zeq0, zgt0, zLe0, nI_ltI, nI_leI, nI_eq, nI_add, nI_clamp, vp_in_nI, zup_s, zup_n, upd_s, upd_n, ne_eq, not_true_eq_false, not_false_eq_true] at hc <;> omega)
        | (intro hc; exact absurd rfl hc)
        | intro hc
        | apply And.intro
        | exact Or.inl rfl
        | exact Or.inr rfl
        | (show (_ : Int32) = 0 ∨ _ = 1; simp (disch := first | omega | decide) only [zcn, zkpl, zki, zki1, zk8, zk16, zo32, zlt0, zle0, zeq0, zgt0, zLe0, nI_ltI, nI_leI, nI_eq, nI_add, nI_clamp, vp_in_nI, zup_s, zup_n, upd_s, upd_n, ne_eq, not_true_eq_false, not_false_eq_true, zeq1, true_or, or_true]; done))
    have d1 : nI v / nI 1 = nI (v / 1) := pk_div (by omega) (by decide) (by decide)
    have d2 : nI (v / 1) - nI (v / 1) / nI 10 * nI 10 = nI (v / 1 % 10) := pk_rem (by omega) (by decide) (by decide)
    have z1' : ¬ nI (10 ^ 0) = 0 := by decide
    have d3 : nI (10 ^ 0) / (Int8.ofInt 10).toInt32 = nI 0 := by decide
    rw [← d3] at f3
    have s1 := ca1 (48 + v / 1 % 10) h (by omega) (y := (Int8.ofInt 48).toInt32 + (nI v / nI (10 ^ 0) - nI v / nI (10 ^ 0) / (Int8.ofInt 10).toInt32 * (Int8.ofInt 10).toInt32)) (by rw [show (Int8.ofInt 48).toInt32 = nI 48 by decide, show (Int8.ofInt 10).toInt32 = nI 10 by decide, show nI (10 ^ 0) = nI 1 by decide, d1, d2, nI_add])
    have f34 : ZW 16 (0, 0, 0, 0) 34 [(2, .int (nI (10 ^ 0))), (0, .ref 17), (1, .int (nI v))] [] (SH, cA m c [48 + v / 1 % 10]) Q := by
      refine zgo 10 [] ?_
      refine ⟨z10', ?_⟩
      exact f3
    have f18 : ZW 16 (0, 0, 0, 0) 18 [(2, .int (nI (10 ^ 0))), (0, .ref 17), (1, .int (nI v))] [] (SH, m) Q := by
      refine zgo 20 [] ?_
      refine ⟨z1', z10', ?_⟩
      repeat' (first
        | (exact s1.use f34)
        | (show vp_in _ _; simp (disch := first | omega | decide) only [zcn, zkpl, zki, zki1, zk8, zk16, zo32, zlt0, zle0, zeq0, zgt0, zLe0, nI_ltI, nI_leI, nI_eq, nI_add, nI_clamp, vp_in_nI, zup_s, zup_n, upd_s, upd_n, ne_eq, not_true_eq_false, not_false_eq_true]; done)
        | (intro hc; exfalso; simp (disch := first | omega | decide) only [zcn, zkpl, zki, zki1, zk8, zk16, zo32, zlt0, zle0, zeq0, zgt0, zLe0, nI_ltI, nI_leI, nI_eq, nI_add, nI_clamp, vp_in_nI, zup_s, zup_n, upd_s, upd_n, ne_eq, not_true_eq_false, not_false_eq_true] at hc <;> omega)
        | (intro hc; exact absurd rfl hc)
        | intro hc
        | apply And.intro
        | exact Or.inl rfl
        | exact Or.inr rfl
        | (show (_ : Int32) = 0 ∨ _ = 1; simp (disch := first | omega | decide) only [zcn, zkpl, zki, zki1, zk8, zk16, zo32, zlt0, zle0, zeq0, zgt0, zLe0, nI_ltI, nI_leI, nI_eq, nI_add, nI_clamp, vp_in_nI, zup_s, zup_n, upd_s, upd_n, ne_eq, not_true_eq_false, not_false_eq_true, zeq1, true_or, or_true]; done))
    have e10 : nI (10 ^ 0) = nI 1 := by decide
    by_cases e : 1 ≤ v
    · refine zgo 6 [] ?_
      repeat' (first
        | (exact f18)
        | (show vp_in _ _; simp (disch := first | omega | decide) only [e10, zcn, zkpl, zki, zki1, zk8, zk16, zo32, zlt0, zle0, zeq0, zgt0, zLe0, nI_ltI, nI_leI, nI_eq, nI_add, nI_clamp, vp_in_nI, zup_s, zup_n, upd_s, upd_n, ne_eq, not_true_eq_false, not_false_eq_true]; done)
        | (intro hc; exfalso; simp (disch := first | omega | decide) only [e10, zcn, zkpl, zki, zki1, zk8, zk16, zo32, zlt0, zle0, zeq0, zgt0, zLe0, nI_ltI, nI_leI, nI_eq, nI_add, nI_clamp, vp_in_nI, zup_s, zup_n, upd_s, upd_n, ne_eq, not_true_eq_false, not_false_eq_true] at hc <;> omega)
        | (intro hc; exact absurd rfl hc)
        | intro hc
        | apply And.intro
        | exact Or.inl rfl
        | exact Or.inr rfl
        | (show (_ : Int32) = 0 ∨ _ = 1; simp (disch := first | omega | decide) only [e10, zcn, zkpl, zki, zki1, zk8, zk16, zo32, zlt0, zle0, zeq0, zgt0, zLe0, nI_ltI, nI_leI, nI_eq, nI_add, nI_clamp, vp_in_nI, zup_s, zup_n, upd_s, upd_n, ne_eq, not_true_eq_false, not_false_eq_true, zeq1, true_or, or_true]; done))
    · refine zgo 9 [] ?_
      repeat' (first
        | (exact f18)
        | (show vp_in _ _; simp (disch := first | omega | decide) only [e10, zcn, zkpl, zki, zki1, zk8, zk16, zo32, zlt0, zle0, zeq0, zgt0, zLe0, nI_ltI, nI_leI, nI_eq, nI_add, nI_clamp, vp_in_nI, zup_s, zup_n, upd_s, upd_n, ne_eq, not_true_eq_false, not_false_eq_true]; done)
        | (intro hc; exfalso; simp (disch := first | omega | decide) only [e10, zcn, zkpl, zki, zki1, zk8, zk16, zo32, zlt0, zle0, zeq0, zgt0, zLe0, nI_ltI, nI_leI, nI_eq, nI_add, nI_clamp, vp_in_nI, zup_s, zup_n, upd_s, upd_n, ne_eq, not_true_eq_false, not_false_eq_true] at hc <;> omega)
        | (intro hc; exact absurd rfl hc)
        | intro hc
        | apply And.intro
        | exact Or.inl rfl
        | exact Or.inr rfl
        | (show (_ : Int32) = 0 ∨ _ = 1; simp (disch := first | omega | decide) only [e10, zcn, zkpl, zki, zki1, zk8, zk16, zo32, zlt0, zle0, zeq0, zgt0, zLe0, nI_ltI, nI_leI, nI_eq, nI_add, nI_clamp, vp_in_nI, zup_s, zup_n, upd_s, upd_n, ne_eq, not_true_eq_false, not_false_eq_true, zeq1, true_or, or_true]; done))
  | succ i ih =>
    intro m c hi h hc' hQ
    have hp : 10 ^ (i + 1) ≤ 100000 := Nat.pow_le_pow_right (n := 10) (by decide) (show i + 1 ≤ 5 by omega)
    have hp0 : 0 < 10 ^ (i + 1) := Nat.pow_pos (by decide)
    have hpp : 10 ^ (i + 1) / 10 = 10 ^ i := by rw [Nat.pow_succ, Nat.mul_div_cancel _ (by decide)]
    have hp2 : 10 ≤ 10 ^ (i + 1) := by
      have := Nat.pow_pos (n := i) (show 0 < 10 by decide)
      rw [Nat.pow_succ]
      omega
    rw [nda] at hQ
    generalize 10 ^ (i + 1) = P at *
    have d3 : nI P / nI 10 = nI (P / 10) := pk_div (by omega) (by decide) (by decide)
    rw [hpp] at d3
    have zP : ¬ nI P = 0 := by
      rw [zeq0 (by omega)]
      omega
    by_cases e : P ≤ v
    · rw [if_pos e] at hQ
      have d1 : nI v / nI P = nI (v / P) := pk_div (by omega) (by omega) (by omega)
      have hvp : v / P ≤ v := Nat.div_le_self _ _
      have d2 : nI (v / P) - nI (v / P) / nI 10 * nI 10 = nI (v / P % 10) := pk_rem (by omega) (by decide) (by decide)
      have s1 := ca1 (48 + v / P % 10) h (by omega) (y := (Int8.ofInt 48).toInt32 + (nI v / nI P - nI v / nI P / (Int8.ofInt 10).toInt32 * (Int8.ofInt 10).toInt32)) (by rw [show (Int8.ofInt 48).toInt32 = nI 48 by decide, show (Int8.ofInt 10).toInt32 = nI 10 by decide, d1, d2, nI_add])
      have W := ih (cA m c [48 + v / P % 10]) (c + 1) (by omega) (cA_cnt h _) (by omega) hQ
      rw [← d3, show nI 10 = (Int8.ofInt 10).toInt32 by decide] at W
      have f34 : ZW 16 (0, 0, 0, 0) 34 [(2, .int (nI P)), (0, .ref 17), (1, .int (nI v))] [] (SH, cA m c [48 + v / P % 10]) Q := by
        refine zgo 10 [] ?_
        refine ⟨z10', ?_⟩
        exact W
      have f18 : ZW 16 (0, 0, 0, 0) 18 [(2, .int (nI P)), (0, .ref 17), (1, .int (nI v))] [] (SH, m) Q := by
        refine zgo 20 [] ?_
        refine ⟨zP, z10', ?_⟩
        repeat' (first
          | (exact s1.use f34)
          | (show vp_in _ _; simp (disch := first | omega | decide) only [zcn, zkpl, zki, zki1, zk8, zk16, zo32, zlt0, zle0, zeq0, zgt0, zLe0, nI_ltI, nI_leI, nI_eq, nI_add, nI_clamp, vp_in_nI, zup_s, zup_n, upd_s, upd_n, ne_eq, not_true_eq_false, not_false_eq_true]; done)
          | (intro hc; exfalso; simp (disch := first | omega | decide) only [zcn, zkpl, zki, zki1, zk8, zk16, zo32, zlt0, zle0, zeq0, zgt0, zLe0, nI_ltI, nI_leI, nI_eq, nI_add, nI_clamp, vp_in_nI, zup_s, zup_n, upd_s, upd_n, ne_eq, not_true_eq_false, not_false_eq_true] at hc <;> omega)
          | (intro hc; exact absurd rfl hc)
          | intro hc
          | apply And.intro
          | exact Or.inl rfl
          | exact Or.inr rfl
          | (show (_ : Int32) = 0 ∨ _ = 1; simp (disch := first | omega | decide) only [zcn, zkpl, zki, zki1, zk8, zk16, zo32, zlt0, zle0, zeq0, zgt0, zLe0, nI_ltI, nI_leI, nI_eq, nI_add, nI_clamp, vp_in_nI, zup_s, zup_n, upd_s, upd_n, ne_eq, not_true_eq_false, not_false_eq_true, zeq1, true_or, or_true]; done))
      refine zgo 6 [] ?_
      repeat' (first
        | (exact f18)
        | (show vp_in _ _; simp (disch := first | omega | decide) only [zcn, zkpl, zki, zki1, zk8, zk16, zo32, zlt0, zle0, zeq0, zgt0, zLe0, nI_ltI, nI_leI, nI_eq, nI_add, nI_clamp, vp_in_nI, zup_s, zup_n, upd_s, upd_n, ne_eq, not_true_eq_false, not_false_eq_true]; done)
        | (intro hc; exfalso; simp (disch := first | omega | decide) only [zcn, zkpl, zki, zki1, zk8, zk16, zo32, zlt0, zle0, zeq0, zgt0, zLe0, nI_ltI, nI_leI, nI_eq, nI_add, nI_clamp, vp_in_nI, zup_s, zup_n, upd_s, upd_n, ne_eq, not_true_eq_false, not_false_eq_true] at hc <;> omega)
        | (intro hc; exact absurd rfl hc)
        | intro hc
        | apply And.intro
        | exact Or.inl rfl
        | exact Or.inr rfl
        | (show (_ : Int32) = 0 ∨ _ = 1; simp (disch := first | omega | decide) only [zcn, zkpl, zki, zki1, zk8, zk16, zo32, zlt0, zle0, zeq0, zgt0, zLe0, nI_ltI, nI_leI, nI_eq, nI_add, nI_clamp, vp_in_nI, zup_s, zup_n, upd_s, upd_n, ne_eq, not_true_eq_false, not_false_eq_true, zeq1, true_or, or_true]; done))
    · rw [if_neg e] at hQ
      have W := ih m c (by omega) h (by omega) hQ
      rw [← d3, show nI 10 = (Int8.ofInt 10).toInt32 by decide] at W
      have f34 : ZW 16 (0, 0, 0, 0) 34 [(2, .int (nI P)), (0, .ref 17), (1, .int (nI v))] [] (SH, m) Q := by
        refine zgo 10 [] ?_
        refine ⟨z10', ?_⟩
        exact W
      refine zgo 9 [] ?_
      repeat' (first
        | (exact f34)
        | (show vp_in _ _; simp (disch := first | omega | decide) only [zcn, zkpl, zki, zki1, zk8, zk16, zo32, zlt0, zle0, zeq0, zgt0, zLe0, nI_ltI, nI_leI, nI_eq, nI_add, nI_clamp, vp_in_nI, zup_s, zup_n, upd_s, upd_n, ne_eq, not_true_eq_false, not_false_eq_true]; done)
        | (intro hc; exfalso; simp (disch := first | omega | decide) only [zcn, zkpl, zki, zki1, zk8, zk16, zo32, zlt0, zle0, zeq0, zgt0, zLe0, nI_ltI, nI_leI, nI_eq, nI_add, nI_clamp, vp_in_nI, zup_s, zup_n, upd_s, upd_n, ne_eq, not_true_eq_false, not_false_eq_true] at hc <;> omega)
        | (intro hc; exact absurd rfl hc)
        | intro hc
        | apply And.intro
        | exact Or.inl rfl
        | exact Or.inr rfl
        | (show (_ : Int32) = 0 ∨ _ = 1; simp (disch := first | omega | decide) only [zcn, zkpl, zki, zki1, zk8, zk16, zo32, zlt0, zle0, zeq0, zgt0, zLe0, nI_ltI, nI_leI, nI_eq, nI_add, nI_clamp, vp_in_nI, zup_s, zup_n, upd_s, upd_n, ne_eq, not_true_eq_false, not_false_eq_true, zeq1, true_or, or_true]; done))
theorem ev_num {m : zM} {c v : Nat} (h : m 14 4 = nI c) (hc' : c + 6 ≤ 258) (hv : v ≤ 999999) : Ev 16 [.ref 17, .int (nI v)] m none (cA m c (nda v 5)) := by
  intro Q hQ
  have W := num_loop hv Q 5 m c (by omega) h hc' hQ
  refine zgo 5 [] ?_
  exact W
/-- the bytes of a name, from byte k on -/
def nby (x : Nat) : Nat → List Nat
  | 0 => if x / 2 ^ (8 * 0) % 256 = 0 then [] else [x / 2 ^ (8 * 0) % 256]
  | k + 1 => (if x / 2 ^ (8 * (k + 1)) % 256 = 0 then [] else [x / 2 ^ (8 * (k + 1)) % 256]) ++ nby x k
theorem nby_len (x : Nat) : ∀ k, (nby x k).length ≤ k + 1 := by
  intro k
  induction k with
  | zero =>
    rw [nby]
    split <;> simp only [List.length_nil, List.length_cons] <;> omega
  | succ k ih =>
    rw [nby, List.length_append]
    split <;> simp only [List.length_nil, List.length_cons] <;> omega
theorem sh_k {x k : Nat} (hx : x < 2 ^ 31) (hk : k ≤ 3) : (nI x >>> (nI (8 * k) &&& 31)) &&& nI 255 = nI (x / 2 ^ (8 * k) % 256) := by
  rcases (show k = 0 ∨ k = 1 ∨ k = 2 ∨ k = 3 by omega) with rfl | rfl | rfl | rfl
  · rw [pk_shrN hx _ 0 (by decide), pk_andN (by have := Nat.div_le_self x (2 ^ 0); omega) 8 (by decide)]
  · rw [pk_shrN hx _ 8 (by decide), pk_andN (by have := Nat.div_le_self x (2 ^ 8); omega) 8 (by decide)]
  · rw [pk_shrN hx _ 16 (by decide), pk_andN (by have := Nat.div_le_self x (2 ^ 16); omega) 8 (by decide)]
  · rw [pk_shrN hx _ 24 (by decide), pk_andN (by have := Nat.div_le_self x (2 ^ 24); omega) 8 (by decide)]
theorem m8 (k : Nat) : nI (8 * (k + 1)) + Int32.ofInt (-8) = nI (8 * k) := by
  rw [show 8 * (k + 1) = 8 * k + 8 by omega, ← nI_add (8 * k) 8, Int32.add_assoc, show nI 8 + Int32.ofInt (-8) = 0 by decide]
  exact Int32.add_zero _
def nyL (sh x : Int32) (R : zLs) : Prop := R = [(2, .int sh), (0, .ref 17), (1, .int x)] ∨ ∃ y, R = [(2, .int sh), (3, .int y), (0, .ref 17), (1, .int x)]
theorem nm_put {x : Nat} (hx : x < 2 ^ 31) {k : Nat} (hk : k ≤ 3) (Q : zQ) {m : zM} {c : Nat} (h : m 14 4 = nI c) (hc' : c < 258) (W : ∀ y, ZW 15 (0, 0, 0, 0) 27 [(3, .int y), (2, .int (nI (8 * k))), (0, .ref 17), (1, .int (nI x))] [] (SH, cA m c (if x / 2 ^ (8 * k) % 256 = 0 then [] else [x / 2 ^ (8 * k) % 256])) Q) : ∀ R, nyL (nI (8 * k)) (nI x) R → ZW 15 (0, 0, 0, 0) 3 R [] (SH, m) Q := by
  have e := sh_k hx hk
  have hlt : x / 2 ^ (8 * k) % 256 < 256 := Nat.mod_lt _ (by decide)
  generalize x / 2 ^ (8 * k) % 256 = b at *
  have ex : (nI x >>> (nI (8 * k) &&& 31)) &&& (Int16.ofInt 255).toInt32 = nI b := by
    rw [show (Int16.ofInt 255).toInt32 = nI 255 by decide]
    exact e
  have f15 : ZW 15 (0, 0, 0, 0) 15 [(3, .int (nI b)), (2, .int (nI (8 * k))), (0, .ref 17), (1, .int (nI x))] [] (SH, m) Q := by
    by_cases e0 : b = 0
    · have W1 := W (nI b)
      rw [if_pos e0] at W1
      have W1 : ZW 15 (0, 0, 0, 0) 27 [(3, .int (nI b)), (2, .int (nI (8 * k))), (0, .ref 17), (1, .int (nI x))] [] (SH, m) Q := W1
      refine zgo 2 [] ?_
      repeat' (first
        | (exact W1)
        | (show vp_in _ _; simp (disch := first | omega | decide) only [zcn, zkpl, zki, zki1, zk8, zk16, zo32, zlt0, zle0, zeq0, zgt0, zLe0, nI_ltI, nI_leI, nI_eq, nI_add, nI_clamp, vp_in_nI, zup_s, zup_n, upd_s, upd_n, ne_eq, not_true_eq_false, not_false_eq_true]; done)
        | (intro hc; exfalso; simp (disch := first | omega | decide) only [zcn, zkpl, zki, zki1, zk8, zk16, zo32, zlt0, zle0, zeq0, zgt0, zLe0, nI_ltI, nI_leI, nI_eq, nI_add, nI_clamp, vp_in_nI, zup_s, zup_n, upd_s, upd_n, ne_eq, not_true_eq_false, not_false_eq_true] at hc <;> omega)
        | (intro hc; exact absurd rfl hc)
        | intro hc
        | apply And.intro
        | exact Or.inl rfl
        | exact Or.inr rfl
        | (show (_ : Int32) = 0 ∨ _ = 1; simp (disch := first | omega | decide) only [zcn, zkpl, zki, zki1, zk8, zk16, zo32, zlt0, zle0, zeq0, zgt0, zLe0, nI_ltI, nI_leI, nI_eq, nI_add, nI_clamp, vp_in_nI, zup_s, zup_n, upd_s, upd_n, ne_eq, not_true_eq_false, not_false_eq_true, zeq1, true_or, or_true]; done))
    · have W1 := W (nI b)
      rw [if_neg e0] at W1
      have s1 := ca1 b h hc' (y := nI b) rfl
      refine zgo 10 [] ?_
      repeat' (first
        | (exact s1.use W1)
        | (show vp_in _ _; simp (disch := first | omega | decide) only [zcn, zkpl, zki, zki1, zk8, zk16, zo32, zlt0, zle0, zeq0, zgt0, zLe0, nI_ltI, nI_leI, nI_eq, nI_add, nI_clamp, vp_in_nI, zup_s, zup_n, upd_s, upd_n, ne_eq, not_true_eq_false, not_false_eq_true]; done)
        | (intro hc; exfalso; simp (disch := first | omega | decide) only [zcn, zkpl, zki, zki1, zk8, zk16, zo32, zlt0, zle0, zeq0, zgt0, zLe0, nI_ltI, nI_leI, nI_eq, nI_add, nI_clamp, vp_in_nI, zup_s, zup_n, upd_s, upd_n, ne_eq, not_true_eq_false, not_false_eq_true] at hc <;> omega)
        | (intro hc; exact absurd rfl hc)
        | intro hc
        | apply And.intro
        | exact Or.inl rfl
        | exact Or.inr rfl
        | (show (_ : Int32) = 0 ∨ _ = 1; simp (disch := first | omega | decide) only [zcn, zkpl, zki, zki1, zk8, zk16, zo32, zlt0, zle0, zeq0, zgt0, zLe0, nI_ltI, nI_leI, nI_eq, nI_add, nI_clamp, vp_in_nI, zup_s, zup_n, upd_s, upd_n, ne_eq, not_true_eq_false, not_false_eq_true, zeq1, true_or, or_true]; done))
  rw [← ex] at f15
  intro R hR
  rcases hR with rfl | ⟨y, rfl⟩
  · refine zgo 8 [] ?_
    repeat' (first
      | (exact f15)
      | (show vp_in _ _; simp (disch := first | omega | decide) only [zcn, zkpl, zki, zki1, zk8, zk16, zo32, zlt0, zle0, zeq0, zgt0, zLe0, nI_ltI, nI_leI, nI_eq, nI_add, nI_clamp, vp_in_nI, zup_s, zup_n, upd_s, upd_n, ne_eq, not_true_eq_false, not_false_eq_true]; done)
      | (intro hc; exfalso; simp (disch := first | omega | decide) only [zcn, zkpl, zki, zki1, zk8, zk16, zo32, zlt0, zle0, zeq0, zgt0, zLe0, nI_ltI, nI_leI, nI_eq, nI_add, nI_clamp, vp_in_nI, zup_s, zup_n, upd_s, upd_n, ne_eq, not_true_eq_false, not_false_eq_true] at hc <;> omega)
      | (intro hc; exact absurd rfl hc)
      | intro hc
      | apply And.intro
      | exact Or.inl rfl
      | exact Or.inr rfl
      | (show (_ : Int32) = 0 ∨ _ = 1; simp (disch := first | omega | decide) only [zcn, zkpl, zki, zki1, zk8, zk16, zo32, zlt0, zle0, zeq0, zgt0, zLe0, nI_ltI, nI_leI, nI_eq, nI_add, nI_clamp, vp_in_nI, zup_s, zup_n, upd_s, upd_n, ne_eq, not_true_eq_false, not_false_eq_true, zeq1, true_or, or_true]; done))
  · refine zgo 8 [] ?_
    repeat' (first
      | (exact f15)
      | (show vp_in _ _; simp (disch := first | omega | decide) only [zcn, zkpl, zki, zki1, zk8, zk16, zo32, zlt0, zle0, zeq0, zgt0, zLe0, nI_ltI, nI_leI, nI_eq, nI_add, nI_clamp, vp_in_nI, zup_s, zup_n, upd_s, upd_n, ne_eq, not_true_eq_false, not_false_eq_true]; done)
      | (intro hc; exfalso; simp (disch := first | omega | decide) only [zcn, zkpl, zki, zki1, zk8, zk16, zo32, zlt0, zle0, zeq0, zgt0, zLe0, nI_ltI, nI_leI, nI_eq, nI_add, nI_clamp, vp_in_nI, zup_s, zup_n, upd_s, upd_n, ne_eq, not_true_eq_false, not_false_eq_true] at hc <;> omega)
      | (intro hc; exact absurd rfl hc)
      | intro hc
      | apply And.intro
      | exact Or.inl rfl
      | exact Or.inr rfl
      | (show (_ : Int32) = 0 ∨ _ = 1; simp (disch := first | omega | decide) only [zcn, zkpl, zki, zki1, zk8, zk16, zo32, zlt0, zle0, zeq0, zgt0, zLe0, nI_ltI, nI_leI, nI_eq, nI_add, nI_clamp, vp_in_nI, zup_s, zup_n, upd_s, upd_n, ne_eq, not_true_eq_false, not_false_eq_true, zeq1, true_or, or_true]; done))
theorem nm_lp {x : Nat} (hx : x < 2 ^ 31) (Q : zQ) : ∀ (k : Nat) (m : zM) (c : Nat) (R : zLs), k ≤ 3 → m 14 4 = nI c → c + (k + 1) ≤ 258 → nyL (nI (8 * k)) (nI x) R → Q none (SH, cA m c (nby x k)) → ZW 15 (0, 0, 0, 0) 3 R [] (SH, m) Q := by
  intro k
  induction k with
  | zero =>
    intro m c R _ h hc' hR hQ
    refine nm_put hx (k := 0) (by omega) Q h (by omega) (fun y => ?_) R hR
    rw [nby] at hQ
    have n8' : (nI (8 * 0) + Int32.ofInt (-8) < 0) = True := by decide
    have f3 : ZW 15 (0, 0, 0, 0) 3 [(2, .int (nI (8 * 0) + Int32.ofInt (-8))), (3, .int y), (0, .ref 17), (1, .int (nI x))] [] (SH, cA m c (if x / 2 ^ (8 * 0) % 256 = 0 then [] else [x / 2 ^ (8 * 0) % 256])) Q := by
      refine zgo 5 [] ?_
      refine ⟨fun _ => ?_, fun hn => ?_⟩
      · exact hQ
      · exact absurd (of_eq_true n8') hn
    refine zgo 5 [] ?_
    exact f3
  | succ k ih =>
    intro m c R hk h hc' hR hQ
    refine nm_put hx (k := k + 1) hk Q h (by omega) (fun y => ?_) R hR
    have hl : (if x / 2 ^ (8 * (k + 1)) % 256 = 0 then ([] : List Nat) else [x / 2 ^ (8 * (k + 1)) % 256]).length ≤ 1 := by
      split <;> simp only [List.length_nil, List.length_cons] <;> omega
    have W := ih (cA m c (if x / 2 ^ (8 * (k + 1)) % 256 = 0 then [] else [x / 2 ^ (8 * (k + 1)) % 256])) _ [(2, .int (nI (8 * k))), (3, .int y), (0, .ref 17), (1, .int (nI x))] (by omega) (cA_cnt h _) (by omega) (Or.inr ⟨_, rfl⟩) (by
      have e := apd_app (A := 16) (F := 14) (f := 4) (if x / 2 ^ (8 * (k + 1)) % 256 = 0 then [] else [x / 2 ^ (8 * (k + 1)) % 256]) (nby x k) m c
      unfold cA
      rw [← e]
      exact hQ)
    rw [← m8 k] at W
    refine zgo 5 [] ?_
    exact W
theorem ev_nam {m : zM} {c x : Nat} (h : m 14 4 = nI c) (hc' : c + 4 ≤ 258) (hx : x < 2 ^ 31) : Ev 15 [.ref 17, .int (nI x)] m none (cA m c (nby x 3)) := by
  intro Q hQ
  have W := nm_lp hx Q 3 m c [(2, .int (nI (8 * 3))), (0, .ref 17), (1, .int (nI x))] (by omega) h hc' (Or.inl rfl) hQ
  rw [show nI (8 * 3) = (Int8.ofInt 24).toInt32 by decide] at W
  refine zgo 5 [] ?_
  exact W
theorem nby_u (x : Nat) : nby x 3 = (if x / 2 ^ (8 * 3) % 256 = 0 then [] else [x / 2 ^ (8 * 3) % 256]) ++ ((if x / 2 ^ (8 * 2) % 256 = 0 then [] else [x / 2 ^ (8 * 2) % 256]) ++ ((if x / 2 ^ (8 * 1) % 256 = 0 then [] else [x / 2 ^ (8 * 1) % 256]) ++ (if x / 2 ^ (8 * 0) % 256 = 0 then [] else [x / 2 ^ (8 * 0) % 256]))) := rfl
theorem nby_n8 {cs : List Nat} (h : nmOk cs) : nby (n8 cs) 3 = cs := by
  have e24 : (2 : Nat) ^ (8 * 3) = 16777216 := by decide
  have e16 : (2 : Nat) ^ (8 * 2) = 65536 := by decide
  have e8 : (2 : Nat) ^ (8 * 1) = 256 := by decide
  have e0 : (2 : Nat) ^ (8 * 0) = 1 := by decide
  rcases nm_lists h with ⟨a, rfl⟩ | ⟨a, b, rfl⟩ | ⟨a, b, c, rfl⟩ | ⟨a, b, c, d, rfl⟩
  · have qa := h.2.2 a (by simp)
    have hx : n8 [a] = a := by
      simp only [n8, List.foldl]
      omega
    generalize n8 [a] = x at hx ⊢
    have v3 : x / 2 ^ (8 * 3) % 256 = 0 := by
      rw [e24]
      omega
    have v2 : x / 2 ^ (8 * 2) % 256 = 0 := by
      rw [e16]
      omega
    have v1 : x / 2 ^ (8 * 1) % 256 = 0 := by
      rw [e8]
      omega
    have v0 : x / 2 ^ (8 * 0) % 256 = a := by
      rw [e0]
      omega
    rw [nby_u, v3, v2, v1, v0, if_pos rfl, if_neg (show ¬ a = 0 by omega)]
    rfl
  · have qa := h.2.2 a (by simp)
    have qb := h.2.2 b (by simp)
    have hx : n8 [a, b] = 256 * a + b := by
      simp only [n8, List.foldl]
      omega
    generalize n8 [a, b] = x at hx ⊢
    have v3 : x / 2 ^ (8 * 3) % 256 = 0 := by
      rw [e24]
      omega
    have v2 : x / 2 ^ (8 * 2) % 256 = 0 := by
      rw [e16]
      omega
    have v1 : x / 2 ^ (8 * 1) % 256 = a := by
      rw [e8]
      omega
    have v0 : x / 2 ^ (8 * 0) % 256 = b := by
      rw [e0]
      omega
    rw [nby_u, v3, v2, v1, v0, if_pos rfl, if_neg (show ¬ a = 0 by omega), if_neg (show ¬ b = 0 by omega)]
    rfl
  · have qa := h.2.2 a (by simp)
    have qb := h.2.2 b (by simp)
    have qc := h.2.2 c (by simp)
    have hx : n8 [a, b, c] = 256 * (256 * a + b) + c := by
      simp only [n8, List.foldl]
      omega
    generalize n8 [a, b, c] = x at hx ⊢
    have v3 : x / 2 ^ (8 * 3) % 256 = 0 := by
      rw [e24]
      omega
    have v2 : x / 2 ^ (8 * 2) % 256 = a := by
      rw [e16]
      omega
    have v1 : x / 2 ^ (8 * 1) % 256 = b := by
      rw [e8]
      omega
    have v0 : x / 2 ^ (8 * 0) % 256 = c := by
      rw [e0]
      omega
    rw [nby_u, v3, v2, v1, v0, if_pos rfl, if_neg (show ¬ a = 0 by omega), if_neg (show ¬ b = 0 by omega), if_neg (show ¬ c = 0 by omega)]
    rfl
  · have qa := h.2.2 a (by simp)
    have qb := h.2.2 b (by simp)
    have qc := h.2.2 c (by simp)
    have qd := h.2.2 d (by simp)
    have hx : n8 [a, b, c, d] = 256 * (256 * (256 * a + b) + c) + d := by
      simp only [n8, List.foldl]
      omega
    generalize n8 [a, b, c, d] = x at hx ⊢
    have v3 : x / 2 ^ (8 * 3) % 256 = a := by
      rw [e24]
      omega
    have v2 : x / 2 ^ (8 * 2) % 256 = b := by
      rw [e16]
      omega
    have v1 : x / 2 ^ (8 * 1) % 256 = c := by
      rw [e8]
      omega
    have v0 : x / 2 ^ (8 * 0) % 256 = d := by
      rw [e0]
      omega
    rw [nby_u, v3, v2, v1, v0, if_neg (show ¬ a = 0 by omega), if_neg (show ¬ b = 0 by omega), if_neg (show ¬ c = 0 by omega), if_neg (show ¬ d = 0 by omega)]
    rfl
