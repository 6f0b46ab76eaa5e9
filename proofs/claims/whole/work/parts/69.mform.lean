/-! the canonical form, in the model -/
def uA (u : zM) (c : Nat) (xs : List Nat) : zM := apd 57 42 34 xs u c
theorem uA_cnt {u : zM} {c : Nat} (h : u 42 34 = nI c) (xs : List Nat) : uA u c xs 42 34 = nI (c + xs.length) := apd_cnt xs u c h
theorem uA_app (m : zM) (c : Nat) (xs ys : List Nat) : uA (uA m c xs) (c + xs.length) ys = uA m c (xs ++ ys) := (apd_app xs ys m c).symm
theorem uA_far {m : zM} {c a : Nat} {xs : List Nat} (h1 : a ≠ 57) (h2 : a ≠ 42) : uA m c xs a = m a := apd_far h1 h2 xs m c
theorem uA_fld {m : zM} {c g : Nat} {xs : List Nat} (h : g ≠ 34) : uA m c xs 42 g = m 42 g := apd_fld (by decide) h xs m c
theorem ua1 {u : zM} {c : Nat} (x : Nat) (h : u 42 34 = nI c) (hc' : c < 400) {y : Int32} (hy : y = nI x) : Ev 185 [.ref 42, .int y] u none (uA u c [x]) := by
  subst hy
  exact ev_bo (nI x) h hc'
theorem es_tB {u : zM} {c l : Nat} (h : u 42 34 = nI c) (hc' : c + 3 ≤ 300) : Ev 186 [.ref 42, .int (nI l), .int (nI 0)] u none (uA u c [60, l, 62]) := by
  intro Q hQ
  have s1 := ua1 60 h (by omega) (y := (Int8.ofInt 60).toInt32) (by decide)
  have h1 := uA_cnt h [60]
  have s2 := ua1 l h1 (show c + 1 < 400 by omega) (y := nI l) rfl
  have h2 := uA_cnt h1 [l]
  have s3 := ua1 62 h2 (show c + 1 + 1 < 400 by omega) (y := (Int8.ofInt 62).toInt32) (by decide)
  have f27 : ZW 186 (0, 0, 0, 0) 27 [(0, .ref 42), (1, .int (nI l)), (2, .int (nI 0))] [] (SH, uA (uA (uA u c [60]) (c + 1) [l]) (c + 1 + 1) [62]) Q := by
    refine zgo 2 [] ?_
    exact hQ
  have f21 : ZW 186 (0, 0, 0, 0) 21 [(0, .ref 42), (1, .int (nI l)), (2, .int (nI 0))] [] (SH, uA (uA u c [60]) (c + 1) [l]) Q := by
    refine zgo 5 [] ?_
    repeat' (first
      | (exact s3.use f27)
      | (show vp_in _ _; simp (disch := first | omega | decide) only [zcn, zkpl, zki, zki1, zk8, zk16, zo32, zlt0, zle0, zeq0, zgt0, zLe0, nI_ltI, nI_leI, nI_eq, nI_add, nI_clamp, vp_in_nI, zup_s, zup_n, upd_s, upd_n, ne_eq, not_true_eq_false, not_false_eq_true]; done)
      | (intro hc; exfalso; simp (disch := first | omega | decide) only [zcn, zkpl, zki, zki1, zk8, zk16, zo32, zlt0, zle0, zeq0, zgt0, zLe0, nI_ltI, nI_leI, nI_eq, nI_add, nI_clamp, vp_in_nI, zup_s, zup_n, upd_s, upd_n, ne_eq, not_true_eq_false, not_false_eq_true] at hc <;> omega)
      | (intro hc; exact absurd rfl hc)
      | intro hc
      | apply And.intro
      | exact Or.inl rfl
      | exact Or.inr rfl
      | (show (_ : Int32) = 0 ∨ _ = 1; simp (disch := first | omega | decide) only [zcn, zkpl, zki, zki1, zk8, zk16, zo32, zlt0, zle0, zeq0, zgt0, zLe0, nI_ltI, nI_leI, nI_eq, nI_add, nI_clamp, vp_in_nI, zup_s, zup_n, upd_s, upd_n, ne_eq, not_true_eq_false, not_false_eq_true, zeq1, true_or, or_true]; done))
  have f6 : ZW 186 (0, 0, 0, 0) 6 [(0, .ref 42), (1, .int (nI l)), (2, .int (nI 0))] [] (SH, uA u c [60]) Q := by
    refine zgo 10 [] ?_
    repeat' (first
      | (exact s2.use f21)
      | (show vp_in _ _; simp (disch := first | omega | decide) only [zcn, zkpl, zki, zki1, zk8, zk16, zo32, zlt0, zle0, zeq0, zgt0, zLe0, nI_ltI, nI_leI, nI_eq, nI_add, nI_clamp, vp_in_nI, zup_s, zup_n, upd_s, upd_n, ne_eq, not_true_eq_false, not_false_eq_true]; done)
      | (intro hc; exfalso; simp (disch := first | omega | decide) only [zcn, zkpl, zki, zki1, zk8, zk16, zo32, zlt0, zle0, zeq0, zgt0, zLe0, nI_ltI, nI_leI, nI_eq, nI_add, nI_clamp, vp_in_nI, zup_s, zup_n, upd_s, upd_n, ne_eq, not_true_eq_false, not_false_eq_true] at hc <;> omega)
      | (intro hc; exact absurd rfl hc)
      | intro hc
      | apply And.intro
      | exact Or.inl rfl
      | exact Or.inr rfl
      | (show (_ : Int32) = 0 ∨ _ = 1; simp (disch := first | omega | decide) only [zcn, zkpl, zki, zki1, zk8, zk16, zo32, zlt0, zle0, zeq0, zgt0, zLe0, nI_ltI, nI_leI, nI_eq, nI_add, nI_clamp, vp_in_nI, zup_s, zup_n, upd_s, upd_n, ne_eq, not_true_eq_false, not_false_eq_true, zeq1, true_or, or_true]; done))
  refine zgo 5 [] ?_
  repeat' (first
    | (exact s1.use f6)
    | (show vp_in _ _; simp (disch := first | omega | decide) only [zcn, zkpl, zki, zki1, zk8, zk16, zo32, zlt0, zle0, zeq0, zgt0, zLe0, nI_ltI, nI_leI, nI_eq, nI_add, nI_clamp, vp_in_nI, zup_s, zup_n, upd_s, upd_n, ne_eq, not_true_eq_false, not_false_eq_true]; done)
    | (intro hc; exfalso; simp (disch := first | omega | decide) only [zcn, zkpl, zki, zki1, zk8, zk16, zo32, zlt0, zle0, zeq0, zgt0, zLe0, nI_ltI, nI_leI, nI_eq, nI_add, nI_clamp, vp_in_nI, zup_s, zup_n, upd_s, upd_n, ne_eq, not_true_eq_false, not_false_eq_true] at hc <;> omega)
    | (intro hc; exact absurd rfl hc)
    | intro hc
    | apply And.intro
    | exact Or.inl rfl
    | exact Or.inr rfl
    | (show (_ : Int32) = 0 ∨ _ = 1; simp (disch := first | omega | decide) only [zcn, zkpl, zki, zki1, zk8, zk16, zo32, zlt0, zle0, zeq0, zgt0, zLe0, nI_ltI, nI_leI, nI_eq, nI_add, nI_clamp, vp_in_nI, zup_s, zup_n, upd_s, upd_n, ne_eq, not_true_eq_false, not_false_eq_true, zeq1, true_or, or_true]; done))
theorem es_tE {u : zM} {c l : Nat} (h : u 42 34 = nI c) (hc' : c + 4 ≤ 300) : Ev 186 [.ref 42, .int (nI l), .int (nI 1)] u none (uA u c [60, 47, l, 62]) := by
  intro Q hQ
  have s1 := ua1 60 h (by omega) (y := (Int8.ofInt 60).toInt32) (by decide)
  have h1 := uA_cnt h [60]
  have s2 := ua1 47 h1 (show c + 1 < 400 by omega) (y := (Int8.ofInt 47).toInt32) (by decide)
  have h2 := uA_cnt h1 [47]
  have s3 := ua1 l h2 (show c + 1 + 1 < 400 by omega) (y := nI l) rfl
  have h3 := uA_cnt h2 [l]
  have s4 := ua1 62 h3 (show c + 1 + 1 + 1 < 400 by omega) (y := (Int8.ofInt 62).toInt32) (by decide)
  have f27 : ZW 186 (0, 0, 0, 0) 27 [(0, .ref 42), (1, .int (nI l)), (2, .int (nI 1))] [] (SH, uA (uA (uA (uA u c [60]) (c + 1) [47]) (c + 1 + 1) [l]) (c + 1 + 1 + 1) [62]) Q := by
    refine zgo 2 [] ?_
    exact hQ
  have f21 : ZW 186 (0, 0, 0, 0) 21 [(0, .ref 42), (1, .int (nI l)), (2, .int (nI 1))] [] (SH, uA (uA (uA u c [60]) (c + 1) [47]) (c + 1 + 1) [l]) Q := by
    refine zgo 5 [] ?_
    repeat' (first
      | (exact s4.use f27)
      | (show vp_in _ _; simp (disch := first | omega | decide) only [zcn, zkpl, zki, zki1, zk8, zk16, zo32, zlt0, zle0, zeq0, zgt0, zLe0, nI_ltI, nI_leI, nI_eq, nI_add, nI_clamp, vp_in_nI, zup_s, zup_n, upd_s, upd_n, ne_eq, not_true_eq_false, not_false_eq_true]; done)
      | (intro hc; exfalso; simp (disch := first | omega | decide) only [zcn, zkpl, zki, zki1, zk8, zk16, zo32, zlt0, zle0, zeq0, zgt0, zLe0, nI_ltI, nI_leI, nI_eq, nI_add, nI_clamp, vp_in_nI, zup_s, zup_n, upd_s, upd_n, ne_eq, not_true_eq_false, not_false_eq_true] at hc <;> omega)
      | (intro hc; exact absurd rfl hc)
      | intro hc
      | apply And.intro
      | exact Or.inl rfl
      | exact Or.inr rfl
      | (show (_ : Int32) = 0 ∨ _ = 1; simp (disch := first | omega | decide) only [zcn, zkpl, zki, zki1, zk8, zk16, zo32, zlt0, zle0, zeq0, zgt0, zLe0, nI_ltI, nI_leI, nI_eq, nI_add, nI_clamp, vp_in_nI, zup_s, zup_n, upd_s, upd_n, ne_eq, not_true_eq_false, not_false_eq_true, zeq1, true_or, or_true]; done))
  have f16 : ZW 186 (0, 0, 0, 0) 16 [(0, .ref 42), (1, .int (nI l)), (2, .int (nI 1))] [] (SH, uA (uA u c [60]) (c + 1) [47]) Q := by
    refine zgo 5 [] ?_
    repeat' (first
      | (exact s3.use f21)
      | (show vp_in _ _; simp (disch := first | omega | decide) only [zcn, zkpl, zki, zki1, zk8, zk16, zo32, zlt0, zle0, zeq0, zgt0, zLe0, nI_ltI, nI_leI, nI_eq, nI_add, nI_clamp, vp_in_nI, zup_s, zup_n, upd_s, upd_n, ne_eq, not_true_eq_false, not_false_eq_true]; done)
      | (intro hc; exfalso; simp (disch := first | omega | decide) only [zcn, zkpl, zki, zki1, zk8, zk16, zo32, zlt0, zle0, zeq0, zgt0, zLe0, nI_ltI, nI_leI, nI_eq, nI_add, nI_clamp, vp_in_nI, zup_s, zup_n, upd_s, upd_n, ne_eq, not_true_eq_false, not_false_eq_true] at hc <;> omega)
      | (intro hc; exact absurd rfl hc)
      | intro hc
      | apply And.intro
      | exact Or.inl rfl
      | exact Or.inr rfl
      | (show (_ : Int32) = 0 ∨ _ = 1; simp (disch := first | omega | decide) only [zcn, zkpl, zki, zki1, zk8, zk16, zo32, zlt0, zle0, zeq0, zgt0, zLe0, nI_ltI, nI_leI, nI_eq, nI_add, nI_clamp, vp_in_nI, zup_s, zup_n, upd_s, upd_n, ne_eq, not_true_eq_false, not_false_eq_true, zeq1, true_or, or_true]; done))
  have f6 : ZW 186 (0, 0, 0, 0) 6 [(0, .ref 42), (1, .int (nI l)), (2, .int (nI 1))] [] (SH, uA u c [60]) Q := by
    refine zgo 10 [] ?_
    repeat' (first
      | (exact s2.use f16)
      | (show vp_in _ _; simp (disch := first | omega | decide) only [zcn, zkpl, zki, zki1, zk8, zk16, zo32, zlt0, zle0, zeq0, zgt0, zLe0, nI_ltI, nI_leI, nI_eq, nI_add, nI_clamp, vp_in_nI, zup_s, zup_n, upd_s, upd_n, ne_eq, not_true_eq_false, not_false_eq_true]; done)
      | (intro hc; exfalso; simp (disch := first | omega | decide) only [zcn, zkpl, zki, zki1, zk8, zk16, zo32, zlt0, zle0, zeq0, zgt0, zLe0, nI_ltI, nI_leI, nI_eq, nI_add, nI_clamp, vp_in_nI, zup_s, zup_n, upd_s, upd_n, ne_eq, not_true_eq_false, not_false_eq_true] at hc <;> omega)
      | (intro hc; exact absurd rfl hc)
      | intro hc
      | apply And.intro
      | exact Or.inl rfl
      | exact Or.inr rfl
      | (show (_ : Int32) = 0 ∨ _ = 1; simp (disch := first | omega | decide) only [zcn, zkpl, zki, zki1, zk8, zk16, zo32, zlt0, zle0, zeq0, zgt0, zLe0, nI_ltI, nI_leI, nI_eq, nI_add, nI_clamp, vp_in_nI, zup_s, zup_n, upd_s, upd_n, ne_eq, not_true_eq_false, not_false_eq_true, zeq1, true_or, or_true]; done))
  refine zgo 5 [] ?_
  repeat' (first
    | (exact s1.use f6)
    | (show vp_in _ _; simp (disch := first | omega | decide) only [zcn, zkpl, zki, zki1, zk8, zk16, zo32, zlt0, zle0, zeq0, zgt0, zLe0, nI_ltI, nI_leI, nI_eq, nI_add, nI_clamp, vp_in_nI, zup_s, zup_n, upd_s, upd_n, ne_eq, not_true_eq_false, not_false_eq_true]; done)
    | (intro hc; exfalso; simp (disch := first | omega | decide) only [zcn, zkpl, zki, zki1, zk8, zk16, zo32, zlt0, zle0, zeq0, zgt0, zLe0, nI_ltI, nI_leI, nI_eq, nI_add, nI_clamp, vp_in_nI, zup_s, zup_n, upd_s, upd_n, ne_eq, not_true_eq_false, not_false_eq_true] at hc <;> omega)
    | (intro hc; exact absurd rfl hc)
    | intro hc
    | apply And.intro
    | exact Or.inl rfl
    | exact Or.inr rfl
    | (show (_ : Int32) = 0 ∨ _ = 1; simp (disch := first | omega | decide) only [zcn, zkpl, zki, zki1, zk8, zk16, zo32, zlt0, zle0, zeq0, zgt0, zLe0, nI_ltI, nI_leI, nI_eq, nI_add, nI_clamp, vp_in_nI, zup_s, zup_n, upd_s, upd_n, ne_eq, not_true_eq_false, not_false_eq_true, zeq1, true_or, or_true]; done))
def nd (v : Nat) : Nat → List Nat
  | 0 => [48 + v / 1 % 10]
  | k + 1 => (48 + v / 10 ^ (k + 1) % 10) :: nd v k
theorem nd_nda {v : Nat} : ∀ k, (k = 0 ∨ 10 ^ k ≤ v) → nda v k = nd v k := by
  intro k
  induction k with
  | zero => intro _; rfl
  | succ k ih =>
    intro h
    have h1 : 10 ^ (k + 1) ≤ v := h.resolve_left (by omega)
    have h2 : 10 ^ k ≤ 10 ^ (k + 1) := Nat.pow_le_pow_right (by decide) (by omega)
    rw [nda, nd, if_pos h1, ih (Or.inr (by omega))]
    rfl
theorem nda_up {v k : Nat} (h : v < 10 ^ (k + 1)) : ∀ i, nda v (k + i) = nda v k := by
  intro i
  induction i with
  | zero => rfl
  | succ i ih =>
    have : 10 ^ (k + 1) ≤ 10 ^ (k + i + 1) := Nat.pow_le_pow_right (by decide) (by omega)
    rw [show k + (i + 1) = k + i + 1 by omega, nda, if_neg (by omega)]
    exact ih
theorem nu_lp2 {v : Nat} (hv : v ≤ 999999) (Q : zQ) : ∀ (i : Nat) (u : zM) (c : Nat), i ≤ 5 → u 42 34 = nI c → c + (i + 1) ≤ 300 → Q none (SH, uA u c (nd v i)) → ZW 187 (0, 0, 0, 0) 18 [(2, .int (nI (10 ^ i))), (0, .ref 42), (1, .int (nI v))] [] (SH, u) Q := by
  have z10' : ¬ (Int8.ofInt 10).toInt32 = 0 := by decide
  intro i
  induction i with
  | zero =>
    intro u c _ h hc' hQ
    have f18 : ZW 187 (0, 0, 0, 0) 18 [(2, .int (nI 0)), (0, .ref 42), (1, .int (nI v))] [] (SH, uA u c [48 + v / 1 % 10]) Q := by
      refine zgo 10 [] ?_
      repeat' (first
        | (exact hQ)
        | (show vp_in _ _; simp (disch := first | omega | decide) only [zcn, zkpl, zki, zki1, zk8, zk16, zo32, zlt0, zle0, zeq0, zgt0, zLe0, nI_ltI, nI_leI, nI_eq, nI_add, nI_clamp, vp_in_nI, zup_s, zup_n, upd_s, upd_n, ne_eq, not_true_eq_false, not_false_eq_true]; done)
        | (intro hc; exfalso; simp (disch := first | omega | decide) only [zcn, zkpl, zki, zki1, zk8, zk16, zo32, zlt0, zle0, zeq0, zgt0, zLe0, nI_ltI, nI_leI, nI_eq, nI_add, nI_clamp, vp_in_nI, zup_s, zup_n, upd_s, upd_n, ne_eq, not_true_eq_false, not_false_eq_true] at hc <;> omega)
        | (intro hc; exact absurd rfl hc)
        | intro hc
        | apply And.intro
        | exact Or.inl rfl
        | exact Or.inr rfl
        | (show (_ : Int32) = 0 ∨ _ = 1; simp (disch := first | omega | decide) only [zcn, zkpl, zki, zki1, zk8, zk16, zo32, zlt0, zle0, zeq0, zgt0, zLe0, nI_ltI, nI_leI, nI_eq, nI_add, nI_clamp, vp_in_nI, zup_s, zup_n, upd_s, upd_n, ne_eq, not_true_eq_false, not_false_eq_true, zeq1, true_or, or_true]; done))
    have d1 : nI v / nI 1 = nI (v / 1) := pk_div (by omega) (by decide) (by decide)
    have d2 : nI (v / 1) - nI (v / 1) / nI 10 * nI 10 = nI (v / 1 % 10) := pk_rem (by omega) (by decide) (by decide)
    have z1' : ¬ nI (10 ^ 0) = 0 := by decide
    have d3 : nI (10 ^ 0) / (Int8.ofInt 10).toInt32 = nI 0 := by decide
    rw [← d3] at f18
    have s1 := ua1 (48 + v / 1 % 10) h (by omega) (y := (Int8.ofInt 48).toInt32 + (nI v / nI (10 ^ 0) - nI v / nI (10 ^ 0) / (Int8.ofInt 10).toInt32 * (Int8.ofInt 10).toInt32)) (by rw [show (Int8.ofInt 48).toInt32 = nI 48 by decide, show (Int8.ofInt 10).toInt32 = nI 10 by decide, show nI (10 ^ 0) = nI 1 by decide, d1, d2, nI_add])
    have f35 : ZW 187 (0, 0, 0, 0) 35 [(2, .int (nI (10 ^ 0))), (0, .ref 42), (1, .int (nI v))] [] (SH, uA u c [48 + v / 1 % 10]) Q := by
      refine zgo 10 [] ?_
      refine ⟨z10', ?_⟩
      exact f18
    have e10 : nI (10 ^ 0) = nI 1 := by decide
    have f22 : ZW 187 (0, 0, 0, 0) 22 [(2, .int (nI (10 ^ 0))), (0, .ref 42), (1, .int (nI v))] [] (SH, u) Q := by
      refine zgo 20 [] ?_
      refine ⟨z1', z10', ?_⟩
      repeat' (first
        | (exact s1.use f35)
        | (show vp_in _ _; simp (disch := first | omega | decide) only [zcn, zkpl, zki, zki1, zk8, zk16, zo32, zlt0, zle0, zeq0, zgt0, zLe0, nI_ltI, nI_leI, nI_eq, nI_add, nI_clamp, vp_in_nI, zup_s, zup_n, upd_s, upd_n, ne_eq, not_true_eq_false, not_false_eq_true]; done)
        | (intro hc; exfalso; simp (disch := first | omega | decide) only [zcn, zkpl, zki, zki1, zk8, zk16, zo32, zlt0, zle0, zeq0, zgt0, zLe0, nI_ltI, nI_leI, nI_eq, nI_add, nI_clamp, vp_in_nI, zup_s, zup_n, upd_s, upd_n, ne_eq, not_true_eq_false, not_false_eq_true] at hc <;> omega)
        | (intro hc; exact absurd rfl hc)
        | intro hc
        | apply And.intro
        | exact Or.inl rfl
        | exact Or.inr rfl
        | (show (_ : Int32) = 0 ∨ _ = 1; simp (disch := first | omega | decide) only [zcn, zkpl, zki, zki1, zk8, zk16, zo32, zlt0, zle0, zeq0, zgt0, zLe0, nI_ltI, nI_leI, nI_eq, nI_add, nI_clamp, vp_in_nI, zup_s, zup_n, upd_s, upd_n, ne_eq, not_true_eq_false, not_false_eq_true, zeq1, true_or, or_true]; done))
    refine zgo 2 [] ?_
    repeat' (first
      | (exact f22)
      | (show vp_in _ _; simp (disch := first | omega | decide) only [e10, zcn, zkpl, zki, zki1, zk8, zk16, zo32, zlt0, zle0, zeq0, zgt0, zLe0, nI_ltI, nI_leI, nI_eq, nI_add, nI_clamp, vp_in_nI, zup_s, zup_n, upd_s, upd_n, ne_eq, not_true_eq_false, not_false_eq_true]; done)
      | (intro hc; exfalso; simp (disch := first | omega | decide) only [e10, zcn, zkpl, zki, zki1, zk8, zk16, zo32, zlt0, zle0, zeq0, zgt0, zLe0, nI_ltI, nI_leI, nI_eq, nI_add, nI_clamp, vp_in_nI, zup_s, zup_n, upd_s, upd_n, ne_eq, not_true_eq_false, not_false_eq_true] at hc <;> omega)
      | (intro hc; exact absurd rfl hc)
      | intro hc
      | apply And.intro
      | exact Or.inl rfl
      | exact Or.inr rfl
      | (show (_ : Int32) = 0 ∨ _ = 1; simp (disch := first | omega | decide) only [e10, zcn, zkpl, zki, zki1, zk8, zk16, zo32, zlt0, zle0, zeq0, zgt0, zLe0, nI_ltI, nI_leI, nI_eq, nI_add, nI_clamp, vp_in_nI, zup_s, zup_n, upd_s, upd_n, ne_eq, not_true_eq_false, not_false_eq_true, zeq1, true_or, or_true]; done))
  | succ i ih =>
    intro u c hi h hc' hQ
    have hp : 10 ^ (i + 1) ≤ 100000 := Nat.pow_le_pow_right (n := 10) (by decide) (show i + 1 ≤ 5 by omega)
    have hp0 : 0 < 10 ^ (i + 1) := Nat.pow_pos (by decide)
    have hpp : 10 ^ (i + 1) / 10 = 10 ^ i := by rw [Nat.pow_succ, Nat.mul_div_cancel _ (by decide)]
    rw [nd] at hQ
    generalize 10 ^ (i + 1) = P at *
    have d3 : nI P / nI 10 = nI (P / 10) := pk_div (by omega) (by decide) (by decide)
    rw [hpp] at d3
    have zP : ¬ nI P = 0 := by
      rw [zeq0 (by omega)]
      omega
    have d1 : nI v / nI P = nI (v / P) := pk_div (by omega) (by omega) (by omega)
    have hvp : v / P ≤ v := Nat.div_le_self _ _
    have d2 : nI (v / P) - nI (v / P) / nI 10 * nI 10 = nI (v / P % 10) := pk_rem (by omega) (by decide) (by decide)
    have s1 := ua1 (48 + v / P % 10) h (by omega) (y := (Int8.ofInt 48).toInt32 + (nI v / nI P - nI v / nI P / (Int8.ofInt 10).toInt32 * (Int8.ofInt 10).toInt32)) (by rw [show (Int8.ofInt 48).toInt32 = nI 48 by decide, show (Int8.ofInt 10).toInt32 = nI 10 by decide, d1, d2, nI_add])
    have W := ih (uA u c [48 + v / P % 10]) (c + 1) (by omega) (uA_cnt h _) (by omega) hQ
    rw [← d3, show nI 10 = (Int8.ofInt 10).toInt32 by decide] at W
    have f35 : ZW 187 (0, 0, 0, 0) 35 [(2, .int (nI P)), (0, .ref 42), (1, .int (nI v))] [] (SH, uA u c [48 + v / P % 10]) Q := by
      refine zgo 10 [] ?_
      refine ⟨z10', ?_⟩
      exact W
    have f22 : ZW 187 (0, 0, 0, 0) 22 [(2, .int (nI P)), (0, .ref 42), (1, .int (nI v))] [] (SH, u) Q := by
      refine zgo 20 [] ?_
      refine ⟨zP, z10', ?_⟩
      repeat' (first
        | (exact s1.use f35)
        | (show vp_in _ _; simp (disch := first | omega | decide) only [zcn, zkpl, zki, zki1, zk8, zk16, zo32, zlt0, zle0, zeq0, zgt0, zLe0, nI_ltI, nI_leI, nI_eq, nI_add, nI_clamp, vp_in_nI, zup_s, zup_n, upd_s, upd_n, ne_eq, not_true_eq_false, not_false_eq_true]; done)
        | (intro hc; exfalso; simp (disch := first | omega | decide) only [zcn, zkpl, zki, zki1, zk8, zk16, zo32, zlt0, zle0, zeq0, zgt0, zLe0, nI_ltI, nI_leI, nI_eq, nI_add, nI_clamp, vp_in_nI, zup_s, zup_n, upd_s, upd_n, ne_eq, not_true_eq_false, not_false_eq_true] at hc <;> omega)
        | (intro hc; exact absurd rfl hc)
        | intro hc
        | apply And.intro
        | exact Or.inl rfl
        | exact Or.inr rfl
        | (show (_ : Int32) = 0 ∨ _ = 1; simp (disch := first | omega | decide) only [zcn, zkpl, zki, zki1, zk8, zk16, zo32, zlt0, zle0, zeq0, zgt0, zLe0, nI_ltI, nI_leI, nI_eq, nI_add, nI_clamp, vp_in_nI, zup_s, zup_n, upd_s, upd_n, ne_eq, not_true_eq_false, not_false_eq_true, zeq1, true_or, or_true]; done))
    refine zgo 2 [] ?_
    repeat' (first
      | (exact f22)
      | (show vp_in _ _; simp (disch := first | omega | decide) only [zcn, zkpl, zki, zki1, zk8, zk16, zo32, zlt0, zle0, zeq0, zgt0, zLe0, nI_ltI, nI_leI, nI_eq, nI_add, nI_clamp, vp_in_nI, zup_s, zup_n, upd_s, upd_n, ne_eq, not_true_eq_false, not_false_eq_true]; done)
      | (intro hc; exfalso; simp (disch := first | omega | decide) only [zcn, zkpl, zki, zki1, zk8, zk16, zo32, zlt0, zle0, zeq0, zgt0, zLe0, nI_ltI, nI_leI, nI_eq, nI_add, nI_clamp, vp_in_nI, zup_s, zup_n, upd_s, upd_n, ne_eq, not_true_eq_false, not_false_eq_true] at hc <;> omega)
      | (intro hc; exact absurd rfl hc)
      | intro hc
      | apply And.intro
      | exact Or.inl rfl
      | exact Or.inr rfl
      | (show (_ : Int32) = 0 ∨ _ = 1; simp (disch := first | omega | decide) only [zcn, zkpl, zki, zki1, zk8, zk16, zo32, zlt0, zle0, zeq0, zgt0, zLe0, nI_ltI, nI_leI, nI_eq, nI_add, nI_clamp, vp_in_nI, zup_s, zup_n, upd_s, upd_n, ne_eq, not_true_eq_false, not_false_eq_true, zeq1, true_or, or_true]; done))
theorem nu_lp1 {v : Nat} (hv : v ≤ 999999) {u : zM} (Q : zQ) (W : ∀ k, k ≤ 5 → (k = 0 ∨ 10 ^ k ≤ v) → v < 10 ^ (k + 1) → ZW 187 (0, 0, 0, 0) 18 [(2, .int (nI (10 ^ k))), (0, .ref 42), (1, .int (nI v))] [] (SH, u) Q) : ∀ (r k : Nat), k + r = 5 → (k = 0 ∨ 10 ^ k ≤ v) → ZW 187 (0, 0, 0, 0) 2 [(2, .int (nI (10 ^ k))), (0, .ref 42), (1, .int (nI v))] [] (SH, u) Q := by
  intro r
  induction r with
  | zero =>
    intro k hk hk0
    obtain rfl : k = 5 := by omega
    have W1 := W 5 (by omega) hk0 (by omega)
    have e5 : (10 : Nat) ^ 5 = 100000 := by decide
    rw [e5] at W1 ⊢
    have d1 : nI v / nI 100000 = nI (v / 100000) := pk_div (by omega) (by decide) (by decide)
    have z5 : ¬ nI 100000 = 0 := by decide
    refine zgo 5 [] ?_
    refine ⟨z5, ?_⟩
    repeat' (first
      | (exact W1)
      | (show vp_in _ _; simp (disch := first | omega | decide) only [d1, zcn, zkpl, zki, zki1, zk8, zk16, zo32, zlt0, zle0, zeq0, zgt0, zLe0, nI_ltI, nI_leI, nI_eq, nI_add, nI_clamp, vp_in_nI, zup_s, zup_n, upd_s, upd_n, ne_eq, not_true_eq_false, not_false_eq_true]; done)
      | (intro hc; exfalso; simp (disch := first | omega | decide) only [d1, zcn, zkpl, zki, zki1, zk8, zk16, zo32, zlt0, zle0, zeq0, zgt0, zLe0, nI_ltI, nI_leI, nI_eq, nI_add, nI_clamp, vp_in_nI, zup_s, zup_n, upd_s, upd_n, ne_eq, not_true_eq_false, not_false_eq_true] at hc <;> omega)
      | (intro hc; exact absurd rfl hc)
      | intro hc
      | apply And.intro
      | exact Or.inl rfl
      | exact Or.inr rfl
      | (show (_ : Int32) = 0 ∨ _ = 1; simp (disch := first | omega | decide) only [d1, zcn, zkpl, zki, zki1, zk8, zk16, zo32, zlt0, zle0, zeq0, zgt0, zLe0, nI_ltI, nI_leI, nI_eq, nI_add, nI_clamp, vp_in_nI, zup_s, zup_n, upd_s, upd_n, ne_eq, not_true_eq_false, not_false_eq_true, zeq1, true_or, or_true]; done))
  | succ r ih =>
    intro k hk hk0
    have hp : 10 ^ k ≤ 10000 := Nat.pow_le_pow_right (n := 10) (by decide) (show k ≤ 4 by omega)
    have hp0 : 0 < 10 ^ k := Nat.pow_pos (by decide)
    have hps : 10 ^ (k + 1) = 10 ^ k * 10 := Nat.pow_succ ..
    by_cases e : v < 10 ^ (k + 1)
    · have W1 := W k (by omega) hk0 e
      generalize 10 ^ k = P at *
      have d1 : nI v / nI P = nI (v / P) := pk_div (by omega) (by omega) (by omega)
      have zP : ¬ nI P = 0 := by
        rw [zeq0 (by omega)]
        omega
      have hlt : v / P < 10 := Nat.div_lt_of_lt_mul (by omega)
      refine zgo 5 [] ?_
      refine ⟨zP, ?_⟩
      repeat' (first
        | (exact W1)
        | (show vp_in _ _; simp (disch := first | omega | decide) only [d1, zcn, zkpl, zki, zki1, zk8, zk16, zo32, zlt0, zle0, zeq0, zgt0, zLe0, nI_ltI, nI_leI, nI_eq, nI_add, nI_clamp, vp_in_nI, zup_s, zup_n, upd_s, upd_n, ne_eq, not_true_eq_false, not_false_eq_true]; done)
        | (intro hc; exfalso; simp (disch := first | omega | decide) only [d1, zcn, zkpl, zki, zki1, zk8, zk16, zo32, zlt0, zle0, zeq0, zgt0, zLe0, nI_ltI, nI_leI, nI_eq, nI_add, nI_clamp, vp_in_nI, zup_s, zup_n, upd_s, upd_n, ne_eq, not_true_eq_false, not_false_eq_true] at hc <;> omega)
        | (intro hc; exact absurd rfl hc)
        | intro hc
        | apply And.intro
        | exact Or.inl rfl
        | exact Or.inr rfl
        | (show (_ : Int32) = 0 ∨ _ = 1; simp (disch := first | omega | decide) only [d1, zcn, zkpl, zki, zki1, zk8, zk16, zo32, zlt0, zle0, zeq0, zgt0, zLe0, nI_ltI, nI_leI, nI_eq, nI_add, nI_clamp, vp_in_nI, zup_s, zup_n, upd_s, upd_n, ne_eq, not_true_eq_false, not_false_eq_true, zeq1, true_or, or_true]; done))
    · have W1 := ih (k + 1) (by omega) (Or.inr (by omega))
      rw [hps] at W1 e
      generalize 10 ^ k = P at *
      have d1 : nI v / nI P = nI (v / P) := pk_div (by omega) (by omega) (by omega)
      have zP : ¬ nI P = 0 := by
        rw [zeq0 (by omega)]
        omega
      have hge : 10 ≤ v / P := (Nat.le_div_iff_mul_le (by omega)).mpr (by omega)
      have hle : v / P ≤ v := Nat.div_le_self _ _
      have em : nI P * (Int8.ofInt 10).toInt32 = nI (P * 10) := by rw [show (Int8.ofInt 10).toInt32 = nI 10 by decide, pk_mul]
      rw [← em] at W1
      refine zgo 10 [] ?_
      refine ⟨zP, ?_⟩
      repeat' (first
        | (exact W1)
        | (show vp_in _ _; simp (disch := first | omega | decide) only [d1, zcn, zkpl, zki, zki1, zk8, zk16, zo32, zlt0, zle0, zeq0, zgt0, zLe0, nI_ltI, nI_leI, nI_eq, nI_add, nI_clamp, vp_in_nI, zup_s, zup_n, upd_s, upd_n, ne_eq, not_true_eq_false, not_false_eq_true]; done)
        | (intro hc; exfalso; simp (disch := first | omega | decide) only [d1, zcn, zkpl, zki, zki1, zk8, zk16, zo32, zlt0, zle0, zeq0, zgt0, zLe0, nI_ltI, nI_leI, nI_eq, nI_add, nI_clamp, vp_in_nI, zup_s, zup_n, upd_s, upd_n, ne_eq, not_true_eq_false, not_false_eq_true] at hc <;> omega)
        | (intro hc; exact absurd rfl hc)
        | intro hc
        | apply And.intro
        | exact Or.inl rfl
        | exact Or.inr rfl
        | (show (_ : Int32) = 0 ∨ _ = 1; simp (disch := first | omega | decide) only [d1, zcn, zkpl, zki, zki1, zk8, zk16, zo32, zlt0, zle0, zeq0, zgt0, zLe0, nI_ltI, nI_leI, nI_eq, nI_add, nI_clamp, vp_in_nI, zup_s, zup_n, upd_s, upd_n, ne_eq, not_true_eq_false, not_false_eq_true, zeq1, true_or, or_true]; done))
theorem es_num {u : zM} {c v : Nat} (h : u 42 34 = nI c) (hc' : c + 6 ≤ 300) (hv : v ≤ 999999) : Ev 187 [.ref 42, .int (nI v)] u none (uA u c (nda v 5)) := by
  intro Q hQ
  have W := nu_lp1 hv Q (u := u) (fun k h1 h2 h3 => nu_lp2 hv Q k u c h1 h (by omega) (by
    have e := nda_up h3 (5 - k)
    rw [show k + (5 - k) = 5 by omega, nd_nda k h2] at e
    rw [← e]
    exact hQ)) 5 0 (by omega) (Or.inl rfl)
  refine zgo 5 [] ?_
  exact W
theorem ch_lp {s : pS} {b l e : Nat} {y x : Int32} (Q : zQ) : ∀ (n k : Nat) (u : zM) (c : Nat), uV u s e b l → b ≤ k → k + n = b + l → u 42 34 = nI c → c + n ≤ 300 → ZW 188 (0, 0, 0, 0) 151 [(4, .int (nI (b + l))), (3, .int y), (2, .int x), (0, .ref 42), (1, .int (nI e))] [] (SH, uA u c (seg (s 8) n k)) Q → ZW 188 (0, 0, 0, 0) 123 [(4, .int (nI k)), (3, .int y), (2, .int x), (0, .ref 42), (1, .int (nI e))] [] (SH, u) Q := by
  intro n
  induction n with
  | zero =>
    intro k u c hV hb hk h hc' W
    obtain ⟨⟨hl, h32⟩, h50, h48, h49, hle, he⟩ := hV
    have W : ZW 188 (0, 0, 0, 0) 151 [(4, .int (nI (b + l))), (3, .int y), (2, .int x), (0, .ref 42), (1, .int (nI e))] [] (SH, u) Q := W
    obtain rfl : k = b + l := by omega
    refine zgo 6 [] ?_
    repeat' (first
      | (exact W)
      | (show vp_in _ _; simp (disch := first | omega | decide) only [h49, zcn, zkpl, zki, zki1, zk8, zk16, zo32, zlt0, zle0, zeq0, zgt0, zLe0, nI_ltI, nI_leI, nI_eq, nI_add, nI_clamp, vp_in_nI, zup_s, zup_n, upd_s, upd_n, ne_eq, not_true_eq_false, not_false_eq_true]; done)
      | (intro hc; exfalso; simp (disch := first | omega | decide) only [h49, zcn, zkpl, zki, zki1, zk8, zk16, zo32, zlt0, zle0, zeq0, zgt0, zLe0, nI_ltI, nI_leI, nI_eq, nI_add, nI_clamp, vp_in_nI, zup_s, zup_n, upd_s, upd_n, ne_eq, not_true_eq_false, not_false_eq_true] at hc <;> omega)
      | (intro hc; exact absurd rfl hc)
      | intro hc
      | apply And.intro
      | exact Or.inl rfl
      | exact Or.inr rfl
      | (show (_ : Int32) = 0 ∨ _ = 1; simp (disch := first | omega | decide) only [h49, zcn, zkpl, zki, zki1, zk8, zk16, zo32, zlt0, zle0, zeq0, zgt0, zLe0, nI_ltI, nI_leI, nI_eq, nI_add, nI_clamp, vp_in_nI, zup_s, zup_n, upd_s, upd_n, ne_eq, not_true_eq_false, not_false_eq_true, zeq1, true_or, or_true]; done))
  | succ n ih =>
    intro k u c hV hb hk h hc' W
    have hV0 := hV
    obtain ⟨⟨hl, h32⟩, h50, h48, h49, hle, he⟩ := hV
    have g1 := h50 k (by omega)
    have e3 : nI k + Int32.ofInt 1 = nI (k + 1) := by rw [zki, nI_add]
    have e4 : u 50 (nI k).toNatClampNeg = nI (s 8 k) := by
      simp (disch := first | omega | decide) only [g1, zcn, zkpl, zki, zki1, zk8, zk16, zo32, zlt0, zle0, zeq0, zgt0, zLe0, nI_ltI, nI_leI, nI_eq, nI_add, nI_clamp, vp_in_nI, zup_s, zup_n, upd_s, upd_n, ne_eq, not_true_eq_false, not_false_eq_true]
    have s1 := ua1 (s 8 k) h (by omega) (y := u 50 (nI k).toNatClampNeg) e4
    have W1 := ih (k + 1) (uA u c [s 8 k]) (c + 1) (by
      refine ⟨⟨hl, h32⟩, ?_, ?_, ?_, hle, he⟩
      · rw [uA_far (by decide) (by decide)]
        exact h50
      · rw [uA_far (by decide) (by decide)]
        exact h48
      · rw [uA_far (by decide) (by decide)]
        exact h49) (by omega) (by omega) (uA_cnt h _) (by omega) W
    rw [← e3] at W1
    have f145 : ZW 188 (0, 0, 0, 0) 145 [(4, .int (nI k)), (3, .int y), (2, .int x), (0, .ref 42), (1, .int (nI e))] [] (SH, uA u c [s 8 k]) Q := by
      refine zgo 5 [] ?_
      exact W1
    refine zgo 20 [] ?_
    repeat' (first
      | (exact s1.use f145)
      | (show vp_in _ _; simp (disch := first | omega | decide) only [h49, zcn, zkpl, zki, zki1, zk8, zk16, zo32, zlt0, zle0, zeq0, zgt0, zLe0, nI_ltI, nI_leI, nI_eq, nI_add, nI_clamp, vp_in_nI, zup_s, zup_n, upd_s, upd_n, ne_eq, not_true_eq_false, not_false_eq_true]; done)
      | (intro hc; exfalso; simp (disch := first | omega | decide) only [h49, zcn, zkpl, zki, zki1, zk8, zk16, zo32, zlt0, zle0, zeq0, zgt0, zLe0, nI_ltI, nI_leI, nI_eq, nI_add, nI_clamp, vp_in_nI, zup_s, zup_n, upd_s, upd_n, ne_eq, not_true_eq_false, not_false_eq_true] at hc <;> omega)
      | (intro hc; exact absurd rfl hc)
      | intro hc
      | apply And.intro
      | exact Or.inl rfl
      | exact Or.inr rfl
      | (show (_ : Int32) = 0 ∨ _ = 1; simp (disch := first | omega | decide) only [h49, zcn, zkpl, zki, zki1, zk8, zk16, zo32, zlt0, zle0, zeq0, zgt0, zLe0, nI_ltI, nI_leI, nI_eq, nI_add, nI_clamp, vp_in_nI, zup_s, zup_n, upd_s, upd_n, ne_eq, not_true_eq_false, not_false_eq_true, zeq1, true_or, or_true]; done))
