/-! the class composes a message -/
def amT (v : Nat) : List Nat := nda (v / 100) 5 ++ 46 :: two (v % 100)
def acT (p d : Nat) : List Nat := (65 + p) :: two d
theorem ev_valN {m : zM} {c v l : Nat} (h : m 14 4 = nI c) (hc' : c + 6 ≤ 258) (hl : l = 78) (hv : v ≤ 999999) : Ev 14 [.ref 17, .int (nI l), .int (nI v)] m none (cA m c (nda v 5)) := by
  subst hl
  intro Q hQ
  have s1 := ev_num h hc' hv
  have f65 : ZW 14 (0, 0, 0, 0) 65 [(0, .ref 17), (1, .int (nI 78)), (2, .int (nI v))] [] (SH, cA m c (nda v 5)) Q := by
    refine zgo 3 [] ?_
    exact hQ
  refine zgo 10 [] ?_
  repeat' (first
    | (exact s1.use f65)
    | (show vp_in _ _; simp (disch := first | omega | decide) only [zcn, zkpl, zki, zki1, zk8, zk16, zo32, zlt0, zle0, zeq0, zgt0, zLe0, nI_ltI, nI_leI, nI_eq, nI_add, nI_clamp, vp_in_nI, zup_s, zup_n, upd_s, upd_n, ne_eq, not_true_eq_false, not_false_eq_true]; done)
    | (intro hc; exfalso; simp (disch := first | omega | decide) only [zcn, zkpl, zki, zki1, zk8, zk16, zo32, zlt0, zle0, zeq0, zgt0, zLe0, nI_ltI, nI_leI, nI_eq, nI_add, nI_clamp, vp_in_nI, zup_s, zup_n, upd_s, upd_n, ne_eq, not_true_eq_false, not_false_eq_true] at hc <;> omega)
    | (intro hc; exact absurd rfl hc)
    | intro hc
    | apply And.intro
    | exact Or.inl rfl
    | exact Or.inr rfl
    | (show (_ : Int32) = 0 ∨ _ = 1; simp (disch := first | omega | decide) only [zcn, zkpl, zki, zki1, zk8, zk16, zo32, zlt0, zle0, zeq0, zgt0, zLe0, nI_ltI, nI_leI, nI_eq, nI_add, nI_clamp, vp_in_nI, zup_s, zup_n, upd_s, upd_n, ne_eq, not_true_eq_false, not_false_eq_true, zeq1, true_or, or_true]; done))
theorem ev_valI {m : zM} {c x l : Nat} (h : m 14 4 = nI c) (hc' : c + 4 ≤ 258) (hl : l = 73 ∨ l = 69 ∨ l = 79) (hx : x < 2 ^ 31) : Ev 14 [.ref 17, .int (nI l), .int (nI x)] m none (cA m c (nby x 3)) := by
  intro Q hQ
  have s1 := ev_nam h hc' hx
  have f137 : ZW 14 (0, 0, 0, 0) 137 [(0, .ref 17), (1, .int (nI l)), (2, .int (nI x))] [] (SH, cA m c (nby x 3)) Q := by
    refine zgo 3 [] ?_
    exact hQ
  refine zgo 10 [] ?_
  repeat' (first
    | (exact s1.use f137)
    | (show vp_in _ _; simp (disch := first | omega | decide) only [zcn, zkpl, zki, zki1, zk8, zk16, zo32, zlt0, zle0, zeq0, zgt0, zLe0, nI_ltI, nI_leI, nI_eq, nI_add, nI_clamp, vp_in_nI, zup_s, zup_n, upd_s, upd_n, ne_eq, not_true_eq_false, not_false_eq_true]; done)
    | (intro hc; exfalso; simp (disch := first | omega | decide) only [zcn, zkpl, zki, zki1, zk8, zk16, zo32, zlt0, zle0, zeq0, zgt0, zLe0, nI_ltI, nI_leI, nI_eq, nI_add, nI_clamp, vp_in_nI, zup_s, zup_n, upd_s, upd_n, ne_eq, not_true_eq_false, not_false_eq_true] at hc <;> omega)
    | (intro hc; exact absurd rfl hc)
    | intro hc
    | apply And.intro
    | exact Or.inl rfl
    | exact Or.inr rfl
    | (show (_ : Int32) = 0 ∨ _ = 1; simp (disch := first | omega | decide) only [zcn, zkpl, zki, zki1, zk8, zk16, zo32, zlt0, zle0, zeq0, zgt0, zLe0, nI_ltI, nI_leI, nI_eq, nI_add, nI_clamp, vp_in_nI, zup_s, zup_n, upd_s, upd_n, ne_eq, not_true_eq_false, not_false_eq_true, zeq1, true_or, or_true]; done))
theorem ev_valV {m : zM} {c x l : Nat} (h : m 14 4 = nI c) (hc' : c + 1 ≤ 258) (hl : l = 86) : Ev 14 [.ref 17, .int (nI l), .int (nI x)] m none (cA m c [x]) := by
  subst hl
  intro Q hQ
  have s1 := ca1 x h (by omega) (y := nI x) rfl
  have f101 : ZW 14 (0, 0, 0, 0) 101 [(0, .ref 17), (1, .int (nI 86)), (2, .int (nI x))] [] (SH, cA m c [x]) Q := by
    refine zgo 3 [] ?_
    exact hQ
  refine zgo 10 [] ?_
  repeat' (first
    | (exact s1.use f101)
    | (show vp_in _ _; simp (disch := first | omega | decide) only [zcn, zkpl, zki, zki1, zk8, zk16, zo32, zlt0, zle0, zeq0, zgt0, zLe0, nI_ltI, nI_leI, nI_eq, nI_add, nI_clamp, vp_in_nI, zup_s, zup_n, upd_s, upd_n, ne_eq, not_true_eq_false, not_false_eq_true]; done)
    | (intro hc; exfalso; simp (disch := first | omega | decide) only [zcn, zkpl, zki, zki1, zk8, zk16, zo32, zlt0, zle0, zeq0, zgt0, zLe0, nI_ltI, nI_leI, nI_eq, nI_add, nI_clamp, vp_in_nI, zup_s, zup_n, upd_s, upd_n, ne_eq, not_true_eq_false, not_false_eq_true] at hc <;> omega)
    | (intro hc; exact absurd rfl hc)
    | intro hc
    | apply And.intro
    | exact Or.inl rfl
    | exact Or.inr rfl
    | (show (_ : Int32) = 0 ∨ _ = 1; simp (disch := first | omega | decide) only [zcn, zkpl, zki, zki1, zk8, zk16, zo32, zlt0, zle0, zeq0, zgt0, zLe0, nI_ltI, nI_leI, nI_eq, nI_add, nI_clamp, vp_in_nI, zup_s, zup_n, upd_s, upd_n, ne_eq, not_true_eq_false, not_false_eq_true, zeq1, true_or, or_true]; done))
theorem ev_valD {m : zM} {c p d l : Nat} (h : m 14 4 = nI c) (hc' : c + 3 ≤ 258) (hl : l = 67 ∨ l = 68) (hp : p ≤ 3) (hd : d ≤ 99) : Ev 14 [.ref 17, .int (nI l), .int (nI (1000 + 100 * p + d))] m none (cA m c (acT p d)) := by
  intro Q hQ
  have s1 := ev_lpo (m := m) hp hd
  have s2 := ca1 (65 + p) h (by omega) (y := (Int8.ofInt 65).toInt32 + nI p) (by rw [show (Int8.ofInt 65).toInt32 = nI 65 by decide, nI_add])
  have h2 := cA_cnt h [65 + p]
  have s3 := ev_two h2 (show c + 1 + 2 ≤ 258 by omega) hd
  have d2 : nI (1000 + 100 * p + d) - nI (1000 + 100 * p + d) / nI 100 * nI 100 = nI d := by
    rw [pk_rem (by omega) (by decide) (by decide), show (1000 + 100 * p + d) % 100 = d by omega]
  have z100' : ¬ (Int8.ofInt 100).toInt32 = 0 := by decide
  generalize 1000 + 100 * p + d = X at *
  have d2' : nI X - nI X / (Int8.ofInt 100).toInt32 * (Int8.ofInt 100).toInt32 = nI d := by
    rw [show (Int8.ofInt 100).toInt32 = nI 100 by decide]
    exact d2
  rw [← d2'] at s3
  have f90 : ZW 14 (0, 0, 0, 0) 90 [(0, .ref 17), (1, .int (nI l)), (2, .int (nI X))] [] (SH, cA (cA m c [65 + p]) (c + 1) (two d)) Q := by
    refine zgo 3 [] ?_
    exact hQ
  have f82 : ZW 14 (0, 0, 0, 0) 82 [(0, .ref 17), (1, .int (nI l)), (2, .int (nI X))] [] (SH, cA m c [65 + p]) Q := by
    refine zgo 5 [] ?_
    refine ⟨z100', ?_⟩
    repeat' (first
      | (exact s3.use f90)
      | (show vp_in _ _; simp (disch := first | omega | decide) only [zcn, zkpl, zki, zki1, zk8, zk16, zo32, zlt0, zle0, zeq0, zgt0, zLe0, nI_ltI, nI_leI, nI_eq, nI_add, nI_clamp, vp_in_nI, zup_s, zup_n, upd_s, upd_n, ne_eq, not_true_eq_false, not_false_eq_true]; done)
      | (intro hc; exfalso; simp (disch := first | omega | decide) only [zcn, zkpl, zki, zki1, zk8, zk16, zo32, zlt0, zle0, zeq0, zgt0, zLe0, nI_ltI, nI_leI, nI_eq, nI_add, nI_clamp, vp_in_nI, zup_s, zup_n, upd_s, upd_n, ne_eq, not_true_eq_false, not_false_eq_true] at hc <;> omega)
      | (intro hc; exact absurd rfl hc)
      | intro hc
      | apply And.intro
      | exact Or.inl rfl
      | exact Or.inr rfl
      | (show (_ : Int32) = 0 ∨ _ = 1; simp (disch := first | omega | decide) only [zcn, zkpl, zki, zki1, zk8, zk16, zo32, zlt0, zle0, zeq0, zgt0, zLe0, nI_ltI, nI_leI, nI_eq, nI_add, nI_clamp, vp_in_nI, zup_s, zup_n, upd_s, upd_n, ne_eq, not_true_eq_false, not_false_eq_true, zeq1, true_or, or_true]; done))
  have f78 : ZW 14 (0, 0, 0, 0) 78 [(0, .ref 17), (1, .int (nI l)), (2, .int (nI X))] [.int (nI p), .int (Int8.ofInt 65).toInt32, .ref 14] (SH, m) Q := by
    refine zgo 5 [] ?_
    repeat' (first
      | (exact s2.use f82)
      | (show vp_in _ _; simp (disch := first | omega | decide) only [zcn, zkpl, zki, zki1, zk8, zk16, zo32, zlt0, zle0, zeq0, zgt0, zLe0, nI_ltI, nI_leI, nI_eq, nI_add, nI_clamp, vp_in_nI, zup_s, zup_n, upd_s, upd_n, ne_eq, not_true_eq_false, not_false_eq_true]; done)
      | (intro hc; exfalso; simp (disch := first | omega | decide) only [zcn, zkpl, zki, zki1, zk8, zk16, zo32, zlt0, zle0, zeq0, zgt0, zLe0, nI_ltI, nI_leI, nI_eq, nI_add, nI_clamp, vp_in_nI, zup_s, zup_n, upd_s, upd_n, ne_eq, not_true_eq_false, not_false_eq_true] at hc <;> omega)
      | (intro hc; exact absurd rfl hc)
      | intro hc
      | apply And.intro
      | exact Or.inl rfl
      | exact Or.inr rfl
      | (show (_ : Int32) = 0 ∨ _ = 1; simp (disch := first | omega | decide) only [zcn, zkpl, zki, zki1, zk8, zk16, zo32, zlt0, zle0, zeq0, zgt0, zLe0, nI_ltI, nI_leI, nI_eq, nI_add, nI_clamp, vp_in_nI, zup_s, zup_n, upd_s, upd_n, ne_eq, not_true_eq_false, not_false_eq_true, zeq1, true_or, or_true]; done))
  rcases hl with rfl | rfl
  · refine zgo 10 [] ?_
    repeat' (first
      | (exact s1.use f78)
      | (show vp_in _ _; simp (disch := first | omega | decide) only [zcn, zkpl, zki, zki1, zk8, zk16, zo32, zlt0, zle0, zeq0, zgt0, zLe0, nI_ltI, nI_leI, nI_eq, nI_add, nI_clamp, vp_in_nI, zup_s, zup_n, upd_s, upd_n, ne_eq, not_true_eq_false, not_false_eq_true]; done)
      | (intro hc; exfalso; simp (disch := first | omega | decide) only [zcn, zkpl, zki, zki1, zk8, zk16, zo32, zlt0, zle0, zeq0, zgt0, zLe0, nI_ltI, nI_leI, nI_eq, nI_add, nI_clamp, vp_in_nI, zup_s, zup_n, upd_s, upd_n, ne_eq, not_true_eq_false, not_false_eq_true] at hc <;> omega)
      | (intro hc; exact absurd rfl hc)
      | intro hc
      | apply And.intro
      | exact Or.inl rfl
      | exact Or.inr rfl
      | (show (_ : Int32) = 0 ∨ _ = 1; simp (disch := first | omega | decide) only [zcn, zkpl, zki, zki1, zk8, zk16, zo32, zlt0, zle0, zeq0, zgt0, zLe0, nI_ltI, nI_leI, nI_eq, nI_add, nI_clamp, vp_in_nI, zup_s, zup_n, upd_s, upd_n, ne_eq, not_true_eq_false, not_false_eq_true, zeq1, true_or, or_true]; done))
  · refine zgo 10 [] ?_
    repeat' (first
      | (exact s1.use f78)
      | (show vp_in _ _; simp (disch := first | omega | decide) only [zcn, zkpl, zki, zki1, zk8, zk16, zo32, zlt0, zle0, zeq0, zgt0, zLe0, nI_ltI, nI_leI, nI_eq, nI_add, nI_clamp, vp_in_nI, zup_s, zup_n, upd_s, upd_n, ne_eq, not_true_eq_false, not_false_eq_true]; done)
      | (intro hc; exfalso; simp (disch := first | omega | decide) only [zcn, zkpl, zki, zki1, zk8, zk16, zo32, zlt0, zle0, zeq0, zgt0, zLe0, nI_ltI, nI_leI, nI_eq, nI_add, nI_clamp, vp_in_nI, zup_s, zup_n, upd_s, upd_n, ne_eq, not_true_eq_false, not_false_eq_true] at hc <;> omega)
      | (intro hc; exact absurd rfl hc)
      | intro hc
      | apply And.intro
      | exact Or.inl rfl
      | exact Or.inr rfl
      | (show (_ : Int32) = 0 ∨ _ = 1; simp (disch := first | omega | decide) only [zcn, zkpl, zki, zki1, zk8, zk16, zo32, zlt0, zle0, zeq0, zgt0, zLe0, nI_ltI, nI_leI, nI_eq, nI_add, nI_clamp, vp_in_nI, zup_s, zup_n, upd_s, upd_n, ne_eq, not_true_eq_false, not_false_eq_true, zeq1, true_or, or_true]; done))
theorem ev_valA {m : zM} {c v l : Nat} (h : m 14 4 = nI c) (hc' : c + 9 ≤ 258) (hl : l = 83 ∨ l = 65) (hv : v ≤ 99999999) : Ev 14 [.ref 17, .int (nI l), .int (nI v)] m none (cA m c (amT v)) := by
  intro Q hQ
  have d1 : nI v / nI 100 = nI (v / 100) := pk_div (by omega) (by decide) (by decide)
  have d2 : nI v - nI v / nI 100 * nI 100 = nI (v % 100) := pk_rem (by omega) (by decide) (by decide)
  have z100' : ¬ (Int8.ofInt 100).toInt32 = 0 := by decide
  have hln := nda_len (v / 100) 5
  have s1 := ev_num (v := v / 100) h (by omega) (by omega)
  have h1 := cA_cnt h (nda (v / 100) 5)
  have s2 := ca1 46 h1 (by omega) (y := (Int8.ofInt 46).toInt32) (by decide)
  have h2 := cA_cnt h1 [46]
  have s3 := ev_two (v := v % 100) h2 (by simp only [List.length_cons, List.length_nil]; omega) (by omega)
  rw [← d1, show nI 100 = (Int8.ofInt 100).toInt32 by decide] at s1
  rw [← d2, show nI 100 = (Int8.ofInt 100).toInt32 by decide] at s3
  have em : cA (cA (cA m c (nda (v / 100) 5)) (c + (nda (v / 100) 5).length) [46]) (c + (nda (v / 100) 5).length + [46].length) (two (v % 100)) = cA m c (amT v) := by
    unfold cA amT
    rw [apd_app]
    rfl
  rw [← em] at hQ
  have f129 : ZW 14 (0, 0, 0, 0) 129 [(0, .ref 17), (1, .int (nI l)), (2, .int (nI v))] [] (SH, cA (cA (cA m c (nda (v / 100) 5)) (c + (nda (v / 100) 5).length) [46]) (c + (nda (v / 100) 5).length + [46].length) (two (v % 100))) Q := by
    refine zgo 3 [] ?_
    exact hQ
  have f121 : ZW 14 (0, 0, 0, 0) 121 [(0, .ref 17), (1, .int (nI l)), (2, .int (nI v))] [] (SH, cA (cA m c (nda (v / 100) 5)) (c + (nda (v / 100) 5).length) [46]) Q := by
    refine zgo 5 [] ?_
    refine ⟨z100', ?_⟩
    repeat' (first
      | (exact s3.use f129)
      | (show vp_in _ _; simp (disch := first | omega | decide) only [zcn, zkpl, zki, zki1, zk8, zk16, zo32, zlt0, zle0, zeq0, zgt0, zLe0, nI_ltI, nI_leI, nI_eq, nI_add, nI_clamp, vp_in_nI, zup_s, zup_n, upd_s, upd_n, ne_eq, not_true_eq_false, not_false_eq_true]; done)
      | (intro hc; exfalso; simp (disch := first | omega | decide) only [zcn, zkpl, zki, zki1, zk8, zk16, zo32, zlt0, zle0, zeq0, zgt0, zLe0, nI_ltI, nI_leI, nI_eq, nI_add, nI_clamp, vp_in_nI, zup_s, zup_n, upd_s, upd_n, ne_eq, not_true_eq_false, not_false_eq_true] at hc <;> omega)
      | (intro hc; exact absurd rfl hc)
      | intro hc
      | apply And.intro
      | exact Or.inl rfl
      | exact Or.inr rfl
      | (show (_ : Int32) = 0 ∨ _ = 1; simp (disch := first | omega | decide) only [zcn, zkpl, zki, zki1, zk8, zk16, zo32, zlt0, zle0, zeq0, zgt0, zLe0, nI_ltI, nI_leI, nI_eq, nI_add, nI_clamp, vp_in_nI, zup_s, zup_n, upd_s, upd_n, ne_eq, not_true_eq_false, not_false_eq_true, zeq1, true_or, or_true]; done))
  have f112 : ZW 14 (0, 0, 0, 0) 112 [(0, .ref 17), (1, .int (nI l)), (2, .int (nI v))] [] (SH, cA m c (nda (v / 100) 5)) Q := by
    refine zgo 5 [] ?_
    repeat' (first
      | (exact s2.use f121)
      | (show vp_in _ _; simp (disch := first | omega | decide) only [zcn, zkpl, zki, zki1, zk8, zk16, zo32, zlt0, zle0, zeq0, zgt0, zLe0, nI_ltI, nI_leI, nI_eq, nI_add, nI_clamp, vp_in_nI, zup_s, zup_n, upd_s, upd_n, ne_eq, not_true_eq_false, not_false_eq_true]; done)
      | (intro hc; exfalso; simp (disch := first | omega | decide) only [zcn, zkpl, zki, zki1, zk8, zk16, zo32, zlt0, zle0, zeq0, zgt0, zLe0, nI_ltI, nI_leI, nI_eq, nI_add, nI_clamp, vp_in_nI, zup_s, zup_n, upd_s, upd_n, ne_eq, not_true_eq_false, not_false_eq_true] at hc <;> omega)
      | (intro hc; exact absurd rfl hc)
      | intro hc
      | apply And.intro
      | exact Or.inl rfl
      | exact Or.inr rfl
      | (show (_ : Int32) = 0 ∨ _ = 1; simp (disch := first | omega | decide) only [zcn, zkpl, zki, zki1, zk8, zk16, zo32, zlt0, zle0, zeq0, zgt0, zLe0, nI_ltI, nI_leI, nI_eq, nI_add, nI_clamp, vp_in_nI, zup_s, zup_n, upd_s, upd_n, ne_eq, not_true_eq_false, not_false_eq_true, zeq1, true_or, or_true]; done))
  have f104 : ZW 14 (0, 0, 0, 0) 104 [(0, .ref 17), (1, .int (nI l)), (2, .int (nI v))] [] (SH, m) Q := by
    refine zgo 5 [] ?_
    refine ⟨z100', ?_⟩
    repeat' (first
      | (exact s1.use f112)
      | (show vp_in _ _; simp (disch := first | omega | decide) only [zcn, zkpl, zki, zki1, zk8, zk16, zo32, zlt0, zle0, zeq0, zgt0, zLe0, nI_ltI, nI_leI, nI_eq, nI_add, nI_clamp, vp_in_nI, zup_s, zup_n, upd_s, upd_n, ne_eq, not_true_eq_false, not_false_eq_true]; done)
      | (intro hc; exfalso; simp (disch := first | omega | decide) only [zcn, zkpl, zki, zki1, zk8, zk16, zo32, zlt0, zle0, zeq0, zgt0, zLe0, nI_ltI, nI_leI, nI_eq, nI_add, nI_clamp, vp_in_nI, zup_s, zup_n, upd_s, upd_n, ne_eq, not_true_eq_false, not_false_eq_true] at hc <;> omega)
      | (intro hc; exact absurd rfl hc)
      | intro hc
      | apply And.intro
      | exact Or.inl rfl
      | exact Or.inr rfl
      | (show (_ : Int32) = 0 ∨ _ = 1; simp (disch := first | omega | decide) only [zcn, zkpl, zki, zki1, zk8, zk16, zo32, zlt0, zle0, zeq0, zgt0, zLe0, nI_ltI, nI_leI, nI_eq, nI_add, nI_clamp, vp_in_nI, zup_s, zup_n, upd_s, upd_n, ne_eq, not_true_eq_false, not_false_eq_true, zeq1, true_or, or_true]; done))
  rcases hl with rfl | rfl
  · refine zgo 2 [] ?_
    repeat' (first
      | (exact f104)
      | (show vp_in _ _; simp (disch := first | omega | decide) only [zcn, zkpl, zki, zki1, zk8, zk16, zo32, zlt0, zle0, zeq0, zgt0, zLe0, nI_ltI, nI_leI, nI_eq, nI_add, nI_clamp, vp_in_nI, zup_s, zup_n, upd_s, upd_n, ne_eq, not_true_eq_false, not_false_eq_true]; done)
      | (intro hc; exfalso; simp (disch := first | omega | decide) only [zcn, zkpl, zki, zki1, zk8, zk16, zo32, zlt0, zle0, zeq0, zgt0, zLe0, nI_ltI, nI_leI, nI_eq, nI_add, nI_clamp, vp_in_nI, zup_s, zup_n, upd_s, upd_n, ne_eq, not_true_eq_false, not_false_eq_true] at hc <;> omega)
      | (intro hc; exact absurd rfl hc)
      | intro hc
      | apply And.intro
      | exact Or.inl rfl
      | exact Or.inr rfl
      | (show (_ : Int32) = 0 ∨ _ = 1; simp (disch := first | omega | decide) only [zcn, zkpl, zki, zki1, zk8, zk16, zo32, zlt0, zle0, zeq0, zgt0, zLe0, nI_ltI, nI_leI, nI_eq, nI_add, nI_clamp, vp_in_nI, zup_s, zup_n, upd_s, upd_n, ne_eq, not_true_eq_false, not_false_eq_true, zeq1, true_or, or_true]; done))
  · refine zgo 2 [] ?_
    repeat' (first
      | (exact f104)
      | (show vp_in _ _; simp (disch := first | omega | decide) only [zcn, zkpl, zki, zki1, zk8, zk16, zo32, zlt0, zle0, zeq0, zgt0, zLe0, nI_ltI, nI_leI, nI_eq, nI_add, nI_clamp, vp_in_nI, zup_s, zup_n, upd_s, upd_n, ne_eq, not_true_eq_false, not_false_eq_true]; done)
      | (intro hc; exfalso; simp (disch := first | omega | decide) only [zcn, zkpl, zki, zki1, zk8, zk16, zo32, zlt0, zle0, zeq0, zgt0, zLe0, nI_ltI, nI_leI, nI_eq, nI_add, nI_clamp, vp_in_nI, zup_s, zup_n, upd_s, upd_n, ne_eq, not_true_eq_false, not_false_eq_true] at hc <;> omega)
      | (intro hc; exact absurd rfl hc)
      | intro hc
      | apply And.intro
      | exact Or.inl rfl
      | exact Or.inr rfl
      | (show (_ : Int32) = 0 ∨ _ = 1; simp (disch := first | omega | decide) only [zcn, zkpl, zki, zki1, zk8, zk16, zo32, zlt0, zle0, zeq0, zgt0, zLe0, nI_ltI, nI_leI, nI_eq, nI_add, nI_clamp, vp_in_nI, zup_s, zup_n, upd_s, upd_n, ne_eq, not_true_eq_false, not_false_eq_true, zeq1, true_or, or_true]; done))
/-- what one value's text is, by its letter -/
def vtx (l : Nat) (y : Int32) (xs : List Nat) : Prop := xs.length ≤ 9 ∧ ∀ (m : zM) (c : Nat), m 14 4 = nI c → c + 9 ≤ 258 → Ev 14 [.ref 17, .int (nI l), .int y] m none (cA m c xs)
theorem vtx_I {l : Nat} {cs : List Nat} (hl : l = 73 ∨ l = 69 ∨ l = 79) (h : nmOk cs) : vtx l (nI (n8 cs)) cs := by
  refine ⟨by have := h.2.1; omega, fun m c h1 h2 => ?_⟩
  have := ev_valI h1 (by omega) hl (n8_lt h)
  rw [nby_n8 h] at this
  exact this
theorem vtx_N {v : Nat} (hv : v ≤ 99) : vtx 78 (nI v) (nda v 5) := ⟨by have := nda_len v 5; omega, fun m c h1 h2 => ev_valN h1 (by omega) rfl (by omega)⟩
theorem vtx_V {v : Nat} : vtx 86 (nI v) [v] := ⟨by simp only [List.length_cons, List.length_nil]; omega, fun m c h1 h2 => ev_valV h1 (by omega) rfl⟩
theorem vtx_D {l p d : Nat} (hl : l = 67 ∨ l = 68) (hp : p ≤ 3) (hd : d ≤ 99) : vtx l (nI (1000 + 100 * p + d)) (acT p d) := ⟨by unfold acT two; simp only [List.length_cons, List.length_nil]; omega, fun m c h1 h2 => ev_valD h1 (by omega) hl hp hd⟩
theorem vtx_A {l v : Nat} (hl : l = 83 ∨ l = 65) (hv : v ≤ 99999999) : vtx l (nI v) (amT v) := by
  refine ⟨?_, fun m c h1 h2 => ev_valA h1 h2 hl hv⟩
  have := nda_len (v / 100) 5
  unfold amT two
  rw [List.length_append]
  simp only [List.length_cons, List.length_nil]
  omega
