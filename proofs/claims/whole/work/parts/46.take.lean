/-! a message taken, in the class -/
theorem ev_rowE {m : zM} {x y : Int32} : Ev 33 [.ref 11, .int x, .ref 1000014, .int y] m (some (.int 0)) m := by
  intro Q hQ
  have he : (if (zSS.getD (1000014 - 1000010) []).length = 0 then (1 : Int32) else 0) = 1 := rfl
  refine zgo 20 [] ?_
  repeat' (first
    | (show vp_in _ _; simp (disch := first | omega | decide) only [he, z10, zcn, zkpl, zki, zki1, zk8, zk16, zo32, zlt0, zle0, zeq0, zgt0, zLe0, nI_ltI, nI_leI, nI_eq, nI_add, nI_clamp, vp_in_nI, zup_s, zup_n, upd_s, upd_n, ne_eq, not_true_eq_false, not_false_eq_true]; done)
    | (intro hc; exfalso; simp (disch := first | omega | decide) only [he, z10, zcn, zkpl, zki, zki1, zk8, zk16, zo32, zlt0, zle0, zeq0, zgt0, zLe0, nI_ltI, nI_leI, nI_eq, nI_add, nI_clamp, vp_in_nI, zup_s, zup_n, upd_s, upd_n, ne_eq, not_true_eq_false, not_false_eq_true] at hc <;> omega)
    | (intro hc; exact absurd rfl hc)
    | intro hc
    | apply And.intro
    | exact hQ
    | (show Q _ (SH, _); simp (disch := first | omega | decide) only [he, z10, zcn, zkpl, zki, zki1, zk8, zk16, zo32, zlt0, zle0, zeq0, zgt0, zLe0, nI_ltI, nI_leI, nI_eq, nI_add, nI_clamp, vp_in_nI, zup_s, zup_n, upd_s, upd_n, ne_eq, not_true_eq_false, not_false_eq_true]; exact hQ)
    | exact Or.inl rfl
    | exact Or.inr rfl
    | (show (_ : Int32) = 0 ∨ _ = 1; simp (disch := first | omega | decide) only [he, z10, zcn, zkpl, zki, zki1, zk8, zk16, zo32, zlt0, zle0, zeq0, zgt0, zLe0, nI_ltI, nI_leI, nI_eq, nI_add, nI_clamp, vp_in_nI, zup_s, zup_n, upd_s, upd_n, ne_eq, not_true_eq_false, not_false_eq_true, zeq1, true_or, or_true]; done))
theorem ev_rowOf {m : zM} {c : Nat} (hc8 : c ≤ 122) {a : Nat} (ha : (c = 80 ∧ a = 1000010) ∨ (c = 81 ∧ a = 1000012) ∨ (c = 82 ∧ a = 1000013) ∨ (c ≠ 80 ∧ c ≠ 81 ∧ c ≠ 82 ∧ a = 1000014)) : Ev 158 [.int (nI c)] m (some (.ref a)) m := by
  intro Q hQ
  have d28 : decode (zC 158) 28 = .ok (.ldc_w 284, 3) := (zdec (k := 158) (e := (28, .ldc_w 284, 3, false)) (is := zat 158 31) (zat_sf 158 28)).1
  have d32 : decode (zC 158) 32 = .ok (.ldc_w 286, 3) := (zdec (k := 158) (e := (32, .ldc_w 286, 3, false)) (is := zat 158 35) (zat_sf 158 32)).1
  have d36 : decode (zC 158) 36 = .ok (.ldc_w 288, 3) := (zdec (k := 158) (e := (36, .ldc_w 288, 3, false)) (is := zat 158 39) (zat_sf 158 36)).1
  have d40 : decode (zC 158) 40 = .ok (.ldc_w 290, 3) := (zdec (k := 158) (e := (40, .ldc_w 290, 3, false)) (is := zat 158 43) (zat_sf 158 40)).1
  rcases ha with ⟨rfl, rfl⟩ | ⟨rfl, rfl⟩ | ⟨rfl, rfl⟩ | ⟨h1, h2, h3, rfl⟩
  · have f : ZW 158 (0, 0, 0, 0) 28 [(0, .int (nI 80))] [] (SH, m) Q := ZW.ldcwS (i := 284) (j := 0) rfl d28 (by
      refine zgo 5 [] ?_
      exact hQ)
    refine zgo 2 [] ?_
    repeat' (first
      | (exact f)
      | (show vp_in _ _; simp (disch := first | omega | decide) only [zcn, zkpl, zki, zki1, zk8, zk16, zo32, zlt0, zle0, zeq0, zgt0, zLe0, nI_ltI, nI_leI, nI_eq, nI_add, nI_clamp, vp_in_nI, zup_s, zup_n, upd_s, upd_n, ne_eq, not_true_eq_false, not_false_eq_true]; done)
      | (intro hc; exfalso; simp (disch := first | omega | decide) only [zcn, zkpl, zki, zki1, zk8, zk16, zo32, zlt0, zle0, zeq0, zgt0, zLe0, nI_ltI, nI_leI, nI_eq, nI_add, nI_clamp, vp_in_nI, zup_s, zup_n, upd_s, upd_n, ne_eq, not_true_eq_false, not_false_eq_true] at hc <;> omega)
      | (intro hc; exact absurd rfl hc)
      | intro hc
      | apply And.intro
      | exact Or.inl rfl
      | exact Or.inr rfl
      | (show (_ : Int32) = 0 ∨ _ = 1; simp (disch := first | omega | decide) only [zcn, zkpl, zki, zki1, zk8, zk16, zo32, zlt0, zle0, zeq0, zgt0, zLe0, nI_ltI, nI_leI, nI_eq, nI_add, nI_clamp, vp_in_nI, zup_s, zup_n, upd_s, upd_n, ne_eq, not_true_eq_false, not_false_eq_true, zeq1, true_or, or_true]; done))
  · have f : ZW 158 (0, 0, 0, 0) 32 [(0, .int (nI 81))] [] (SH, m) Q := ZW.ldcwS (i := 286) (j := 2) rfl d32 (by
      refine zgo 5 [] ?_
      exact hQ)
    refine zgo 2 [] ?_
    repeat' (first
      | (exact f)
      | (show vp_in _ _; simp (disch := first | omega | decide) only [zcn, zkpl, zki, zki1, zk8, zk16, zo32, zlt0, zle0, zeq0, zgt0, zLe0, nI_ltI, nI_leI, nI_eq, nI_add, nI_clamp, vp_in_nI, zup_s, zup_n, upd_s, upd_n, ne_eq, not_true_eq_false, not_false_eq_true]; done)
      | (intro hc; exfalso; simp (disch := first | omega | decide) only [zcn, zkpl, zki, zki1, zk8, zk16, zo32, zlt0, zle0, zeq0, zgt0, zLe0, nI_ltI, nI_leI, nI_eq, nI_add, nI_clamp, vp_in_nI, zup_s, zup_n, upd_s, upd_n, ne_eq, not_true_eq_false, not_false_eq_true] at hc <;> omega)
      | (intro hc; exact absurd rfl hc)
      | intro hc
      | apply And.intro
      | exact Or.inl rfl
      | exact Or.inr rfl
      | (show (_ : Int32) = 0 ∨ _ = 1; simp (disch := first | omega | decide) only [zcn, zkpl, zki, zki1, zk8, zk16, zo32, zlt0, zle0, zeq0, zgt0, zLe0, nI_ltI, nI_leI, nI_eq, nI_add, nI_clamp, vp_in_nI, zup_s, zup_n, upd_s, upd_n, ne_eq, not_true_eq_false, not_false_eq_true, zeq1, true_or, or_true]; done))
  · have f : ZW 158 (0, 0, 0, 0) 36 [(0, .int (nI 82))] [] (SH, m) Q := ZW.ldcwS (i := 288) (j := 3) rfl d36 (by
      refine zgo 5 [] ?_
      exact hQ)
    refine zgo 2 [] ?_
    repeat' (first
      | (exact f)
      | (show vp_in _ _; simp (disch := first | omega | decide) only [zcn, zkpl, zki, zki1, zk8, zk16, zo32, zlt0, zle0, zeq0, zgt0, zLe0, nI_ltI, nI_leI, nI_eq, nI_add, nI_clamp, vp_in_nI, zup_s, zup_n, upd_s, upd_n, ne_eq, not_true_eq_false, not_false_eq_true]; done)
      | (intro hc; exfalso; simp (disch := first | omega | decide) only [zcn, zkpl, zki, zki1, zk8, zk16, zo32, zlt0, zle0, zeq0, zgt0, zLe0, nI_ltI, nI_leI, nI_eq, nI_add, nI_clamp, vp_in_nI, zup_s, zup_n, upd_s, upd_n, ne_eq, not_true_eq_false, not_false_eq_true] at hc <;> omega)
      | (intro hc; exact absurd rfl hc)
      | intro hc
      | apply And.intro
      | exact Or.inl rfl
      | exact Or.inr rfl
      | (show (_ : Int32) = 0 ∨ _ = 1; simp (disch := first | omega | decide) only [zcn, zkpl, zki, zki1, zk8, zk16, zo32, zlt0, zle0, zeq0, zgt0, zLe0, nI_ltI, nI_leI, nI_eq, nI_add, nI_clamp, vp_in_nI, zup_s, zup_n, upd_s, upd_n, ne_eq, not_true_eq_false, not_false_eq_true, zeq1, true_or, or_true]; done))
  · have f : ZW 158 (0, 0, 0, 0) 40 [(0, .int (nI c))] [] (SH, m) Q := ZW.ldcwS (i := 290) (j := 4) rfl d40 (by
      refine zgo 5 [] ?_
      exact hQ)
    refine zgo 2 [] ?_
    repeat' (first
      | (exact f)
      | (show vp_in _ _; simp (disch := first | omega | decide) only [zcn, zkpl, zki, zki1, zk8, zk16, zo32, zlt0, zle0, zeq0, zgt0, zLe0, nI_ltI, nI_leI, nI_eq, nI_add, nI_clamp, vp_in_nI, zup_s, zup_n, upd_s, upd_n, ne_eq, not_true_eq_false, not_false_eq_true]; done)
      | (intro hc; exfalso; simp (disch := first | omega | decide) only [zcn, zkpl, zki, zki1, zk8, zk16, zo32, zlt0, zle0, zeq0, zgt0, zLe0, nI_ltI, nI_leI, nI_eq, nI_add, nI_clamp, vp_in_nI, zup_s, zup_n, upd_s, upd_n, ne_eq, not_true_eq_false, not_false_eq_true] at hc <;> omega)
      | (intro hc; exact absurd rfl hc)
      | intro hc
      | apply And.intro
      | exact Or.inl rfl
      | exact Or.inr rfl
      | (show (_ : Int32) = 0 ∨ _ = 1; simp (disch := first | omega | decide) only [zcn, zkpl, zki, zki1, zk8, zk16, zo32, zlt0, zle0, zeq0, zgt0, zLe0, nI_ltI, nI_leI, nI_eq, nI_add, nI_clamp, vp_in_nI, zup_s, zup_n, upd_s, upd_n, ne_eq, not_true_eq_false, not_false_eq_true, zeq1, true_or, or_true]; done))
theorem ev_plc {m : zM} (t : Nat) : Ev 36 [.ref 11, .int (nI t)] m (some (.int (nI (4 + 5 * t)))) m := by
  intro Q hQ
  refine zgo 20 [] ?_
  repeat' (first
    | (show vp_in _ _; simp (disch := first | omega | decide) only [pk_mul, zcn, zkpl, zki, zki1, zk8, zk16, zo32, zlt0, zle0, zeq0, zgt0, zLe0, nI_ltI, nI_leI, nI_eq, nI_add, nI_clamp, vp_in_nI, zup_s, zup_n, upd_s, upd_n, ne_eq, not_true_eq_false, not_false_eq_true]; done)
    | (intro hc; exfalso; simp (disch := first | omega | decide) only [pk_mul, zcn, zkpl, zki, zki1, zk8, zk16, zo32, zlt0, zle0, zeq0, zgt0, zLe0, nI_ltI, nI_leI, nI_eq, nI_add, nI_clamp, vp_in_nI, zup_s, zup_n, upd_s, upd_n, ne_eq, not_true_eq_false, not_false_eq_true] at hc <;> omega)
    | (intro hc; exact absurd rfl hc)
    | intro hc
    | apply And.intro
    | exact hQ
    | (show Q _ (SH, _); simp (disch := first | omega | decide) only [pk_mul, zcn, zkpl, zki, zki1, zk8, zk16, zo32, zlt0, zle0, zeq0, zgt0, zLe0, nI_ltI, nI_leI, nI_eq, nI_add, nI_clamp, vp_in_nI, zup_s, zup_n, upd_s, upd_n, ne_eq, not_true_eq_false, not_false_eq_true]; exact hQ)
    | exact Or.inl rfl
    | exact Or.inr rfl
    | (show (_ : Int32) = 0 ∨ _ = 1; simp (disch := first | omega | decide) only [pk_mul, zcn, zkpl, zki, zki1, zk8, zk16, zo32, zlt0, zle0, zeq0, zgt0, zLe0, nI_ltI, nI_leI, nI_eq, nI_add, nI_clamp, vp_in_nI, zup_s, zup_n, upd_s, upd_n, ne_eq, not_true_eq_false, not_false_eq_true, zeq1, true_or, or_true]; done))
def kF (m m' : zM) : Prop := ∀ a, a ≠ 11 → a ≠ 12 → a ≠ 13 → m' a = m a
def valO (s : pS) (m : zM) (k : Nat) : Prop := cvR s k (m 13 k) ∧ m 13 k ≠ -1
theorem tk_ex {m : zM} {t sz : Nat} (hm : m 11 4 = nI sz) (hs : sz ≤ 3) (ht : t ≤ 3) {b : Int32} (hb : (b = 0) ∨ (b = 1 ∧ sz ≤ t)) {Q : zQ} (hQ : Q (some (.int b)) (SH, m)) : ZW 32 (0, 0, 0, 0) 109 [(2, .int (nI t)), (1, .int b), (0, .ref 11)] [] (SH, m) Q := by
  rcases hb with rfl | ⟨rfl, hb⟩
  · have f : ZW 32 (0, 0, 0, 0) 140 [(2, .int (nI t)), (1, .int 0), (0, .ref 11)] [] (SH, m) Q := by
      refine zgo 5 [] ?_
      repeat' (first
        | (show vp_in _ _; simp (disch := first | omega | decide) only [zcn, zkpl, zki, zki1, zk8, zk16, zo32, zlt0, zle0, zeq0, zgt0, zLe0, nI_ltI, nI_leI, nI_eq, nI_add, nI_clamp, vp_in_nI, zup_s, zup_n, upd_s, upd_n, ne_eq, not_true_eq_false, not_false_eq_true]; done)
        | (intro hc; exfalso; simp (disch := first | omega | decide) only [zcn, zkpl, zki, zki1, zk8, zk16, zo32, zlt0, zle0, zeq0, zgt0, zLe0, nI_ltI, nI_leI, nI_eq, nI_add, nI_clamp, vp_in_nI, zup_s, zup_n, upd_s, upd_n, ne_eq, not_true_eq_false, not_false_eq_true] at hc <;> omega)
        | (intro hc; exact absurd rfl hc)
        | intro hc
        | apply And.intro
        | exact hQ
        | (show Q _ (SH, _); simp (disch := first | omega | decide) only [zcn, zkpl, zki, zki1, zk8, zk16, zo32, zlt0, zle0, zeq0, zgt0, zLe0, nI_ltI, nI_leI, nI_eq, nI_add, nI_clamp, vp_in_nI, zup_s, zup_n, upd_s, upd_n, ne_eq, not_true_eq_false, not_false_eq_true]; exact hQ)
        | exact Or.inl rfl
        | exact Or.inr rfl
        | (show (_ : Int32) = 0 ∨ _ = 1; simp (disch := first | omega | decide) only [zcn, zkpl, zki, zki1, zk8, zk16, zo32, zlt0, zle0, zeq0, zgt0, zLe0, nI_ltI, nI_leI, nI_eq, nI_add, nI_clamp, vp_in_nI, zup_s, zup_n, upd_s, upd_n, ne_eq, not_true_eq_false, not_false_eq_true, zeq1, true_or, or_true]; done))
    by_cases e : t < sz
    · refine zgo 6 [] ?_
      repeat' (first
        | (exact f)
        | (show vp_in _ _; simp (disch := first | omega | decide) only [hm, zcn, zkpl, zki, zki1, zk8, zk16, zo32, zlt0, zle0, zeq0, zgt0, zLe0, nI_ltI, nI_leI, nI_eq, nI_add, nI_clamp, vp_in_nI, zup_s, zup_n, upd_s, upd_n, ne_eq, not_true_eq_false, not_false_eq_true]; done)
        | (intro hc; exfalso; simp (disch := first | omega | decide) only [hm, zcn, zkpl, zki, zki1, zk8, zk16, zo32, zlt0, zle0, zeq0, zgt0, zLe0, nI_ltI, nI_leI, nI_eq, nI_add, nI_clamp, vp_in_nI, zup_s, zup_n, upd_s, upd_n, ne_eq, not_true_eq_false, not_false_eq_true] at hc <;> omega)
        | (intro hc; exact absurd rfl hc)
        | intro hc
        | apply And.intro
        | exact Or.inl rfl
        | exact Or.inr rfl
        | (show (_ : Int32) = 0 ∨ _ = 1; simp (disch := first | omega | decide) only [hm, zcn, zkpl, zki, zki1, zk8, zk16, zo32, zlt0, zle0, zeq0, zgt0, zLe0, nI_ltI, nI_leI, nI_eq, nI_add, nI_clamp, vp_in_nI, zup_s, zup_n, upd_s, upd_n, ne_eq, not_true_eq_false, not_false_eq_true, zeq1, true_or, or_true]; done))
    · refine zgo 4 [] ?_
      repeat' (first
        | (exact f)
        | (show vp_in _ _; simp (disch := first | omega | decide) only [hm, zcn, zkpl, zki, zki1, zk8, zk16, zo32, zlt0, zle0, zeq0, zgt0, zLe0, nI_ltI, nI_leI, nI_eq, nI_add, nI_clamp, vp_in_nI, zup_s, zup_n, upd_s, upd_n, ne_eq, not_true_eq_false, not_false_eq_true]; done)
        | (intro hc; exfalso; simp (disch := first | omega | decide) only [hm, zcn, zkpl, zki, zki1, zk8, zk16, zo32, zlt0, zle0, zeq0, zgt0, zLe0, nI_ltI, nI_leI, nI_eq, nI_add, nI_clamp, vp_in_nI, zup_s, zup_n, upd_s, upd_n, ne_eq, not_true_eq_false, not_false_eq_true] at hc <;> omega)
        | (intro hc; exact absurd rfl hc)
        | intro hc
        | apply And.intro
        | exact Or.inl rfl
        | exact Or.inr rfl
        | (show (_ : Int32) = 0 ∨ _ = 1; simp (disch := first | omega | decide) only [hm, zcn, zkpl, zki, zki1, zk8, zk16, zo32, zlt0, zle0, zeq0, zgt0, zLe0, nI_ltI, nI_leI, nI_eq, nI_add, nI_clamp, vp_in_nI, zup_s, zup_n, upd_s, upd_n, ne_eq, not_true_eq_false, not_false_eq_true, zeq1, true_or, or_true]; done))
  · have f : ZW 32 (0, 0, 0, 0) 140 [(2, .int (nI t)), (1, .int 1), (0, .ref 11)] [] (SH, m) Q := by
      refine zgo 5 [] ?_
      repeat' (first
        | (show vp_in _ _; simp (disch := first | omega | decide) only [zcn, zkpl, zki, zki1, zk8, zk16, zo32, zlt0, zle0, zeq0, zgt0, zLe0, nI_ltI, nI_leI, nI_eq, nI_add, nI_clamp, vp_in_nI, zup_s, zup_n, upd_s, upd_n, ne_eq, not_true_eq_false, not_false_eq_true]; done)
        | (intro hc; exfalso; simp (disch := first | omega | decide) only [zcn, zkpl, zki, zki1, zk8, zk16, zo32, zlt0, zle0, zeq0, zgt0, zLe0, nI_ltI, nI_leI, nI_eq, nI_add, nI_clamp, vp_in_nI, zup_s, zup_n, upd_s, upd_n, ne_eq, not_true_eq_false, not_false_eq_true] at hc <;> omega)
        | (intro hc; exact absurd rfl hc)
        | intro hc
        | apply And.intro
        | exact hQ
        | (show Q _ (SH, _); simp (disch := first | omega | decide) only [zcn, zkpl, zki, zki1, zk8, zk16, zo32, zlt0, zle0, zeq0, zgt0, zLe0, nI_ltI, nI_leI, nI_eq, nI_add, nI_clamp, vp_in_nI, zup_s, zup_n, upd_s, upd_n, ne_eq, not_true_eq_false, not_false_eq_true]; exact hQ)
        | exact Or.inl rfl
        | exact Or.inr rfl
        | (show (_ : Int32) = 0 ∨ _ = 1; simp (disch := first | omega | decide) only [zcn, zkpl, zki, zki1, zk8, zk16, zo32, zlt0, zle0, zeq0, zgt0, zLe0, nI_ltI, nI_leI, nI_eq, nI_add, nI_clamp, vp_in_nI, zup_s, zup_n, upd_s, upd_n, ne_eq, not_true_eq_false, not_false_eq_true, zeq1, true_or, or_true]; done))
    refine zgo 4 [] ?_
    repeat' (first
      | (exact f)
      | (show vp_in _ _; simp (disch := first | omega | decide) only [hm, zcn, zkpl, zki, zki1, zk8, zk16, zo32, zlt0, zle0, zeq0, zgt0, zLe0, nI_ltI, nI_leI, nI_eq, nI_add, nI_clamp, vp_in_nI, zup_s, zup_n, upd_s, upd_n, ne_eq, not_true_eq_false, not_false_eq_true]; done)
      | (intro hc; exfalso; simp (disch := first | omega | decide) only [hm, zcn, zkpl, zki, zki1, zk8, zk16, zo32, zlt0, zle0, zeq0, zgt0, zLe0, nI_ltI, nI_leI, nI_eq, nI_add, nI_clamp, vp_in_nI, zup_s, zup_n, upd_s, upd_n, ne_eq, not_true_eq_false, not_false_eq_true] at hc <;> omega)
      | (intro hc; exact absurd rfl hc)
      | intro hc
      | apply And.intro
      | exact Or.inl rfl
      | exact Or.inr rfl
      | (show (_ : Int32) = 0 ∨ _ = 1; simp (disch := first | omega | decide) only [hm, zcn, zkpl, zki, zki1, zk8, zk16, zo32, zlt0, zle0, zeq0, zgt0, zLe0, nI_ltI, nI_leI, nI_eq, nI_add, nI_clamp, vp_in_nI, zup_s, zup_n, upd_s, upd_n, ne_eq, not_true_eq_false, not_false_eq_true, zeq1, true_or, or_true]; done))
theorem tk_loop {s : pS} (hr : rdy s) {sz : Nat} (hs : sz ≤ 3) (Q : zQ) : ∀ (n t : Nat) (m : zM), t + n = sz → tD m s → m 11 4 = nI sz → (∀ m', vF m m' → (∀ k, k ≤ 4 + 5 * t → m' 13 k = m 13 k) → (∀ t', t ≤ t' → t' < sz → trO s (4 + 5 * t') 1 1 ∧ ∀ i, 1 ≤ i → i < 5 → valO s m' (4 + 5 * t' + i)) → Q (some (.int 1)) (SH, m')) → (∀ m' t', vF m m' → t ≤ t' → t' < sz → ¬ trO s (4 + 5 * t') 1 1 → Q (some (.int 0)) (SH, m')) → ZW 32 (0, 0, 0, 0) 109 [(2, .int (nI t)), (1, .int 1), (0, .ref 11)] [] (SH, m) Q := by
  intro n
  induction n with
  | zero =>
    intro t m ht hD h4 hQ1 _
    exact tk_ex h4 hs (by omega) (Or.inr ⟨rfl, by omega⟩) (hQ1 m (fun _ _ _ => rfl) (fun _ _ => rfl) (fun t' g1 g2 => by omega))
  | succ n ih =>
    intro t m ht hD h4 hQ1 hQ2
    have e3 : nI t + Int32.ofInt 1 = nI (t + 1) := by rw [zki, nI_add]
    have f133 : ∀ (b : Int32) m', (b = 0 ∨ b = 1) → ZW 32 (0, 0, 0, 0) 109 [(2, .int (nI (t + 1))), (1, .int b), (0, .ref 11)] [] (SH, m') Q → ZW 32 (0, 0, 0, 0) 133 [(2, .int (nI t)), (1, .int 1), (0, .ref 11)] [.int b] (SH, m') Q := by
      intro b m' hb W
      rw [← e3] at W
      refine zgo 20 [] ?_
      exact W
    have hrow := tk_row1 hr (p := 4 + 5 * t) (dep := 1) (by omega) (by omega) hD (fun r h => ZW 32 (0, 0, 0, 0) 133 [(2, .int (nI t)), (1, .int 1), (0, .ref 11)] (r.toList ++ []) h Q) (fun m' w1 w2 w3 w4 => f133 1 m' (Or.inr rfl) (ih (t + 1) m' (by omega) (hD.cg (fun a ha => w1 a (by omega) (by omega))) (by rw [w1 11 (by decide) (by decide)]; exact h4) (fun m'' v1 v2 v3 => hQ1 m'' (fun a ha hb => (v1 a ha hb).trans (w1 a ha hb)) (fun k hk => by rw [v2 k (by omega), w2 k hk]) (fun t' g1 g2 => by
        by_cases e : t' = t
        · subst e
          refine ⟨w3, fun i g1 g2 => ?_⟩
          unfold valO
          rw [v2 _ (by omega)]
          exact w4 i g1 g2
        · exact v3 t' (by omega) g2)) (fun m'' t' v1 v2 v3 v4 => hQ2 m'' t' (fun a ha hb => (v1 a ha hb).trans (w1 a ha hb)) (by omega) v3 v4))) (fun m' w1 w2 => f133 0 m' (Or.inl rfl) (tk_ex (by rw [w1 11 (by decide) (by decide)]; exact h4) hs (by omega) (Or.inl rfl) (hQ2 m' t w1 (Nat.le_refl t) (by omega) w2)))
    have f127 : ZW 32 (0, 0, 0, 0) 127 [(2, .int (nI t)), (1, .int 1), (0, .ref 11)] [.int (nI (4 + 5 * t)), .ref 11] (SH, m) Q := by
      refine zgo 5 [] ?_
      repeat' (first
        | (exact hrow)
        | (show vp_in _ _; simp (disch := first | omega | decide) only [zcn, zkpl, zki, zki1, zk8, zk16, zo32, zlt0, zle0, zeq0, zgt0, zLe0, nI_ltI, nI_leI, nI_eq, nI_add, nI_clamp, vp_in_nI, zup_s, zup_n, upd_s, upd_n, ne_eq, not_true_eq_false, not_false_eq_true]; done)
        | (intro hc; exfalso; simp (disch := first | omega | decide) only [zcn, zkpl, zki, zki1, zk8, zk16, zo32, zlt0, zle0, zeq0, zgt0, zLe0, nI_ltI, nI_leI, nI_eq, nI_add, nI_clamp, vp_in_nI, zup_s, zup_n, upd_s, upd_n, ne_eq, not_true_eq_false, not_false_eq_true] at hc <;> omega)
        | (intro hc; exact absurd rfl hc)
        | intro hc
        | apply And.intro
        | exact Or.inl rfl
        | exact Or.inr rfl
        | (show (_ : Int32) = 0 ∨ _ = 1; simp (disch := first | omega | decide) only [zcn, zkpl, zki, zki1, zk8, zk16, zo32, zlt0, zle0, zeq0, zgt0, zLe0, nI_ltI, nI_leI, nI_eq, nI_add, nI_clamp, vp_in_nI, zup_s, zup_n, upd_s, upd_n, ne_eq, not_true_eq_false, not_false_eq_true, zeq1, true_or, or_true]; done))
    refine zgo 20 [] ?_
    repeat' (first
      | (exact (ev_plc t).use f127)
      | (show vp_in _ _; simp (disch := first | omega | decide) only [h4, z10, zcn, zkpl, zki, zki1, zk8, zk16, zo32, zlt0, zle0, zeq0, zgt0, zLe0, nI_ltI, nI_leI, nI_eq, nI_add, nI_clamp, vp_in_nI, zup_s, zup_n, upd_s, upd_n, ne_eq, not_true_eq_false, not_false_eq_true]; done)
      | (intro hc; exfalso; simp (disch := first | omega | decide) only [h4, z10, zcn, zkpl, zki, zki1, zk8, zk16, zo32, zlt0, zle0, zeq0, zgt0, zLe0, nI_ltI, nI_leI, nI_eq, nI_add, nI_clamp, vp_in_nI, zup_s, zup_n, upd_s, upd_n, ne_eq, not_true_eq_false, not_false_eq_true] at hc <;> omega)
      | (intro hc; exact absurd rfl hc)
      | intro hc
      | apply And.intro
      | exact Or.inl rfl
      | exact Or.inr rfl
      | (show (_ : Int32) = 0 ∨ _ = 1; simp (disch := first | omega | decide) only [h4, z10, zcn, zkpl, zki, zki1, zk8, zk16, zo32, zlt0, zle0, zeq0, zgt0, zLe0, nI_ltI, nI_leI, nI_eq, nI_add, nI_clamp, vp_in_nI, zup_s, zup_n, upd_s, upd_n, ne_eq, not_true_eq_false, not_false_eq_true, zeq1, true_or, or_true]; done))
def clV (s : pS) : Prop := (s 2 0 = 80 ∧ ∃ n, 1 ≤ n ∧ n ≤ 3 ∧ s 0 1 = 4 + 5 * n ∧ trO s 0 0 0 ∧ ∀ t, t < n → trO s (4 + 5 * t) 1 1) ∨ (s 2 0 = 81 ∧ s 0 1 = 4 ∧ trO s 0 2 0) ∨ (s 2 0 = 82 ∧ s 0 1 = 4 ∧ trO s 0 3 0)
/-- the values of a valid message: n transactions -/
def clW (s : pS) (m : zM) (n : Nat) : Prop := m 11 3 = nI (s 2 0) ∧ m 11 4 = nI n ∧ (∀ i, 1 ≤ i → i < 4 → valO s m i) ∧ ∀ t, t < n → ∀ i, 1 ≤ i → i < 5 → valO s m (4 + 5 * t + i)
theorem dv5 {N : Nat} (h : 1 ≤ N ∧ N ≤ 75) : (nI N - nI 4) / nI 5 = nI ((N - 4) / 5) := by
  have : ∀ N : Fin 76, 1 ≤ N.val → (nI N.val - nI 4) / nI 5 = nI ((N.val - 4) / 5) := by decide +kernel
  exact this ⟨N, by omega⟩ h.1
theorem ev_size {m : zM} : Ev 111 [.ref 1] m (some (.int (m 1 5))) m := by
  intro Q hQ
  refine zgo 20 [] ?_
  repeat' (first
    | (show vp_in _ _; simp (disch := first | omega | decide) only [zcn, zkpl, zki, zki1, zk8, zk16, zo32, zlt0, zle0, zeq0, zgt0, zLe0, nI_ltI, nI_leI, nI_eq, nI_add, nI_clamp, vp_in_nI, zup_s, zup_n, upd_s, upd_n, ne_eq, not_true_eq_false, not_false_eq_true]; done)
    | (intro hc; exfalso; simp (disch := first | omega | decide) only [zcn, zkpl, zki, zki1, zk8, zk16, zo32, zlt0, zle0, zeq0, zgt0, zLe0, nI_ltI, nI_leI, nI_eq, nI_add, nI_clamp, vp_in_nI, zup_s, zup_n, upd_s, upd_n, ne_eq, not_true_eq_false, not_false_eq_true] at hc <;> omega)
    | (intro hc; exact absurd rfl hc)
    | intro hc
    | apply And.intro
    | exact hQ
    | (show Q _ (SH, _); simp (disch := first | omega | decide) only [zcn, zkpl, zki, zki1, zk8, zk16, zo32, zlt0, zle0, zeq0, zgt0, zLe0, nI_ltI, nI_leI, nI_eq, nI_add, nI_clamp, vp_in_nI, zup_s, zup_n, upd_s, upd_n, ne_eq, not_true_eq_false, not_false_eq_true]; exact hQ)
    | exact Or.inl rfl
    | exact Or.inr rfl
    | (show (_ : Int32) = 0 ∨ _ = 1; simp (disch := first | omega | decide) only [zcn, zkpl, zki, zki1, zk8, zk16, zo32, zlt0, zle0, zeq0, zgt0, zLe0, nI_ltI, nI_leI, nI_eq, nI_add, nI_clamp, vp_in_nI, zup_s, zup_n, upd_s, upd_n, ne_eq, not_true_eq_false, not_false_eq_true, zeq1, true_or, or_true]; done))
theorem ev_take {s : pS} (hr : rdy s) (h0 : 0 < s 0 1) {m : zM} (hD : tD m s) (Q : zQ) (hQ1 : ∀ m' n, kF m m' → clV s → clW s m' n → ((s 2 0 = 80 ∧ 1 ≤ n ∧ n ≤ 3 ∧ s 0 1 = 4 + 5 * n) ∨ (s 2 0 ≠ 80 ∧ n = 0 ∧ s 0 1 = 4)) → Q (some (.int 1)) (SH, m')) (hQ2 : ∀ m', kF m m' → ¬ clV s → Q (some (.int 0)) (SH, m')) : ZM 32 0 0 [.ref 11] (SH, m) Q := by
  have hr0 := hr
  obtain ⟨hs, hN, hb3⟩ := hr
  have hlet := ev_lett hD hN h0
  have hsz : ∀ m', vF m m' ∨ kF m m' → Ev 111 [.ref 1] m' (some (.int (nI (s 0 1)))) m' := by
    intro m' g
    have : m' 1 5 = nI (s 0 1) := by
      rcases g with g | g
      · rw [g 1 (by decide) (by decide)]
        exact hD.1.1
      · rw [g 1 (by decide) (by decide) (by decide)]
        exact hD.1.1
    rw [← this]
    exact ev_size
  have hk := (hb3 0 h0).1
  -- behind the size
  have core : ∀ n (m2 : zM), kF m m2 → m2 11 3 = nI (s 2 0) → m2 11 4 = nI n → n ≤ 15 → (s 2 0 = 80 → n = (s 0 1 - 4) / 5) → (s 2 0 ≠ 80 → n = 0) → ZW 32 (0, 0, 0, 0) 40 [(0, .ref 11)] [] (SH, m2) Q := by
    intro n m2 hF h3 h4 hn15 hn1 hn2
    have hD2 : tD m2 s := hD.cg (fun a ha => hF a (by omega) (by omega) (by omega))
    have tr : ∀ m', vF m2 m' → kF m m' := fun m' g a h1 h2 h3 => (g a h2 h3).trans (hF a h1 h2 h3)
    by_cases e3 : 3 < n
    · have hQ := hQ2 m2 hF (fun g => by unfold clV at g; omega)
      refine zgo 20 [] ?_
      repeat' (first
        | (show vp_in _ _; simp (disch := first | omega | decide) only [h4, zcn, zkpl, zki, zki1, zk8, zk16, zo32, zlt0, zle0, zeq0, zgt0, zLe0, nI_ltI, nI_leI, nI_eq, nI_add, nI_clamp, vp_in_nI, zup_s, zup_n, upd_s, upd_n, ne_eq, not_true_eq_false, not_false_eq_true]; done)
        | (intro hc; exfalso; simp (disch := first | omega | decide) only [h4, zcn, zkpl, zki, zki1, zk8, zk16, zo32, zlt0, zle0, zeq0, zgt0, zLe0, nI_ltI, nI_leI, nI_eq, nI_add, nI_clamp, vp_in_nI, zup_s, zup_n, upd_s, upd_n, ne_eq, not_true_eq_false, not_false_eq_true] at hc <;> omega)
        | (intro hc; exact absurd rfl hc)
        | intro hc
        | apply And.intro
        | exact hQ
        | (show Q _ (SH, _); simp (disch := first | omega | decide) only [h4, zcn, zkpl, zki, zki1, zk8, zk16, zo32, zlt0, zle0, zeq0, zgt0, zLe0, nI_ltI, nI_leI, nI_eq, nI_add, nI_clamp, vp_in_nI, zup_s, zup_n, upd_s, upd_n, ne_eq, not_true_eq_false, not_false_eq_true]; exact hQ)
        | exact Or.inl rfl
        | exact Or.inr rfl
        | (show (_ : Int32) = 0 ∨ _ = 1; simp (disch := first | omega | decide) only [h4, zcn, zkpl, zki, zki1, zk8, zk16, zo32, zlt0, zle0, zeq0, zgt0, zLe0, nI_ltI, nI_leI, nI_eq, nI_add, nI_clamp, vp_in_nI, zup_s, zup_n, upd_s, upd_n, ne_eq, not_true_eq_false, not_false_eq_true, zeq1, true_or, or_true]; done))
    · by_cases e1 : s 2 0 = 80 ∧ n < 1
      · have hQ := hQ2 m2 hF (fun g => by unfold clV at g; omega)
        rw [e1.1] at h3
        refine zgo 20 [] ?_
        repeat' (first
          | (show vp_in _ _; simp (disch := first | omega | decide) only [h3, h4, zcn, zkpl, zki, zki1, zk8, zk16, zo32, zlt0, zle0, zeq0, zgt0, zLe0, nI_ltI, nI_leI, nI_eq, nI_add, nI_clamp, vp_in_nI, zup_s, zup_n, upd_s, upd_n, ne_eq, not_true_eq_false, not_false_eq_true]; done)
          | (intro hc; exfalso; simp (disch := first | omega | decide) only [h3, h4, zcn, zkpl, zki, zki1, zk8, zk16, zo32, zlt0, zle0, zeq0, zgt0, zLe0, nI_ltI, nI_leI, nI_eq, nI_add, nI_clamp, vp_in_nI, zup_s, zup_n, upd_s, upd_n, ne_eq, not_true_eq_false, not_false_eq_true] at hc <;> omega)
          | (intro hc; exact absurd rfl hc)
          | intro hc
          | apply And.intro
          | exact hQ
          | (show Q _ (SH, _); simp (disch := first | omega | decide) only [h3, h4, zcn, zkpl, zki, zki1, zk8, zk16, zo32, zlt0, zle0, zeq0, zgt0, zLe0, nI_ltI, nI_leI, nI_eq, nI_add, nI_clamp, vp_in_nI, zup_s, zup_n, upd_s, upd_n, ne_eq, not_true_eq_false, not_false_eq_true]; exact hQ)
          | exact Or.inl rfl
          | exact Or.inr rfl
          | (show (_ : Int32) = 0 ∨ _ = 1; simp (disch := first | omega | decide) only [h3, h4, zcn, zkpl, zki, zki1, zk8, zk16, zo32, zlt0, zle0, zeq0, zgt0, zLe0, nI_ltI, nI_leI, nI_eq, nI_add, nI_clamp, vp_in_nI, zup_s, zup_n, upd_s, upd_n, ne_eq, not_true_eq_false, not_false_eq_true, zeq1, true_or, or_true]; done))
      · have f109 : ∀ (b : Int32) m', (b = 0 ∨ b = 1) → ZW 32 (0, 0, 0, 0) 109 [(2, .int (nI 0)), (1, .int b), (0, .ref 11)] [] (SH, m') Q → ZW 32 (0, 0, 0, 0) 106 [(0, .ref 11)] [.int b] (SH, m') Q := by
          intro b m' hb W
          refine zgo 5 [] ?_
          exact W
        have f98 : ∀ (b : Int32) m', (b = 0 ∨ b = 1) → ZW 32 (0, 0, 0, 0) 109 [(2, .int (nI 0)), (1, .int b), (0, .ref 11)] [] (SH, m') Q → ZW 32 (0, 0, 0, 0) 98 [(0, .ref 11)] [.int b] (SH, m') Q := by
          intro b m' hb W
          have W1 := f109 b m' hb W
          rcases hb with rfl | rfl
          · refine zgo 2 [] ?_
            repeat' (first
              | (exact W1)
              | (show vp_in _ _; simp (disch := first | omega | decide) only [z10, zcn, zkpl, zki, zki1, zk8, zk16, zo32, zlt0, zle0, zeq0, zgt0, zLe0, nI_ltI, nI_leI, nI_eq, nI_add, nI_clamp, vp_in_nI, zup_s, zup_n, upd_s, upd_n, ne_eq, not_true_eq_false, not_false_eq_true]; done)
              | (intro hc; exfalso; simp (disch := first | omega | decide) only [z10, zcn, zkpl, zki, zki1, zk8, zk16, zo32, zlt0, zle0, zeq0, zgt0, zLe0, nI_ltI, nI_leI, nI_eq, nI_add, nI_clamp, vp_in_nI, zup_s, zup_n, upd_s, upd_n, ne_eq, not_true_eq_false, not_false_eq_true] at hc <;> omega)
              | (intro hc; exact absurd rfl hc)
              | intro hc
              | apply And.intro
              | exact Or.inl rfl
              | exact Or.inr rfl
              | (show (_ : Int32) = 0 ∨ _ = 1; simp (disch := first | omega | decide) only [z10, zcn, zkpl, zki, zki1, zk8, zk16, zo32, zlt0, zle0, zeq0, zgt0, zLe0, nI_ltI, nI_leI, nI_eq, nI_add, nI_clamp, vp_in_nI, zup_s, zup_n, upd_s, upd_n, ne_eq, not_true_eq_false, not_false_eq_true, zeq1, true_or, or_true]; done))
          · refine zgo 3 [] ?_
            repeat' (first
              | (exact W1)
              | (show vp_in _ _; simp (disch := first | omega | decide) only [z10, zcn, zkpl, zki, zki1, zk8, zk16, zo32, zlt0, zle0, zeq0, zgt0, zLe0, nI_ltI, nI_leI, nI_eq, nI_add, nI_clamp, vp_in_nI, zup_s, zup_n, upd_s, upd_n, ne_eq, not_true_eq_false, not_false_eq_true]; done)
              | (intro hc; exfalso; simp (disch := first | omega | decide) only [z10, zcn, zkpl, zki, zki1, zk8, zk16, zo32, zlt0, zle0, zeq0, zgt0, zLe0, nI_ltI, nI_leI, nI_eq, nI_add, nI_clamp, vp_in_nI, zup_s, zup_n, upd_s, upd_n, ne_eq, not_true_eq_false, not_false_eq_true] at hc <;> omega)
              | (intro hc; exact absurd rfl hc)
              | intro hc
              | apply And.intro
              | exact Or.inl rfl
              | exact Or.inr rfl
              | (show (_ : Int32) = 0 ∨ _ = 1; simp (disch := first | omega | decide) only [z10, zcn, zkpl, zki, zki1, zk8, zk16, zo32, zlt0, zle0, zeq0, zgt0, zLe0, nI_ltI, nI_leI, nI_eq, nI_add, nI_clamp, vp_in_nI, zup_s, zup_n, upd_s, upd_n, ne_eq, not_true_eq_false, not_false_eq_true, zeq1, true_or, or_true]; done))
        have f67 : ZW 32 (0, 0, 0, 0) 67 [(0, .ref 11)] [] (SH, m2) Q := by
          have hsz2 := hsz m2 (Or.inr hF)
          by_cases e4 : s 0 1 = 4 + 5 * n
          · have f91 : ∀ (a : Nat), Ev 158 [.int (nI (s 2 0))] m2 (some (.ref a)) m2 → ZM 33 0 0 [.ref 11, .int (nI 0), .ref a, .int (nI 0)] (SH, m2) (fun r h => ZW 32 (0, 0, 0, 0) 98 [(0, .ref 11)] (r.toList ++ []) h Q) → ZW 32 (0, 0, 0, 0) 74 [(0, .ref 11)] [.int (nI (s 0 1))] (SH, m2) Q := by
              intro a g1 g2
              rw [← h3] at g1
              have f94 : ZW 32 (0, 0, 0, 0) 94 [(0, .ref 11)] [.ref a, .int (nI 0), .ref 11] (SH, m2) Q := by
                refine zgo 5 [] ?_
                repeat' (first
                  | (exact g2)
                  | (show vp_in _ _; simp (disch := first | omega | decide) only [zcn, zkpl, zki, zki1, zk8, zk16, zo32, zlt0, zle0, zeq0, zgt0, zLe0, nI_ltI, nI_leI, nI_eq, nI_add, nI_clamp, vp_in_nI, zup_s, zup_n, upd_s, upd_n, ne_eq, not_true_eq_false, not_false_eq_true]; done)
                  | (intro hc; exfalso; simp (disch := first | omega | decide) only [zcn, zkpl, zki, zki1, zk8, zk16, zo32, zlt0, zle0, zeq0, zgt0, zLe0, nI_ltI, nI_leI, nI_eq, nI_add, nI_clamp, vp_in_nI, zup_s, zup_n, upd_s, upd_n, ne_eq, not_true_eq_false, not_false_eq_true] at hc <;> omega)
                  | (intro hc; exact absurd rfl hc)
                  | intro hc
                  | apply And.intro
                  | exact Or.inl rfl
                  | exact Or.inr rfl
                  | (show (_ : Int32) = 0 ∨ _ = 1; simp (disch := first | omega | decide) only [zcn, zkpl, zki, zki1, zk8, zk16, zo32, zlt0, zle0, zeq0, zgt0, zLe0, nI_ltI, nI_leI, nI_eq, nI_add, nI_clamp, vp_in_nI, zup_s, zup_n, upd_s, upd_n, ne_eq, not_true_eq_false, not_false_eq_true, zeq1, true_or, or_true]; done))
              generalize s 0 1 = N at *
              refine zgo 20 [] ?_
              repeat' (first
                | (exact g1.use f94)
                | (show vp_in _ _; simp (disch := first | omega | decide) only [h4, pk_mul, zcn, zkpl, zki, zki1, zk8, zk16, zo32, zlt0, zle0, zeq0, zgt0, zLe0, nI_ltI, nI_leI, nI_eq, nI_add, nI_clamp, vp_in_nI, zup_s, zup_n, upd_s, upd_n, ne_eq, not_true_eq_false, not_false_eq_true]; done)
                | (intro hc; exfalso; simp (disch := first | omega | decide) only [h4, pk_mul, zcn, zkpl, zki, zki1, zk8, zk16, zo32, zlt0, zle0, zeq0, zgt0, zLe0, nI_ltI, nI_leI, nI_eq, nI_add, nI_clamp, vp_in_nI, zup_s, zup_n, upd_s, upd_n, ne_eq, not_true_eq_false, not_false_eq_true] at hc <;> omega)
                | (intro hc; exact absurd rfl hc)
                | intro hc
                | apply And.intro
                | exact Or.inl rfl
                | exact Or.inr rfl
                | (show (_ : Int32) = 0 ∨ _ = 1; simp (disch := first | omega | decide) only [h4, pk_mul, zcn, zkpl, zki, zki1, zk8, zk16, zo32, zlt0, zle0, zeq0, zgt0, zLe0, nI_ltI, nI_leI, nI_eq, nI_add, nI_clamp, vp_in_nI, zup_s, zup_n, upd_s, upd_n, ne_eq, not_true_eq_false, not_false_eq_true, zeq1, true_or, or_true]; done))
            have f74 : ZW 32 (0, 0, 0, 0) 74 [(0, .ref 11)] [.int (nI (s 0 1))] (SH, m2) Q := by
              by_cases k80 : s 2 0 = 80
              · refine f91 1000010 (ev_rowOf (by omega) (Or.inl ⟨k80, rfl⟩)) (tk_row0 hr0 (p := 0) (dep := 0) (by omega) (by omega) hD2 _ (fun m' w1 w2 w3 w4 => f98 1 m' (Or.inr rfl) (tk_loop hr0 (sz := n) (by omega) Q n 0 m' (by omega) (hD2.cg (fun a ha => w1 a (by omega) (by omega))) (by rw [w1 11 (by decide) (by decide)]; exact h4) (fun m'' v1 v2 v3 => hQ1 m'' n (tr m'' (fun a ha hb => (v1 a ha hb).trans (w1 a ha hb))) (Or.inl ⟨k80, n, by omega, by omega, e4, w3, fun t ht => (v3 t (by omega) ht).1⟩) ⟨by rw [v1 11 (by decide) (by decide), w1 11 (by decide) (by decide)]; exact h3, by rw [v1 11 (by decide) (by decide), w1 11 (by decide) (by decide)]; exact h4, fun i g1 g2 => by
                  unfold valO
                  rw [v2 i (by omega)]
                  have := w4 i g1 g2
                  rw [Nat.zero_add] at this
                  exact this, fun t ht i g1 g2 => (v3 t (by omega) ht).2 i g1 g2⟩ (Or.inl ⟨k80, by omega, by omega, e4⟩)) (fun m'' t' v1 v2 v3 v4 => hQ2 m'' (tr m'' (fun a ha hb => (v1 a ha hb).trans (w1 a ha hb))) (fun g => by
                  rcases g with ⟨_, n', q1, q2, q3, q4, q5⟩ | g | g
                  · exact v4 (q5 t' (by omega))
                  · omega
                  · omega)))) (fun m' w1 w2 => f98 0 m' (Or.inl rfl) (tk_ex (by rw [w1 11 (by decide) (by decide)]; exact h4) (by omega) (by omega) (Or.inl rfl) (hQ2 m' (tr m' w1) (fun g => by
                  rcases g with ⟨_, n', q1, q2, q3, q4, q5⟩ | g | g
                  · exact w2 q4
                  · omega
                  · omega)))))
              · have hn0 := hn2 k80
                subst hn0
                have good : ∀ j, (s 2 0 = 81 ∧ j = 2 ∨ s 2 0 = 82 ∧ j = 3) → ∀ m', vF m2 m' → trO s 0 j 0 → (∀ i', 1 ≤ i' → i' < 4 → cvR s (0 + i') (m' 13 (0 + i')) ∧ m' 13 (0 + i') ≠ -1) → ZW 32 (0, 0, 0, 0) 98 [(0, .ref 11)] [.int 1] (SH, m') Q := by
                  intro j hj m' w1 w3 w4
                  refine f98 1 m' (Or.inr rfl) (tk_ex (sz := 0) (by rw [w1 11 (by decide) (by decide)]; exact h4) (by omega) (by omega) (Or.inr ⟨rfl, by omega⟩) (hQ1 m' 0 (tr m' w1) ?_ ⟨by rw [w1 11 (by decide) (by decide)]; exact h3, by rw [w1 11 (by decide) (by decide)]; exact h4, fun i g1 g2 => ?_, fun t ht => absurd ht (Nat.not_lt_zero t)⟩ (Or.inr ⟨k80, rfl, e4⟩)))
                  · rcases hj with ⟨g1, rfl⟩ | ⟨g1, rfl⟩
                    · exact Or.inr (Or.inl ⟨g1, e4, w3⟩)
                    · exact Or.inr (Or.inr ⟨g1, e4, w3⟩)
                  · have := w4 i g1 g2
                    rw [Nat.zero_add] at this
                    exact this
                have bad : ∀ m', vF m2 m' → ¬ clV s → ZW 32 (0, 0, 0, 0) 98 [(0, .ref 11)] [.int 0] (SH, m') Q := fun m' w1 w2 => f98 0 m' (Or.inl rfl) (tk_ex (sz := 0) (by rw [w1 11 (by decide) (by decide)]; exact h4) (by omega) (by omega) (Or.inl rfl) (hQ2 m' (tr m' w1) w2))
                by_cases k81 : s 2 0 = 81
                · exact f91 1000012 (ev_rowOf (by omega) (Or.inr (Or.inl ⟨k81, rfl⟩))) (tk_row2 hr0 (p := 0) (dep := 0) (by omega) (by omega) hD2 _ (fun m' w1 w2 w3 w4 => good 2 (Or.inl ⟨k81, rfl⟩) m' w1 w3 w4) (fun m' w1 w2 => bad m' w1 (fun g => by
                    rcases g with g | g | g
                    · omega
                    · exact w2 g.2.2
                    · omega)))
                · by_cases k82 : s 2 0 = 82
                  · exact f91 1000013 (ev_rowOf (by omega) (Or.inr (Or.inr (Or.inl ⟨k82, rfl⟩)))) (tk_row3 hr0 (p := 0) (dep := 0) (by omega) (by omega) hD2 _ (fun m' w1 w2 w3 w4 => good 3 (Or.inr ⟨k82, rfl⟩) m' w1 w3 w4) (fun m' w1 w2 => bad m' w1 (fun g => by
                      rcases g with g | g | g
                      · omega
                      · omega
                      · exact w2 g.2.2)))
                  · exact f91 1000014 (ev_rowOf (by omega) (Or.inr (Or.inr (Or.inr ⟨k80, k81, k82, rfl⟩)))) (ev_rowE.use (bad m2 (fun _ _ _ => rfl) (fun g => by unfold clV at g; omega)))
            refine zgo 5 [] ?_
            repeat' (first
              | (exact hsz2.use f74)
              | (show vp_in _ _; simp (disch := first | omega | decide) only [zcn, zkpl, zki, zki1, zk8, zk16, zo32, zlt0, zle0, zeq0, zgt0, zLe0, nI_ltI, nI_leI, nI_eq, nI_add, nI_clamp, vp_in_nI, zup_s, zup_n, upd_s, upd_n, ne_eq, not_true_eq_false, not_false_eq_true]; done)
              | (intro hc; exfalso; simp (disch := first | omega | decide) only [zcn, zkpl, zki, zki1, zk8, zk16, zo32, zlt0, zle0, zeq0, zgt0, zLe0, nI_ltI, nI_leI, nI_eq, nI_add, nI_clamp, vp_in_nI, zup_s, zup_n, upd_s, upd_n, ne_eq, not_true_eq_false, not_false_eq_true] at hc <;> omega)
              | (intro hc; exact absurd rfl hc)
              | intro hc
              | apply And.intro
              | exact Or.inl rfl
              | exact Or.inr rfl
              | (show (_ : Int32) = 0 ∨ _ = 1; simp (disch := first | omega | decide) only [zcn, zkpl, zki, zki1, zk8, zk16, zo32, zlt0, zle0, zeq0, zgt0, zLe0, nI_ltI, nI_leI, nI_eq, nI_add, nI_clamp, vp_in_nI, zup_s, zup_n, upd_s, upd_n, ne_eq, not_true_eq_false, not_false_eq_true, zeq1, true_or, or_true]; done))
          · have hQ := hQ2 m2 hF (fun g => by unfold clV at g; omega)
            have W1 := f109 0 m2 (Or.inl rfl) (tk_ex h4 (by omega) (by omega) (Or.inl rfl) hQ)
            have f74 : ZW 32 (0, 0, 0, 0) 74 [(0, .ref 11)] [.int (nI (s 0 1))] (SH, m2) Q := by
              generalize s 0 1 = N at *
              refine zgo 8 [] ?_
              repeat' (first
                | (exact W1)
                | (show vp_in _ _; simp (disch := first | omega | decide) only [h4, pk_mul, zcn, zkpl, zki, zki1, zk8, zk16, zo32, zlt0, zle0, zeq0, zgt0, zLe0, nI_ltI, nI_leI, nI_eq, nI_add, nI_clamp, vp_in_nI, zup_s, zup_n, upd_s, upd_n, ne_eq, not_true_eq_false, not_false_eq_true]; done)
                | (intro hc; exfalso; simp (disch := first | omega | decide) only [h4, pk_mul, zcn, zkpl, zki, zki1, zk8, zk16, zo32, zlt0, zle0, zeq0, zgt0, zLe0, nI_ltI, nI_leI, nI_eq, nI_add, nI_clamp, vp_in_nI, zup_s, zup_n, upd_s, upd_n, ne_eq, not_true_eq_false, not_false_eq_true] at hc <;> omega)
                | (intro hc; exact absurd rfl hc)
                | intro hc
                | apply And.intro
                | exact Or.inl rfl
                | exact Or.inr rfl
                | (show (_ : Int32) = 0 ∨ _ = 1; simp (disch := first | omega | decide) only [h4, pk_mul, zcn, zkpl, zki, zki1, zk8, zk16, zo32, zlt0, zle0, zeq0, zgt0, zLe0, nI_ltI, nI_leI, nI_eq, nI_add, nI_clamp, vp_in_nI, zup_s, zup_n, upd_s, upd_n, ne_eq, not_true_eq_false, not_false_eq_true, zeq1, true_or, or_true]; done))
            refine zgo 5 [] ?_
            repeat' (first
              | (exact hsz2.use f74)
              | (show vp_in _ _; simp (disch := first | omega | decide) only [zcn, zkpl, zki, zki1, zk8, zk16, zo32, zlt0, zle0, zeq0, zgt0, zLe0, nI_ltI, nI_leI, nI_eq, nI_add, nI_clamp, vp_in_nI, zup_s, zup_n, upd_s, upd_n, ne_eq, not_true_eq_false, not_false_eq_true]; done)
              | (intro hc; exfalso; simp (disch := first | omega | decide) only [zcn, zkpl, zki, zki1, zk8, zk16, zo32, zlt0, zle0, zeq0, zgt0, zLe0, nI_ltI, nI_leI, nI_eq, nI_add, nI_clamp, vp_in_nI, zup_s, zup_n, upd_s, upd_n, ne_eq, not_true_eq_false, not_false_eq_true] at hc <;> omega)
              | (intro hc; exact absurd rfl hc)
              | intro hc
              | apply And.intro
              | exact Or.inl rfl
              | exact Or.inr rfl
              | (show (_ : Int32) = 0 ∨ _ = 1; simp (disch := first | omega | decide) only [zcn, zkpl, zki, zki1, zk8, zk16, zo32, zlt0, zle0, zeq0, zgt0, zLe0, nI_ltI, nI_leI, nI_eq, nI_add, nI_clamp, vp_in_nI, zup_s, zup_n, upd_s, upd_n, ne_eq, not_true_eq_false, not_false_eq_true, zeq1, true_or, or_true]; done))
        by_cases k80 : s 2 0 = 80
        · rw [k80] at h3
          refine zgo 12 [] ?_
          repeat' (first
            | (exact f67)
            | (show vp_in _ _; simp (disch := first | omega | decide) only [h3, h4, zcn, zkpl, zki, zki1, zk8, zk16, zo32, zlt0, zle0, zeq0, zgt0, zLe0, nI_ltI, nI_leI, nI_eq, nI_add, nI_clamp, vp_in_nI, zup_s, zup_n, upd_s, upd_n, ne_eq, not_true_eq_false, not_false_eq_true]; done)
            | (intro hc; exfalso; simp (disch := first | omega | decide) only [h3, h4, zcn, zkpl, zki, zki1, zk8, zk16, zo32, zlt0, zle0, zeq0, zgt0, zLe0, nI_ltI, nI_leI, nI_eq, nI_add, nI_clamp, vp_in_nI, zup_s, zup_n, upd_s, upd_n, ne_eq, not_true_eq_false, not_false_eq_true] at hc <;> omega)
            | (intro hc; exact absurd rfl hc)
            | intro hc
            | apply And.intro
            | exact Or.inl rfl
            | exact Or.inr rfl
            | (show (_ : Int32) = 0 ∨ _ = 1; simp (disch := first | omega | decide) only [h3, h4, zcn, zkpl, zki, zki1, zk8, zk16, zo32, zlt0, zle0, zeq0, zgt0, zLe0, nI_ltI, nI_leI, nI_eq, nI_add, nI_clamp, vp_in_nI, zup_s, zup_n, upd_s, upd_n, ne_eq, not_true_eq_false, not_false_eq_true, zeq1, true_or, or_true]; done))
        · refine zgo 8 [] ?_
          repeat' (first
            | (exact f67)
            | (show vp_in _ _; simp (disch := first | omega | decide) only [h3, h4, zcn, zkpl, zki, zki1, zk8, zk16, zo32, zlt0, zle0, zeq0, zgt0, zLe0, nI_ltI, nI_leI, nI_eq, nI_add, nI_clamp, vp_in_nI, zup_s, zup_n, upd_s, upd_n, ne_eq, not_true_eq_false, not_false_eq_true]; done)
            | (intro hc; exfalso; simp (disch := first | omega | decide) only [h3, h4, zcn, zkpl, zki, zki1, zk8, zk16, zo32, zlt0, zle0, zeq0, zgt0, zLe0, nI_ltI, nI_leI, nI_eq, nI_add, nI_clamp, vp_in_nI, zup_s, zup_n, upd_s, upd_n, ne_eq, not_true_eq_false, not_false_eq_true] at hc <;> omega)
            | (intro hc; exact absurd rfl hc)
            | intro hc
            | apply And.intro
            | exact Or.inl rfl
            | exact Or.inr rfl
            | (show (_ : Int32) = 0 ∨ _ = 1; simp (disch := first | omega | decide) only [h3, h4, zcn, zkpl, zki, zki1, zk8, zk16, zo32, zlt0, zle0, zeq0, zgt0, zLe0, nI_ltI, nI_leI, nI_eq, nI_add, nI_clamp, vp_in_nI, zup_s, zup_n, upd_s, upd_n, ne_eq, not_true_eq_false, not_false_eq_true, zeq1, true_or, or_true]; done))
  have f9 : ZW 32 (0, 0, 0, 0) 9 [(0, .ref 11)] [.int (nI (s 2 0)), .ref 11] (SH, m) Q := by
    by_cases k80 : s 2 0 = 80
    · have hsz1 := hsz (zup m 11 3 (nI 80)) (Or.inr (fun a h1 _ _ => zup_n _ h1))
      have W := core ((s 0 1 - 4) / 5) (zup (zup m 11 3 (nI 80)) 11 4 (nI ((s 0 1 - 4) / 5))) (fun a h1 _ _ => by rw [zup_n _ h1, zup_n _ h1]) (by rw [k80]; rfl) rfl (by omega) (fun _ => rfl) (fun g => absurd k80 g)
      have ed := dv5 (N := s 0 1) ⟨h0, hN⟩
      rw [k80]
      have f29 : ZW 32 (0, 0, 0, 0) 29 [(0, .ref 11)] [.int (nI (s 0 1)), .ref 11] (SH, zup m 11 3 (nI 80)) Q := by
        refine zgo 6 [] ?_
        repeat' (first
          | (exact zcg (by rw [← ed]; rfl) W)
          | (show vp_in _ _; simp (disch := first | omega | decide) only [zcn, zkpl, zki, zki1, zk8, zk16, zo32, zlt0, zle0, zeq0, zgt0, zLe0, nI_ltI, nI_leI, nI_eq, nI_add, nI_clamp, vp_in_nI, zup_s, zup_n, upd_s, upd_n, ne_eq, not_true_eq_false, not_false_eq_true]; done)
          | (intro hc; exfalso; simp (disch := first | omega | decide) only [zcn, zkpl, zki, zki1, zk8, zk16, zo32, zlt0, zle0, zeq0, zgt0, zLe0, nI_ltI, nI_leI, nI_eq, nI_add, nI_clamp, vp_in_nI, zup_s, zup_n, upd_s, upd_n, ne_eq, not_true_eq_false, not_false_eq_true] at hc <;> omega)
          | (intro hc; exact absurd rfl hc)
          | intro hc
          | apply And.intro
          | exact Or.inl rfl
          | exact Or.inr rfl
          | (show (_ : Int32) = 0 ∨ _ = 1; simp (disch := first | omega | decide) only [zcn, zkpl, zki, zki1, zk8, zk16, zo32, zlt0, zle0, zeq0, zgt0, zLe0, nI_ltI, nI_leI, nI_eq, nI_add, nI_clamp, vp_in_nI, zup_s, zup_n, upd_s, upd_n, ne_eq, not_true_eq_false, not_false_eq_true, zeq1, true_or, or_true]; done))
      refine zgo 20 [] ?_
      repeat' (first
        | (exact hsz1.use f29)
        | (show vp_in _ _; simp (disch := first | omega | decide) only [zcn, zkpl, zki, zki1, zk8, zk16, zo32, zlt0, zle0, zeq0, zgt0, zLe0, nI_ltI, nI_leI, nI_eq, nI_add, nI_clamp, vp_in_nI, zup_s, zup_n, upd_s, upd_n, ne_eq, not_true_eq_false, not_false_eq_true]; done)
        | (intro hc; exfalso; simp (disch := first | omega | decide) only [zcn, zkpl, zki, zki1, zk8, zk16, zo32, zlt0, zle0, zeq0, zgt0, zLe0, nI_ltI, nI_leI, nI_eq, nI_add, nI_clamp, vp_in_nI, zup_s, zup_n, upd_s, upd_n, ne_eq, not_true_eq_false, not_false_eq_true] at hc <;> omega)
        | (intro hc; exact absurd rfl hc)
        | intro hc
        | apply And.intro
        | exact Or.inl rfl
        | exact Or.inr rfl
        | (show (_ : Int32) = 0 ∨ _ = 1; simp (disch := first | omega | decide) only [zcn, zkpl, zki, zki1, zk8, zk16, zo32, zlt0, zle0, zeq0, zgt0, zLe0, nI_ltI, nI_leI, nI_eq, nI_add, nI_clamp, vp_in_nI, zup_s, zup_n, upd_s, upd_n, ne_eq, not_true_eq_false, not_false_eq_true, zeq1, true_or, or_true]; done))
    · have W := core 0 (zup (zup m 11 3 (nI (s 2 0))) 11 4 (nI 0)) (fun a h1 _ _ => by rw [zup_n _ h1, zup_n _ h1]) rfl rfl (by omega) (fun g => absurd g k80) (fun _ => rfl)
      generalize s 2 0 = k0 at *
      refine zgo 8 [] ?_
      repeat' (first
        | (exact W)
        | (show vp_in _ _; simp (disch := first | omega | decide) only [zcn, zkpl, zki, zki1, zk8, zk16, zo32, zlt0, zle0, zeq0, zgt0, zLe0, nI_ltI, nI_leI, nI_eq, nI_add, nI_clamp, vp_in_nI, zup_s, zup_n, upd_s, upd_n, ne_eq, not_true_eq_false, not_false_eq_true]; done)
        | (intro hc; exfalso; simp (disch := first | omega | decide) only [zcn, zkpl, zki, zki1, zk8, zk16, zo32, zlt0, zle0, zeq0, zgt0, zLe0, nI_ltI, nI_leI, nI_eq, nI_add, nI_clamp, vp_in_nI, zup_s, zup_n, upd_s, upd_n, ne_eq, not_true_eq_false, not_false_eq_true] at hc <;> omega)
        | (intro hc; exact absurd rfl hc)
        | intro hc
        | apply And.intro
        | exact Or.inl rfl
        | exact Or.inr rfl
        | (show (_ : Int32) = 0 ∨ _ = 1; simp (disch := first | omega | decide) only [zcn, zkpl, zki, zki1, zk8, zk16, zo32, zlt0, zle0, zeq0, zgt0, zLe0, nI_ltI, nI_leI, nI_eq, nI_add, nI_clamp, vp_in_nI, zup_s, zup_n, upd_s, upd_n, ne_eq, not_true_eq_false, not_false_eq_true, zeq1, true_or, or_true]; done))
  refine zgo 6 [] ?_
  repeat' (first
    | (exact hlet.use f9)
    | (show vp_in _ _; simp (disch := first | omega | decide) only [zcn, zkpl, zki, zki1, zk8, zk16, zo32, zlt0, zle0, zeq0, zgt0, zLe0, nI_ltI, nI_leI, nI_eq, nI_add, nI_clamp, vp_in_nI, zup_s, zup_n, upd_s, upd_n, ne_eq, not_true_eq_false, not_false_eq_true]; done)
    | (intro hc; exfalso; simp (disch := first | omega | decide) only [zcn, zkpl, zki, zki1, zk8, zk16, zo32, zlt0, zle0, zeq0, zgt0, zLe0, nI_ltI, nI_leI, nI_eq, nI_add, nI_clamp, vp_in_nI, zup_s, zup_n, upd_s, upd_n, ne_eq, not_true_eq_false, not_false_eq_true] at hc <;> omega)
    | (intro hc; exact absurd rfl hc)
    | intro hc
    | apply And.intro
    | exact Or.inl rfl
    | exact Or.inr rfl
    | (show (_ : Int32) = 0 ∨ _ = 1; simp (disch := first | omega | decide) only [zcn, zkpl, zki, zki1, zk8, zk16, zo32, zlt0, zle0, zeq0, zgt0, zLe0, nI_ltI, nI_leI, nI_eq, nI_add, nI_clamp, vp_in_nI, zup_s, zup_n, upd_s, upd_n, ne_eq, not_true_eq_false, not_false_eq_true, zeq1, true_or, or_true]; done))
