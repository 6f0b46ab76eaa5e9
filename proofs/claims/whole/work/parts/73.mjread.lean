/-! the model reads a message out of the journal -/
def tx (u : zM) (p : Nat) (ys : List Nat) : Prop := ∀ i, i < ys.length → u 58 (p + i) = nI (ys.getD i 0)
def tgA (zs : List Nat) (l i : Nat) : Prop := zs.getD i 0 = 60 ∧ zs.getD (i + 1) 0 = l ∧ zs.getD (i + 2) 0 = 62
/-- the first tag of letter l stands at k -/
def fst1 (l : Nat) (zs : List Nat) (k : Nat) : Prop := tgA zs l k ∧ k + 3 ≤ zs.length ∧ ∀ i, i < k → ¬ tgA zs l i
theorem fst_h {l : Nat} {zs : List Nat} : fst1 l (60 :: l :: 62 :: zs) 0 := ⟨⟨rfl, rfl, rfl⟩, by simp only [List.length_cons]; omega, fun i hi => absurd hi (Nat.not_lt_zero i)⟩
theorem fst_c {l c : Nat} {zs : List Nat} {k : Nat} (hc : c ≠ 60 ∨ zs.getD 0 0 ≠ l) (h : fst1 l zs k) : fst1 l (c :: zs) (k + 1) := by
  obtain ⟨h1, h2, h3⟩ := h
  refine ⟨h1, by simp only [List.length_cons]; omega, fun i hi => ?_⟩
  cases i with
  | zero =>
    intro g
    rcases hc with hc | hc
    · exact hc g.1
    · exact hc g.2.1
  | succ i => exact h3 i (by omega)
theorem fst_l {l : Nat} {ys : List Nat} {k : Nat} : ∀ xs : List Nat, (∀ c ∈ xs, c ≠ 60) → fst1 l ys k → fst1 l (xs ++ ys) (xs.length + k) := by
  intro xs
  induction xs with
  | nil =>
    intro _ h
    rw [List.nil_append, List.length_nil, Nat.zero_add]
    exact h
  | cons x xs ih =>
    intro hx h
    have := fst_c (c := x) (Or.inl (hx x (by simp))) (ih (fun c hc => hx c (by simp [hc])) h)
    rw [List.cons_append, List.length_cons, show xs.length + 1 + k = xs.length + k + 1 by omega]
    exact this
theorem fst_lf {l l' : Nat} {xs ys : List Nat} {k : Nat} (h1 : l' ≠ l) (h2 : l' ≠ 60) (h3 : 47 ≠ l) (hx : ∀ c ∈ xs, c ≠ 60) (h : fst1 l ys k) : fst1 l (lfx l' xs ++ ys) ((lfx l' xs).length + k) := by
  have e1 : fst1 l ([60, 47, l', 62] ++ ys) (4 + k) := by
    have a1 := fst_c (c := 62) (Or.inl (by decide)) h
    have a2 := fst_c (c := l') (Or.inl h2) a1
    have a3 := fst_c (c := 47) (Or.inl (by decide)) a2
    have a4 := fst_c (c := 60) (zs := 47 :: l' :: 62 :: ys) (Or.inr h3) a3
    rw [show 4 + k = k + 1 + 1 + 1 + 1 by omega]
    exact a4
  have e2 := fst_l xs hx e1
  have a1 := fst_c (c := 62) (Or.inl (by decide)) e2
  have a2 := fst_c (c := l') (Or.inl h2) a1
  have a3 := fst_c (c := 60) (zs := l' :: 62 :: (xs ++ ([60, 47, l', 62] ++ ys))) (Or.inr h1) a2
  have e4 : lfx l' xs ++ ys = 60 :: l' :: 62 :: (xs ++ ([60, 47, l', 62] ++ ys)) := by
    unfold lfx
    simp only [List.append_assoc, List.cons_append, List.nil_append]
  have e5 : (lfx l' xs).length + k = xs.length + (4 + k) + 1 + 1 + 1 := by
    unfold lfx
    simp only [List.length_append, List.length_cons, List.length_nil]
    omega
  rw [e4, e5]
  exact a3
theorem getD_lt : ∀ zs : List Nat, (∀ c ∈ zs, c < 256) → ∀ j, zs.getD j 0 < 256 := by
  intro zs
  induction zs with
  | nil => intro _ j; exact (show 0 < 256 by decide)
  | cons z zs ih =>
    intro h j
    cases j with
    | zero => exact h z (by simp)
    | succ j => exact ih (fun c hc => h c (by simp [hc])) j
theorem es_tag {u : zM} {p l i : Nat} {zs : List Nat} (ht : tx u p zs) (hb : ∀ c ∈ zs, c < 256) (hi : i + 3 ≤ zs.length) (hp : p + zs.length ≤ 6000) (hl : l < 256) {b : Int32} (hb' : (b = 1 ∧ tgA zs l i) ∨ (b = 0 ∧ ¬ tgA zs l i)) : Ev 192 [.ref 42, .int (nI (p + i)), .int (nI l)] u (some (.int b)) u := by
  have g0 := ht i (by omega)
  have g1 := ht (i + 1) (by omega)
  have g2 := ht (i + 2) (by omega)
  rw [← Nat.add_assoc] at g1 g2
  have lt : ∀ j, j < zs.length → zs.getD j 0 < 256 := fun j _ => getD_lt zs hb j
  have b0 := lt i (by omega)
  have b1 := lt (i + 1) (by omega)
  have b2 := lt (i + 2) (by omega)
  unfold tgA at hb'
  generalize zs.getD i 0 = x0 at *
  generalize zs.getD (i + 1) 0 = x1 at *
  generalize zs.getD (i + 2) 0 = x2 at *
  have hq : p + i + 2 < 7000 := by omega
  generalize p + i = q at *
  clear ht hb lt
  intro Q hQ
  by_cases e0 : x0 = 60
  · by_cases e1 : x1 = l
    · by_cases e2 : x2 = 62
      · obtain rfl : b = 1 := by
          rcases hb' with g | g
          · exact g.1
          · exact absurd ⟨e0, e1, e2⟩ g.2
        refine zgo 30 [] ?_
        repeat' (first
          | (show vp_in _ _; simp (disch := first | omega | decide) only [g0, g1, g2, zcn, zkpl, zki, zki1, zk8, zk16, zo32, zlt0, zle0, zeq0, zgt0, zLe0, nI_ltI, nI_leI, nI_eq, nI_add, nI_clamp, vp_in_nI, zup_s, zup_n, upd_s, upd_n, ne_eq, not_true_eq_false, not_false_eq_true]; done)
          | (intro hc; exfalso; simp (disch := first | omega | decide) only [g0, g1, g2, zcn, zkpl, zki, zki1, zk8, zk16, zo32, zlt0, zle0, zeq0, zgt0, zLe0, nI_ltI, nI_leI, nI_eq, nI_add, nI_clamp, vp_in_nI, zup_s, zup_n, upd_s, upd_n, ne_eq, not_true_eq_false, not_false_eq_true] at hc <;> omega)
          | (intro hc; exact absurd rfl hc)
          | intro hc
          | apply And.intro
          | exact hQ
          | (show Q _ (SH, _); simp (disch := first | omega | decide) only [g0, g1, g2, zcn, zkpl, zki, zki1, zk8, zk16, zo32, zlt0, zle0, zeq0, zgt0, zLe0, nI_ltI, nI_leI, nI_eq, nI_add, nI_clamp, vp_in_nI, zup_s, zup_n, upd_s, upd_n, ne_eq, not_true_eq_false, not_false_eq_true]; exact hQ)
          | exact Or.inl rfl
          | exact Or.inr rfl
          | (show (_ : Int32) = 0 ∨ _ = 1; simp (disch := first | omega | decide) only [g0, g1, g2, zcn, zkpl, zki, zki1, zk8, zk16, zo32, zlt0, zle0, zeq0, zgt0, zLe0, nI_ltI, nI_leI, nI_eq, nI_add, nI_clamp, vp_in_nI, zup_s, zup_n, upd_s, upd_n, ne_eq, not_true_eq_false, not_false_eq_true, zeq1, true_or, or_true]; done))
      · obtain rfl : b = 0 := by
          rcases hb' with g | g
          · omega
          · exact g.1
        refine zgo 30 [] ?_
        repeat' (first
          | (show vp_in _ _; simp (disch := first | omega | decide) only [g0, g1, g2, zcn, zkpl, zki, zki1, zk8, zk16, zo32, zlt0, zle0, zeq0, zgt0, zLe0, nI_ltI, nI_leI, nI_eq, nI_add, nI_clamp, vp_in_nI, zup_s, zup_n, upd_s, upd_n, ne_eq, not_true_eq_false, not_false_eq_true]; done)
          | (intro hc; exfalso; simp (disch := first | omega | decide) only [g0, g1, g2, zcn, zkpl, zki, zki1, zk8, zk16, zo32, zlt0, zle0, zeq0, zgt0, zLe0, nI_ltI, nI_leI, nI_eq, nI_add, nI_clamp, vp_in_nI, zup_s, zup_n, upd_s, upd_n, ne_eq, not_true_eq_false, not_false_eq_true] at hc <;> omega)
          | (intro hc; exact absurd rfl hc)
          | intro hc
          | apply And.intro
          | exact hQ
          | (show Q _ (SH, _); simp (disch := first | omega | decide) only [g0, g1, g2, zcn, zkpl, zki, zki1, zk8, zk16, zo32, zlt0, zle0, zeq0, zgt0, zLe0, nI_ltI, nI_leI, nI_eq, nI_add, nI_clamp, vp_in_nI, zup_s, zup_n, upd_s, upd_n, ne_eq, not_true_eq_false, not_false_eq_true]; exact hQ)
          | exact Or.inl rfl
          | exact Or.inr rfl
          | (show (_ : Int32) = 0 ∨ _ = 1; simp (disch := first | omega | decide) only [g0, g1, g2, zcn, zkpl, zki, zki1, zk8, zk16, zo32, zlt0, zle0, zeq0, zgt0, zLe0, nI_ltI, nI_leI, nI_eq, nI_add, nI_clamp, vp_in_nI, zup_s, zup_n, upd_s, upd_n, ne_eq, not_true_eq_false, not_false_eq_true, zeq1, true_or, or_true]; done))
    · obtain rfl : b = 0 := by
        rcases hb' with g | g
        · omega
        · exact g.1
      refine zgo 30 [] ?_
      repeat' (first
        | (show vp_in _ _; simp (disch := first | omega | decide) only [g0, g1, g2, zcn, zkpl, zki, zki1, zk8, zk16, zo32, zlt0, zle0, zeq0, zgt0, zLe0, nI_ltI, nI_leI, nI_eq, nI_add, nI_clamp, vp_in_nI, zup_s, zup_n, upd_s, upd_n, ne_eq, not_true_eq_false, not_false_eq_true]; done)
        | (intro hc; exfalso; simp (disch := first | omega | decide) only [g0, g1, g2, zcn, zkpl, zki, zki1, zk8, zk16, zo32, zlt0, zle0, zeq0, zgt0, zLe0, nI_ltI, nI_leI, nI_eq, nI_add, nI_clamp, vp_in_nI, zup_s, zup_n, upd_s, upd_n, ne_eq, not_true_eq_false, not_false_eq_true] at hc <;> omega)
        | (intro hc; exact absurd rfl hc)
        | intro hc
        | apply And.intro
        | exact hQ
        | (show Q _ (SH, _); simp (disch := first | omega | decide) only [g0, g1, g2, zcn, zkpl, zki, zki1, zk8, zk16, zo32, zlt0, zle0, zeq0, zgt0, zLe0, nI_ltI, nI_leI, nI_eq, nI_add, nI_clamp, vp_in_nI, zup_s, zup_n, upd_s, upd_n, ne_eq, not_true_eq_false, not_false_eq_true]; exact hQ)
        | exact Or.inl rfl
        | exact Or.inr rfl
        | (show (_ : Int32) = 0 ∨ _ = 1; simp (disch := first | omega | decide) only [g0, g1, g2, zcn, zkpl, zki, zki1, zk8, zk16, zo32, zlt0, zle0, zeq0, zgt0, zLe0, nI_ltI, nI_leI, nI_eq, nI_add, nI_clamp, vp_in_nI, zup_s, zup_n, upd_s, upd_n, ne_eq, not_true_eq_false, not_false_eq_true, zeq1, true_or, or_true]; done))
  · obtain rfl : b = 0 := by
      rcases hb' with g | g
      · omega
      · exact g.1
    refine zgo 30 [] ?_
    repeat' (first
      | (show vp_in _ _; simp (disch := first | omega | decide) only [g0, g1, g2, zcn, zkpl, zki, zki1, zk8, zk16, zo32, zlt0, zle0, zeq0, zgt0, zLe0, nI_ltI, nI_leI, nI_eq, nI_add, nI_clamp, vp_in_nI, zup_s, zup_n, upd_s, upd_n, ne_eq, not_true_eq_false, not_false_eq_true]; done)
      | (intro hc; exfalso; simp (disch := first | omega | decide) only [g0, g1, g2, zcn, zkpl, zki, zki1, zk8, zk16, zo32, zlt0, zle0, zeq0, zgt0, zLe0, nI_ltI, nI_leI, nI_eq, nI_add, nI_clamp, vp_in_nI, zup_s, zup_n, upd_s, upd_n, ne_eq, not_true_eq_false, not_false_eq_true] at hc <;> omega)
      | (intro hc; exact absurd rfl hc)
      | intro hc
      | apply And.intro
      | exact hQ
      | (show Q _ (SH, _); simp (disch := first | omega | decide) only [g0, g1, g2, zcn, zkpl, zki, zki1, zk8, zk16, zo32, zlt0, zle0, zeq0, zgt0, zLe0, nI_ltI, nI_leI, nI_eq, nI_add, nI_clamp, vp_in_nI, zup_s, zup_n, upd_s, upd_n, ne_eq, not_true_eq_false, not_false_eq_true]; exact hQ)
      | exact Or.inl rfl
      | exact Or.inr rfl
      | (show (_ : Int32) = 0 ∨ _ = 1; simp (disch := first | omega | decide) only [g0, g1, g2, zcn, zkpl, zki, zki1, zk8, zk16, zo32, zlt0, zle0, zeq0, zgt0, zLe0, nI_ltI, nI_leI, nI_eq, nI_add, nI_clamp, vp_in_nI, zup_s, zup_n, upd_s, upd_n, ne_eq, not_true_eq_false, not_false_eq_true, zeq1, true_or, or_true]; done))
theorem nx_loop {u : zM} {p l k nb : Nat} {zs : List Nat} (ht : tx u p zs) (hb : ∀ c ∈ zs, c < 256) (hp : p + zs.length < nb) (hnb : nb ≤ 6000) (h36 : u 42 36 = nI nb) (hl : l < 256) (hf : fst1 l zs k) (Q : zQ) (hQ : Q (some (.int (nI (p + k + 3)))) (SH, u)) : ∀ (r i : Nat), i + r = k → ZW 193 (0, 0, 0, 0) 2 [(3, .int (nI (p + i))), (0, .ref 42), (1, .int (nI p)), (2, .int (nI l))] [] (SH, u) Q := by
  obtain ⟨f1, f2, f3⟩ := hf
  intro r
  induction r with
  | zero =>
    intro i hi
    obtain rfl : i = k := by omega
    have s1 := es_tag (b := 1) ht hb f2 (by omega) hl (Or.inl ⟨rfl, f1⟩)
    have f18 : ZW 193 (0, 0, 0, 0) 18 [(3, .int (nI (p + i))), (0, .ref 42), (1, .int (nI p)), (2, .int (nI l))] [.int 1] (SH, u) Q := by
      refine zgo 10 [] ?_
      repeat' (first
        | (show vp_in _ _; simp (disch := first | omega | decide) only [z10, zcn, zkpl, zki, zki1, zk8, zk16, zo32, zlt0, zle0, zeq0, zgt0, zLe0, nI_ltI, nI_leI, nI_eq, nI_add, nI_clamp, vp_in_nI, zup_s, zup_n, upd_s, upd_n, ne_eq, not_true_eq_false, not_false_eq_true]; done)
        | (intro hc; exfalso; simp (disch := first | omega | decide) only [z10, zcn, zkpl, zki, zki1, zk8, zk16, zo32, zlt0, zle0, zeq0, zgt0, zLe0, nI_ltI, nI_leI, nI_eq, nI_add, nI_clamp, vp_in_nI, zup_s, zup_n, upd_s, upd_n, ne_eq, not_true_eq_false, not_false_eq_true] at hc <;> omega)
        | (intro hc; exact absurd rfl hc)
        | intro hc
        | apply And.intro
        | exact hQ
        | (show Q _ (SH, _); simp (disch := first | omega | decide) only [z10, zcn, zkpl, zki, zki1, zk8, zk16, zo32, zlt0, zle0, zeq0, zgt0, zLe0, nI_ltI, nI_leI, nI_eq, nI_add, nI_clamp, vp_in_nI, zup_s, zup_n, upd_s, upd_n, ne_eq, not_true_eq_false, not_false_eq_true]; exact hQ)
        | exact Or.inl rfl
        | exact Or.inr rfl
        | (show (_ : Int32) = 0 ∨ _ = 1; simp (disch := first | omega | decide) only [z10, zcn, zkpl, zki, zki1, zk8, zk16, zo32, zlt0, zle0, zeq0, zgt0, zLe0, nI_ltI, nI_leI, nI_eq, nI_add, nI_clamp, vp_in_nI, zup_s, zup_n, upd_s, upd_n, ne_eq, not_true_eq_false, not_false_eq_true, zeq1, true_or, or_true]; done))
    refine zgo 20 [] ?_
    repeat' (first
      | (exact s1.use f18)
      | (show vp_in _ _; simp (disch := first | omega | decide) only [h36, zcn, zkpl, zki, zki1, zk8, zk16, zo32, zlt0, zle0, zeq0, zgt0, zLe0, nI_ltI, nI_leI, nI_eq, nI_add, nI_clamp, vp_in_nI, zup_s, zup_n, upd_s, upd_n, ne_eq, not_true_eq_false, not_false_eq_true]; done)
      | (intro hc; exfalso; simp (disch := first | omega | decide) only [h36, zcn, zkpl, zki, zki1, zk8, zk16, zo32, zlt0, zle0, zeq0, zgt0, zLe0, nI_ltI, nI_leI, nI_eq, nI_add, nI_clamp, vp_in_nI, zup_s, zup_n, upd_s, upd_n, ne_eq, not_true_eq_false, not_false_eq_true] at hc <;> omega)
      | (intro hc; exact absurd rfl hc)
      | intro hc
      | apply And.intro
      | exact Or.inl rfl
      | exact Or.inr rfl
      | (show (_ : Int32) = 0 ∨ _ = 1; simp (disch := first | omega | decide) only [h36, zcn, zkpl, zki, zki1, zk8, zk16, zo32, zlt0, zle0, zeq0, zgt0, zLe0, nI_ltI, nI_leI, nI_eq, nI_add, nI_clamp, vp_in_nI, zup_s, zup_n, upd_s, upd_n, ne_eq, not_true_eq_false, not_false_eq_true, zeq1, true_or, or_true]; done))
  | succ r ih =>
    intro i hi
    have e3 : nI (p + i) + Int32.ofInt 1 = nI (p + (i + 1)) := by rw [zki, nI_add, Nat.add_assoc]
    have W := ih (i + 1) (by omega)
    rw [← e3] at W
    have s1 := es_tag (b := 0) (i := i) ht hb (by omega) (by omega) hl (Or.inr ⟨rfl, f3 i (by omega)⟩)
    have f18 : ZW 193 (0, 0, 0, 0) 18 [(3, .int (nI (p + i))), (0, .ref 42), (1, .int (nI p)), (2, .int (nI l))] [.int 0] (SH, u) Q := by
      refine zgo 10 [] ?_
      repeat' (first
        | (exact W)
        | (show vp_in _ _; simp (disch := first | omega | decide) only [z10, zcn, zkpl, zki, zki1, zk8, zk16, zo32, zlt0, zle0, zeq0, zgt0, zLe0, nI_ltI, nI_leI, nI_eq, nI_add, nI_clamp, vp_in_nI, zup_s, zup_n, upd_s, upd_n, ne_eq, not_true_eq_false, not_false_eq_true]; done)
        | (intro hc; exfalso; simp (disch := first | omega | decide) only [z10, zcn, zkpl, zki, zki1, zk8, zk16, zo32, zlt0, zle0, zeq0, zgt0, zLe0, nI_ltI, nI_leI, nI_eq, nI_add, nI_clamp, vp_in_nI, zup_s, zup_n, upd_s, upd_n, ne_eq, not_true_eq_false, not_false_eq_true] at hc <;> omega)
        | (intro hc; exact absurd rfl hc)
        | intro hc
        | apply And.intro
        | exact Or.inl rfl
        | exact Or.inr rfl
        | (show (_ : Int32) = 0 ∨ _ = 1; simp (disch := first | omega | decide) only [z10, zcn, zkpl, zki, zki1, zk8, zk16, zo32, zlt0, zle0, zeq0, zgt0, zLe0, nI_ltI, nI_leI, nI_eq, nI_add, nI_clamp, vp_in_nI, zup_s, zup_n, upd_s, upd_n, ne_eq, not_true_eq_false, not_false_eq_true, zeq1, true_or, or_true]; done))
    refine zgo 20 [] ?_
    repeat' (first
      | (exact s1.use f18)
      | (show vp_in _ _; simp (disch := first | omega | decide) only [h36, zcn, zkpl, zki, zki1, zk8, zk16, zo32, zlt0, zle0, zeq0, zgt0, zLe0, nI_ltI, nI_leI, nI_eq, nI_add, nI_clamp, vp_in_nI, zup_s, zup_n, upd_s, upd_n, ne_eq, not_true_eq_false, not_false_eq_true]; done)
      | (intro hc; exfalso; simp (disch := first | omega | decide) only [h36, zcn, zkpl, zki, zki1, zk8, zk16, zo32, zlt0, zle0, zeq0, zgt0, zLe0, nI_ltI, nI_leI, nI_eq, nI_add, nI_clamp, vp_in_nI, zup_s, zup_n, upd_s, upd_n, ne_eq, not_true_eq_false, not_false_eq_true] at hc <;> omega)
      | (intro hc; exact absurd rfl hc)
      | intro hc
      | apply And.intro
      | exact Or.inl rfl
      | exact Or.inr rfl
      | (show (_ : Int32) = 0 ∨ _ = 1; simp (disch := first | omega | decide) only [h36, zcn, zkpl, zki, zki1, zk8, zk16, zo32, zlt0, zle0, zeq0, zgt0, zLe0, nI_ltI, nI_leI, nI_eq, nI_add, nI_clamp, vp_in_nI, zup_s, zup_n, upd_s, upd_n, ne_eq, not_true_eq_false, not_false_eq_true, zeq1, true_or, or_true]; done))
theorem es_next {u : zM} {p l k nb : Nat} {zs : List Nat} (ht : tx u p zs) (hb : ∀ c ∈ zs, c < 256) (hp : p + zs.length < nb) (hnb : nb ≤ 6000) (h36 : u 42 36 = nI nb) (hl : l < 256) (hf : fst1 l zs k) {y : Int32} (hy : y = nI l) : Ev 193 [.ref 42, .int (nI p), .int y] u (some (.int (nI (p + k + 3)))) u := by
  subst hy
  intro Q hQ
  have W := nx_loop ht hb hp hnb h36 hl hf Q hQ k 0 (by omega)
  rw [Nat.add_zero] at W
  refine zgo 5 [] ?_
  exact W
theorem na_loop {u : zM} {nb p0 : Nat} (hnb : nb ≤ 6000) (h36 : u 42 36 = nI nb) (Q : zQ) : ∀ (cs : List Nat) (v q : Nat) (rest : List Nat), (∀ c ∈ cs, (48 ≤ c ∧ c ≤ 57) ∨ (97 ≤ c ∧ c ≤ 122)) → tx u q (cs ++ 60 :: rest) → q + cs.length + 1 < nb → Q (some (.int (nI (cs.foldl (fun x c => 37 * x + v37 c) v)))) (SH, u) → ZW 194 (0, 0, 0, 0) 4 [(3, .int (nI q)), (2, .int (nI v)), (0, .ref 42), (1, .int (nI p0))] [] (SH, u) Q := by
  intro cs
  induction cs with
  | nil =>
    intro v q rest _ ht hq hQ
    have g0 : u 58 q = nI 60 := ht 0 (by simp only [List.nil_append, List.length_cons]; omega)
    rw [List.length_nil] at hq
    have hQ : Q (some (.int (nI v))) (SH, u) := hQ
    refine zgo 20 [] ?_
    repeat' (first
      | (show vp_in _ _; simp (disch := first | omega | decide) only [h36, g0, zcn, zkpl, zki, zki1, zk8, zk16, zo32, zlt0, zle0, zeq0, zgt0, zLe0, nI_ltI, nI_leI, nI_eq, nI_add, nI_clamp, vp_in_nI, zup_s, zup_n, upd_s, upd_n, ne_eq, not_true_eq_false, not_false_eq_true]; done)
      | (intro hc; exfalso; simp (disch := first | omega | decide) only [h36, g0, zcn, zkpl, zki, zki1, zk8, zk16, zo32, zlt0, zle0, zeq0, zgt0, zLe0, nI_ltI, nI_leI, nI_eq, nI_add, nI_clamp, vp_in_nI, zup_s, zup_n, upd_s, upd_n, ne_eq, not_true_eq_false, not_false_eq_true] at hc <;> omega)
      | (intro hc; exact absurd rfl hc)
      | intro hc
      | apply And.intro
      | exact hQ
      | (show Q _ (SH, _); simp (disch := first | omega | decide) only [h36, g0, zcn, zkpl, zki, zki1, zk8, zk16, zo32, zlt0, zle0, zeq0, zgt0, zLe0, nI_ltI, nI_leI, nI_eq, nI_add, nI_clamp, vp_in_nI, zup_s, zup_n, upd_s, upd_n, ne_eq, not_true_eq_false, not_false_eq_true]; exact hQ)
      | exact Or.inl rfl
      | exact Or.inr rfl
      | (show (_ : Int32) = 0 ∨ _ = 1; simp (disch := first | omega | decide) only [h36, g0, zcn, zkpl, zki, zki1, zk8, zk16, zo32, zlt0, zle0, zeq0, zgt0, zLe0, nI_ltI, nI_leI, nI_eq, nI_add, nI_clamp, vp_in_nI, zup_s, zup_n, upd_s, upd_n, ne_eq, not_true_eq_false, not_false_eq_true, zeq1, true_or, or_true]; done))
  | cons c cs ih =>
    intro v q rest hc' ht hq hQ
    have hc0 := hc' c (by simp)
    have g0 : u 58 q = nI c := ht 0 (by simp only [List.cons_append, List.length_cons]; omega)
    rw [List.length_cons] at hq
    have e3 : nI q + Int32.ofInt 1 = nI (q + 1) := by rw [zki, nI_add]
    have W := ih (37 * v + v37 c) (q + 1) rest (fun x hx => hc' x (by simp [hx])) (fun i hi => by
      have := ht (i + 1) (by simp only [List.cons_append, List.length_cons]; simp only [List.length_append, List.length_cons] at hi ⊢; omega)
      rw [show q + 1 + i = q + (i + 1) by omega]
      exact this) (by omega) hQ
    have e58 : u 58 (nI q).toNatClampNeg = nI c := by
      simp (disch := first | omega | decide) only [g0, zcn, zkpl, zki, zki1, zk8, zk16, zo32, zlt0, zle0, zeq0, zgt0, zLe0, nI_ltI, nI_leI, nI_eq, nI_add, nI_clamp, vp_in_nI, zup_s, zup_n, upd_s, upd_n, ne_eq, not_true_eq_false, not_false_eq_true]
    rcases hc0 with hc0 | hc0
    · have e5 := e37d (v := v) hc0
      rw [← e3, ← e5, ← e58] at W
      refine zgo 40 [] ?_
      repeat' (first
        | (exact W)
        | (show vp_in _ _; simp (disch := first | omega | decide) only [h36, g0, zcn, zkpl, zki, zki1, zk8, zk16, zo32, zlt0, zle0, zeq0, zgt0, zLe0, nI_ltI, nI_leI, nI_eq, nI_add, nI_clamp, vp_in_nI, zup_s, zup_n, upd_s, upd_n, ne_eq, not_true_eq_false, not_false_eq_true]; done)
        | (intro hc; exfalso; simp (disch := first | omega | decide) only [h36, g0, zcn, zkpl, zki, zki1, zk8, zk16, zo32, zlt0, zle0, zeq0, zgt0, zLe0, nI_ltI, nI_leI, nI_eq, nI_add, nI_clamp, vp_in_nI, zup_s, zup_n, upd_s, upd_n, ne_eq, not_true_eq_false, not_false_eq_true] at hc <;> omega)
        | (intro hc; exact absurd rfl hc)
        | intro hc
        | apply And.intro
        | exact Or.inl rfl
        | exact Or.inr rfl
        | (show (_ : Int32) = 0 ∨ _ = 1; simp (disch := first | omega | decide) only [h36, g0, zcn, zkpl, zki, zki1, zk8, zk16, zo32, zlt0, zle0, zeq0, zgt0, zLe0, nI_ltI, nI_leI, nI_eq, nI_add, nI_clamp, vp_in_nI, zup_s, zup_n, upd_s, upd_n, ne_eq, not_true_eq_false, not_false_eq_true, zeq1, true_or, or_true]; done))
    · have e5 := e37l (v := v) hc0
      rw [← e3, ← e5, ← e58] at W
      refine zgo 40 [] ?_
      repeat' (first
        | (exact W)
        | (show vp_in _ _; simp (disch := first | omega | decide) only [h36, g0, zcn, zkpl, zki, zki1, zk8, zk16, zo32, zlt0, zle0, zeq0, zgt0, zLe0, nI_ltI, nI_leI, nI_eq, nI_add, nI_clamp, vp_in_nI, zup_s, zup_n, upd_s, upd_n, ne_eq, not_true_eq_false, not_false_eq_true]; done)
        | (intro hc; exfalso; simp (disch := first | omega | decide) only [h36, g0, zcn, zkpl, zki, zki1, zk8, zk16, zo32, zlt0, zle0, zeq0, zgt0, zLe0, nI_ltI, nI_leI, nI_eq, nI_add, nI_clamp, vp_in_nI, zup_s, zup_n, upd_s, upd_n, ne_eq, not_true_eq_false, not_false_eq_true] at hc <;> omega)
        | (intro hc; exact absurd rfl hc)
        | intro hc
        | apply And.intro
        | exact Or.inl rfl
        | exact Or.inr rfl
        | (show (_ : Int32) = 0 ∨ _ = 1; simp (disch := first | omega | decide) only [h36, g0, zcn, zkpl, zki, zki1, zk8, zk16, zo32, zlt0, zle0, zeq0, zgt0, zLe0, nI_ltI, nI_leI, nI_eq, nI_add, nI_clamp, vp_in_nI, zup_s, zup_n, upd_s, upd_n, ne_eq, not_true_eq_false, not_false_eq_true, zeq1, true_or, or_true]; done))
theorem es_nameAt {u : zM} {nb q : Nat} {cs rest : List Nat} (hnb : nb ≤ 6000) (h36 : u 42 36 = nI nb) (hc' : nmOk cs) (ht : tx u q (cs ++ 60 :: rest)) (hq : q + cs.length + 1 < nb) : Ev 194 [.ref 42, .int (nI q)] u (some (.int (nI (n37 cs)))) u := by
  intro Q hQ
  have W := na_loop (p0 := q) hnb h36 Q cs 0 q rest hc'.2.2 ht hq hQ
  refine zgo 5 [] ?_
  exact W
def amF (v : Nat) (cs : List Nat) : Nat := cs.foldl (fun x c => if c = 46 then x else 10 * x + (c - 48)) v
theorem aa_loop {u : zM} {nb p0 : Nat} (hnb : nb ≤ 6000) (h36 : u 42 36 = nI nb) (Q : zQ) : ∀ (cs : List Nat) (v q : Nat) (rest : List Nat), (∀ c ∈ cs, c = 46 ∨ (48 ≤ c ∧ c ≤ 57)) → tx u q (cs ++ 60 :: rest) → q + cs.length + 1 < nb → Q (some (.int (nI (amF v cs)))) (SH, u) → ZW 195 (0, 0, 0, 0) 4 [(3, .int (nI q)), (2, .int (nI v)), (0, .ref 42), (1, .int (nI p0))] [] (SH, u) Q := by
  intro cs
  induction cs with
  | nil =>
    intro v q rest _ ht hq hQ
    have g0 : u 58 q = nI 60 := ht 0 (by simp only [List.nil_append, List.length_cons]; omega)
    rw [List.length_nil] at hq
    have hQ : Q (some (.int (nI v))) (SH, u) := hQ
    refine zgo 20 [] ?_
    repeat' (first
      | (show vp_in _ _; simp (disch := first | omega | decide) only [h36, g0, zcn, zkpl, zki, zki1, zk8, zk16, zo32, zlt0, zle0, zeq0, zgt0, zLe0, nI_ltI, nI_leI, nI_eq, nI_add, nI_clamp, vp_in_nI, zup_s, zup_n, upd_s, upd_n, ne_eq, not_true_eq_false, not_false_eq_true]; done)
      | (intro hc; exfalso; simp (disch := first | omega | decide) only [h36, g0, zcn, zkpl, zki, zki1, zk8, zk16, zo32, zlt0, zle0, zeq0, zgt0, zLe0, nI_ltI, nI_leI, nI_eq, nI_add, nI_clamp, vp_in_nI, zup_s, zup_n, upd_s, upd_n, ne_eq, not_true_eq_false, not_false_eq_true] at hc <;> omega)
      | (intro hc; exact absurd rfl hc)
      | intro hc
      | apply And.intro
      | exact hQ
      | (show Q _ (SH, _); simp (disch := first | omega | decide) only [h36, g0, zcn, zkpl, zki, zki1, zk8, zk16, zo32, zlt0, zle0, zeq0, zgt0, zLe0, nI_ltI, nI_leI, nI_eq, nI_add, nI_clamp, vp_in_nI, zup_s, zup_n, upd_s, upd_n, ne_eq, not_true_eq_false, not_false_eq_true]; exact hQ)
      | exact Or.inl rfl
      | exact Or.inr rfl
      | (show (_ : Int32) = 0 ∨ _ = 1; simp (disch := first | omega | decide) only [h36, g0, zcn, zkpl, zki, zki1, zk8, zk16, zo32, zlt0, zle0, zeq0, zgt0, zLe0, nI_ltI, nI_leI, nI_eq, nI_add, nI_clamp, vp_in_nI, zup_s, zup_n, upd_s, upd_n, ne_eq, not_true_eq_false, not_false_eq_true, zeq1, true_or, or_true]; done))
  | cons c cs ih =>
    intro v q rest hc' ht hq hQ
    have hc0 := hc' c (by simp)
    have g0 : u 58 q = nI c := ht 0 (by simp only [List.cons_append, List.length_cons]; omega)
    rw [List.length_cons] at hq
    have e3 : nI q + Int32.ofInt 1 = nI (q + 1) := by rw [zki, nI_add]
    have W := fun V hV => ih V (q + 1) rest (fun x hx => hc' x (by simp [hx])) (fun i hi => by
      have := ht (i + 1) (by simp only [List.cons_append, List.length_cons]; simp only [List.length_append, List.length_cons] at hi ⊢; omega)
      rw [show q + 1 + i = q + (i + 1) by omega]
      exact this) (by omega) hV
    have e58 : u 58 (nI q).toNatClampNeg = nI c := by
      simp (disch := first | omega | decide) only [g0, zcn, zkpl, zki, zki1, zk8, zk16, zo32, zlt0, zle0, zeq0, zgt0, zLe0, nI_ltI, nI_leI, nI_eq, nI_add, nI_clamp, vp_in_nI, zup_s, zup_n, upd_s, upd_n, ne_eq, not_true_eq_false, not_false_eq_true]
    rcases hc0 with rfl | hc0
    · have W1 := W v hQ
      rw [← e3] at W1
      refine zgo 40 [] ?_
      repeat' (first
        | (exact W1)
        | (show vp_in _ _; simp (disch := first | omega | decide) only [h36, g0, zcn, zkpl, zki, zki1, zk8, zk16, zo32, zlt0, zle0, zeq0, zgt0, zLe0, nI_ltI, nI_leI, nI_eq, nI_add, nI_clamp, vp_in_nI, zup_s, zup_n, upd_s, upd_n, ne_eq, not_true_eq_false, not_false_eq_true]; done)
        | (intro hc; exfalso; simp (disch := first | omega | decide) only [h36, g0, zcn, zkpl, zki, zki1, zk8, zk16, zo32, zlt0, zle0, zeq0, zgt0, zLe0, nI_ltI, nI_leI, nI_eq, nI_add, nI_clamp, vp_in_nI, zup_s, zup_n, upd_s, upd_n, ne_eq, not_true_eq_false, not_false_eq_true] at hc <;> omega)
        | (intro hc; exact absurd rfl hc)
        | intro hc
        | apply And.intro
        | exact Or.inl rfl
        | exact Or.inr rfl
        | (show (_ : Int32) = 0 ∨ _ = 1; simp (disch := first | omega | decide) only [h36, g0, zcn, zkpl, zki, zki1, zk8, zk16, zo32, zlt0, zle0, zeq0, zgt0, zLe0, nI_ltI, nI_leI, nI_eq, nI_add, nI_clamp, vp_in_nI, zup_s, zup_n, upd_s, upd_n, ne_eq, not_true_eq_false, not_false_eq_true, zeq1, true_or, or_true]; done))
    · have hne : c ≠ 46 := by omega
      have W1 := W (10 * v + (c - 48)) (by
        have : amF v (c :: cs) = amF (10 * v + (c - 48)) cs := by
          unfold amF
          rw [List.foldl_cons, if_neg hne]
        rw [← this]
        exact hQ)
      have e5 := e10 (v := v) hc0.1
      rw [← e3, ← e5, ← e58] at W1
      refine zgo 40 [] ?_
      repeat' (first
        | (exact W1)
        | (show vp_in _ _; simp (disch := first | omega | decide) only [h36, g0, zcn, zkpl, zki, zki1, zk8, zk16, zo32, zlt0, zle0, zeq0, zgt0, zLe0, nI_ltI, nI_leI, nI_eq, nI_add, nI_clamp, vp_in_nI, zup_s, zup_n, upd_s, upd_n, ne_eq, not_true_eq_false, not_false_eq_true]; done)
        | (intro hc; exfalso; simp (disch := first | omega | decide) only [h36, g0, zcn, zkpl, zki, zki1, zk8, zk16, zo32, zlt0, zle0, zeq0, zgt0, zLe0, nI_ltI, nI_leI, nI_eq, nI_add, nI_clamp, vp_in_nI, zup_s, zup_n, upd_s, upd_n, ne_eq, not_true_eq_false, not_false_eq_true] at hc <;> omega)
        | (intro hc; exact absurd rfl hc)
        | intro hc
        | apply And.intro
        | exact Or.inl rfl
        | exact Or.inr rfl
        | (show (_ : Int32) = 0 ∨ _ = 1; simp (disch := first | omega | decide) only [h36, g0, zcn, zkpl, zki, zki1, zk8, zk16, zo32, zlt0, zle0, zeq0, zgt0, zLe0, nI_ltI, nI_leI, nI_eq, nI_add, nI_clamp, vp_in_nI, zup_s, zup_n, upd_s, upd_n, ne_eq, not_true_eq_false, not_false_eq_true, zeq1, true_or, or_true]; done))
theorem es_amountAt {u : zM} {nb q : Nat} {cs rest : List Nat} (hnb : nb ≤ 6000) (h36 : u 42 36 = nI nb) (hc' : ∀ c ∈ cs, c = 46 ∨ (48 ≤ c ∧ c ≤ 57)) (ht : tx u q (cs ++ 60 :: rest)) (hq : q + cs.length + 1 < nb) : Ev 195 [.ref 42, .int (nI q)] u (some (.int (nI (amF 0 cs)))) u := by
  intro Q hQ
  have W := aa_loop (p0 := q) hnb h36 Q cs 0 q rest hc' ht hq hQ
  refine zgo 5 [] ?_
  exact W
