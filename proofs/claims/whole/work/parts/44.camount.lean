/-! the class's amounts, and a value read -/
def AMp (f : Nat → Nat) (b l p v : Nat) : Prop := 1 ≤ p ∧ p ≤ 6 ∧ p ≤ l ∧ dOK f b p ∧ 0 < v ∧ ((p = l ∧ v = 100 * dvl f p 0 b) ∨ (p < l ∧ f (b + p) = 46 ∧ ((l = p + 2 ∧ dOK f (b + p + 1) 1 ∧ v = 100 * dvl f p 0 b + 10 * dvl f 1 0 (b + p + 1)) ∨ (l = p + 3 ∧ dOK f (b + p + 1) 2 ∧ v = 100 * dvl f p 0 b + dvl f 2 0 (b + p + 1)))))
def AM (f : Nat → Nat) (b l v : Nat) : Prop := ∃ p, AMp f b l p v
theorem AMp_p {f : Nat → Nat} {b l p v q : Nat} (h : AMp f b l p v) (h1 : ∀ j, j < q → f (b + j) ≠ 46) (h2 : q = l ∨ f (b + q) = 46) (h3 : q ≤ l) : q = p := by
  obtain ⟨a1, a2, a3, a4, a5, a6⟩ := h
  by_cases e : q = p
  · exact e
  · exfalso
    by_cases e2 : q < p
    · have := a4 q e2
      unfold isD at this
      omega
    · have := h1 p (by omega)
      omega
theorem dOK_46 {f : Nat → Nat} {b p : Nat} (h : dOK f b p) : ∀ j, j < p → f (b + j) ≠ 46 := fun j hj => by
  have := h j hj
  unfold isD at this
  omega
theorem AM_u {f : Nat → Nat} {b l v v' : Nat} (h : AM f b l v) (h' : AM f b l v') : v = v' := by
  obtain ⟨p, h⟩ := h
  obtain ⟨q, h'⟩ := h'
  have e : q = p := AMp_p h (dOK_46 h'.2.2.2.1) (by have := h'.2.2.2.2.2; omega) h'.2.2.1
  subst e
  obtain ⟨a1, a2, a3, a4, a5, a6⟩ := h
  obtain ⟨b1, b2, b3, b4, b5, b6⟩ := h'
  omega
theorem dvl_b {f : Nat → Nat} {b p : Nat} (h : dOK f b p) (hp : p ≤ 6) : dvl f p 0 b ≤ 999999 := by
  have := dvl_le (f := f) p 0 b h
  have : (0 + 1) * 10 ^ p ≤ 1000000 := by
    rw [Nat.zero_add, Nat.one_mul]
    exact Nat.pow_le_pow_right (by decide) hp
  omega
theorem dvl_b2 {f : Nat → Nat} {b p : Nat} (h : dOK f b p) (hp : p ≤ 2) : dvl f p 0 b ≤ 99 := by
  have := dvl_le (f := f) p 0 b h
  have : (0 + 1) * 10 ^ p ≤ 100 := by
    rw [Nat.zero_add, Nat.one_mul]
    exact Nat.pow_le_pow_right (by decide) hp
  omega
theorem dvl_b1 {f : Nat → Nat} {b : Nat} (h : dOK f b 1) : dvl f 1 0 b ≤ 9 := by
  have := dvl_le (f := f) 1 0 b h
  omega
theorem AM_le {f : Nat → Nat} {b l v : Nat} (h : AM f b l v) : v ≤ 99999999 := by
  obtain ⟨p, a1, a2, a3, a4, a5, a6⟩ := h
  have := dvl_b a4 a2
  rcases a6 with a6 | ⟨_, _, ⟨_, g, a6⟩ | ⟨_, g, a6⟩⟩
  · omega
  · have := dvl_b1 g
    omega
  · have := dvl_b2 g (by omega)
    omega
theorem pt_loop {m : zM} {s : pS} {b l : Nat} (h : vS m s b l) (Q : zQ) : ∀ (n i : Nat), i + n = l → (∀ j, j < i → s 8 (b + j) ≠ 46) → (∀ p, p ≤ l → (∀ j, j < p → s 8 (b + j) ≠ 46) → (p = l ∨ s 8 (b + p) = 46) → ZW 129 (0, 0, 0, 0) 34 [(1, .int (nI p)), (0, .ref 12)] [] (SH, m) Q) → ZW 129 (0, 0, 0, 0) 2 [(1, .int (nI i)), (0, .ref 12)] [] (SH, m) Q := by
  intro n
  induction n with
  | zero =>
    intro i hi hj W
    have hl := h.1.1
    have h6 := h.2.2.2.2
    have e12 := h.2.2.2.1
    obtain rfl : i = l := by omega
    have W1 := W i (by omega) hj (Or.inl rfl)
    refine zgo 4 [] ?_
    repeat' (first
      | (exact W1)
      | (show vp_in _ _; simp (disch := first | omega | decide) only [e12, zcn, zkpl, zki, zki1, zk8, zk16, zo32, zlt0, zle0, zeq0, zgt0, zLe0, nI_ltI, nI_leI, nI_eq, nI_add, nI_clamp, vp_in_nI, zup_s, zup_n, upd_s, upd_n, ne_eq, not_true_eq_false, not_false_eq_true]; done)
      | (intro hc; exfalso; simp (disch := first | omega | decide) only [e12, zcn, zkpl, zki, zki1, zk8, zk16, zo32, zlt0, zle0, zeq0, zgt0, zLe0, nI_ltI, nI_leI, nI_eq, nI_add, nI_clamp, vp_in_nI, zup_s, zup_n, upd_s, upd_n, ne_eq, not_true_eq_false, not_false_eq_true] at hc <;> omega)
      | (intro hc; exact absurd rfl hc)
      | intro hc
      | apply And.intro
      | exact Or.inl rfl
      | exact Or.inr rfl
      | (show (_ : Int32) = 0 ∨ _ = 1; simp (disch := first | omega | decide) only [e12, zcn, zkpl, zki, zki1, zk8, zk16, zo32, zlt0, zle0, zeq0, zgt0, zLe0, nI_ltI, nI_leI, nI_eq, nI_add, nI_clamp, vp_in_nI, zup_s, zup_n, upd_s, upd_n, ne_eq, not_true_eq_false, not_false_eq_true, zeq1, true_or, or_true]; done))
  | succ n ih =>
    intro i hi hj W
    have hl := h.1.1
    have h6 := h.2.2.2.2
    have e12 := h.2.2.2.1
    have hc' := h.ch i (by omega)
    rw [pe_w (by omega)] at hc'
    have h126 := (h.1.2 (b + i) (by omega)).2
    by_cases e : s 8 (b + i) = 46
    · have W1 := W i (by omega) hj (Or.inr e)
      rw [e] at hc'
      have f1 : ZW 129 (0, 0, 0, 0) 23 [(1, .int (nI i)), (0, .ref 12)] [.int (nI 46)] (SH, m) Q := by
        refine zgo 2 [] ?_
        repeat' (first
          | (exact W1)
          | (show vp_in _ _; simp (disch := first | omega | decide) only [zcn, zkpl, zki, zki1, zk8, zk16, zo32, zlt0, zle0, zeq0, zgt0, zLe0, nI_ltI, nI_leI, nI_eq, nI_add, nI_clamp, vp_in_nI, zup_s, zup_n, upd_s, upd_n, ne_eq, not_true_eq_false, not_false_eq_true]; done)
          | (intro hc; exfalso; simp (disch := first | omega | decide) only [zcn, zkpl, zki, zki1, zk8, zk16, zo32, zlt0, zle0, zeq0, zgt0, zLe0, nI_ltI, nI_leI, nI_eq, nI_add, nI_clamp, vp_in_nI, zup_s, zup_n, upd_s, upd_n, ne_eq, not_true_eq_false, not_false_eq_true] at hc <;> omega)
          | (intro hc; exact absurd rfl hc)
          | intro hc
          | apply And.intro
          | exact Or.inl rfl
          | exact Or.inr rfl
          | (show (_ : Int32) = 0 ∨ _ = 1; simp (disch := first | omega | decide) only [zcn, zkpl, zki, zki1, zk8, zk16, zo32, zlt0, zle0, zeq0, zgt0, zLe0, nI_ltI, nI_leI, nI_eq, nI_add, nI_clamp, vp_in_nI, zup_s, zup_n, upd_s, upd_n, ne_eq, not_true_eq_false, not_false_eq_true, zeq1, true_or, or_true]; done))
      refine zgo 20 [] ?_
      repeat' (first
        | (exact hc'.use f1)
        | (show vp_in _ _; simp (disch := first | omega | decide) only [e12, zcn, zkpl, zki, zki1, zk8, zk16, zo32, zlt0, zle0, zeq0, zgt0, zLe0, nI_ltI, nI_leI, nI_eq, nI_add, nI_clamp, vp_in_nI, zup_s, zup_n, upd_s, upd_n, ne_eq, not_true_eq_false, not_false_eq_true]; done)
        | (intro hc; exfalso; simp (disch := first | omega | decide) only [e12, zcn, zkpl, zki, zki1, zk8, zk16, zo32, zlt0, zle0, zeq0, zgt0, zLe0, nI_ltI, nI_leI, nI_eq, nI_add, nI_clamp, vp_in_nI, zup_s, zup_n, upd_s, upd_n, ne_eq, not_true_eq_false, not_false_eq_true] at hc <;> omega)
        | (intro hc; exact absurd rfl hc)
        | intro hc
        | apply And.intro
        | exact Or.inl rfl
        | exact Or.inr rfl
        | (show (_ : Int32) = 0 ∨ _ = 1; simp (disch := first | omega | decide) only [e12, zcn, zkpl, zki, zki1, zk8, zk16, zo32, zlt0, zle0, zeq0, zgt0, zLe0, nI_ltI, nI_leI, nI_eq, nI_add, nI_clamp, vp_in_nI, zup_s, zup_n, upd_s, upd_n, ne_eq, not_true_eq_false, not_false_eq_true, zeq1, true_or, or_true]; done))
    · have e3 : nI i + Int32.ofInt 1 = nI (i + 1) := by rw [zki, nI_add]
      have W1 := ih (i + 1) (by omega) (fun j g => by
        by_cases e2 : j = i
        · rw [e2]
          exact e
        · exact hj j (by omega)) W
      rw [← e3] at W1
      have f1 : ZW 129 (0, 0, 0, 0) 23 [(1, .int (nI i)), (0, .ref 12)] [.int (nI (s 8 (b + i)))] (SH, m) Q := by
        refine zgo 20 [] ?_
        repeat' (first
          | (exact W1)
          | (show vp_in _ _; simp (disch := first | omega | decide) only [zcn, zkpl, zki, zki1, zk8, zk16, zo32, zlt0, zle0, zeq0, zgt0, zLe0, nI_ltI, nI_leI, nI_eq, nI_add, nI_clamp, vp_in_nI, zup_s, zup_n, upd_s, upd_n, ne_eq, not_true_eq_false, not_false_eq_true]; done)
          | (intro hc; exfalso; simp (disch := first | omega | decide) only [zcn, zkpl, zki, zki1, zk8, zk16, zo32, zlt0, zle0, zeq0, zgt0, zLe0, nI_ltI, nI_leI, nI_eq, nI_add, nI_clamp, vp_in_nI, zup_s, zup_n, upd_s, upd_n, ne_eq, not_true_eq_false, not_false_eq_true] at hc <;> omega)
          | (intro hc; exact absurd rfl hc)
          | intro hc
          | apply And.intro
          | exact Or.inl rfl
          | exact Or.inr rfl
          | (show (_ : Int32) = 0 ∨ _ = 1; simp (disch := first | omega | decide) only [zcn, zkpl, zki, zki1, zk8, zk16, zo32, zlt0, zle0, zeq0, zgt0, zLe0, nI_ltI, nI_leI, nI_eq, nI_add, nI_clamp, vp_in_nI, zup_s, zup_n, upd_s, upd_n, ne_eq, not_true_eq_false, not_false_eq_true, zeq1, true_or, or_true]; done))
      refine zgo 20 [] ?_
      repeat' (first
        | (exact hc'.use f1)
        | (show vp_in _ _; simp (disch := first | omega | decide) only [e12, zcn, zkpl, zki, zki1, zk8, zk16, zo32, zlt0, zle0, zeq0, zgt0, zLe0, nI_ltI, nI_leI, nI_eq, nI_add, nI_clamp, vp_in_nI, zup_s, zup_n, upd_s, upd_n, ne_eq, not_true_eq_false, not_false_eq_true]; done)
        | (intro hc; exfalso; simp (disch := first | omega | decide) only [e12, zcn, zkpl, zki, zki1, zk8, zk16, zo32, zlt0, zle0, zeq0, zgt0, zLe0, nI_ltI, nI_leI, nI_eq, nI_add, nI_clamp, vp_in_nI, zup_s, zup_n, upd_s, upd_n, ne_eq, not_true_eq_false, not_false_eq_true] at hc <;> omega)
        | (intro hc; exact absurd rfl hc)
        | intro hc
        | apply And.intro
        | exact Or.inl rfl
        | exact Or.inr rfl
        | (show (_ : Int32) = 0 ∨ _ = 1; simp (disch := first | omega | decide) only [e12, zcn, zkpl, zki, zki1, zk8, zk16, zo32, zlt0, zle0, zeq0, zgt0, zLe0, nI_ltI, nI_leI, nI_eq, nI_add, nI_clamp, vp_in_nI, zup_s, zup_n, upd_s, upd_n, ne_eq, not_true_eq_false, not_false_eq_true, zeq1, true_or, or_true]; done))
theorem nIn1 {v : Nat} (h : v < 2 ^ 31) : (nI v = -1) = False := eq_false (fun g => by
  have g1 : nI v < 0 := by
    rw [g]
    decide
  exact nI_pos h g1)
theorem m11 : ((-1 : Int32) = -1) = True := by decide
/-- an amount: what it answers -/
def amR (f : Nat → Nat) (b l : Nat) (r : Int32) : Prop := (∃ v, AM f b l v ∧ r = nI v) ∨ (r = -1 ∧ ¬ ∃ v, AM f b l v)
theorem ev_amt {m : zM} {s : pS} {b l : Nat} (h : vS m s b l) : ∀ Q : zQ, (∀ r, amR (s 8) b l r → Q (some (.int r)) (SH, m)) → ZM 129 0 0 [.ref 12] (SH, m) Q := by
  intro Q hQ0
  have hl := h.1.1
  have h6 := h.2.2.2.2
  have e12 := h.2.2.2.1
  have z0 : nI 0 = Int32.ofInt 0 := by decide
  refine zgo 2 [] ?_
  refine pt_loop h Q l 0 (by omega) (fun j hj => absurd hj (Nat.not_lt_zero j)) (fun p p1 p2 p3 => ?_)
  have no : (¬ ∃ v, AMp (s 8) b l p v) → Q (some (.int (-1))) (SH, m) := fun g => hQ0 (-1) (Or.inr ⟨rfl, fun ⟨v, q, gv⟩ => g ⟨v, by rw [AMp_p gv p2 p3 p1]; exact gv⟩⟩)
  have yes : ∀ v, AMp (s 8) b l p v → Q (some (.int (nI v))) (SH, m) := fun v g => hQ0 _ (Or.inl ⟨v, ⟨p, g⟩, rfl⟩)
  by_cases e1 : 1 ≤ p ∧ p ≤ 6 ∧ dOK (s 8) b p
  · obtain ⟨e1, e2, e3⟩ := e1
    have hU := dvl_b e3 e2
    have hd := ev_dig h (x := Int32.ofInt 0) (y := nI p) (z := (Int8.ofInt 6).toInt32) (r := nI (dvl (s 8) p 0 b)) 0 p 6 (by decide) rfl (by decide) (by omega) (by omega) (by omega) (Or.inl ⟨rfl, by omega, by omega, e3⟩)
    have eU := nIn1 (v := dvl (s 8) p 0 b) (by omega)
    by_cases e4 : p = l
    · have hf : 0 < dvl (s 8) p 0 b → Q (some (.int (nI (100 * dvl (s 8) p 0 b)))) (SH, m) := fun g => yes _ ⟨e1, e2, p1, e3, by omega, Or.inl ⟨e4, rfl⟩⟩
      have hg : dvl (s 8) p 0 b = 0 → Q (some (.int (-1))) (SH, m) := fun g => no (fun ⟨v, gv⟩ => by
        have := gv.2.2.2.2
        omega)
      generalize dvl (s 8) p 0 b = U at *
      subst e4
      have f2 : ZW 129 (0, 0, 0, 0) 42 [(1, .int (nI p)), (0, .ref 12)] [.int (nI U)] (SH, m) Q := by
        by_cases e5 : U = 0
        · have hQ := hg e5
          refine zgo 60 [] ?_
          repeat' (first
            | (show vp_in _ _; simp (disch := first | omega | decide) only [e12, eU, nIn1, pk_sub, pk_mul, Nat.sub_self, z10, zcn, zkpl, zki, zki1, zk8, zk16, zo32, zlt0, zle0, zeq0, zgt0, zLe0, nI_ltI, nI_leI, nI_eq, nI_add, nI_clamp, vp_in_nI, zup_s, zup_n, upd_s, upd_n, ne_eq, not_true_eq_false, not_false_eq_true]; done)
            | (intro hc; exfalso; simp (disch := first | omega | decide) only [e12, eU, nIn1, pk_sub, pk_mul, Nat.sub_self, z10, zcn, zkpl, zki, zki1, zk8, zk16, zo32, zlt0, zle0, zeq0, zgt0, zLe0, nI_ltI, nI_leI, nI_eq, nI_add, nI_clamp, vp_in_nI, zup_s, zup_n, upd_s, upd_n, ne_eq, not_true_eq_false, not_false_eq_true] at hc <;> omega)
            | (intro hc; exact absurd rfl hc)
            | intro hc
            | apply And.intro
            | exact hQ
            | (show Q _ (SH, _); simp (disch := first | omega | decide) only [e12, eU, nIn1, pk_sub, pk_mul, Nat.sub_self, z10, zcn, zkpl, zki, zki1, zk8, zk16, zo32, zlt0, zle0, zeq0, zgt0, zLe0, nI_ltI, nI_leI, nI_eq, nI_add, nI_clamp, vp_in_nI, zup_s, zup_n, upd_s, upd_n, ne_eq, not_true_eq_false, not_false_eq_true]; exact hQ)
            | exact Or.inl rfl
            | exact Or.inr rfl
            | (show (_ : Int32) = 0 ∨ _ = 1; simp (disch := first | omega | decide) only [e12, eU, nIn1, pk_sub, pk_mul, Nat.sub_self, z10, zcn, zkpl, zki, zki1, zk8, zk16, zo32, zlt0, zle0, zeq0, zgt0, zLe0, nI_ltI, nI_leI, nI_eq, nI_add, nI_clamp, vp_in_nI, zup_s, zup_n, upd_s, upd_n, ne_eq, not_true_eq_false, not_false_eq_true, zeq1, true_or, or_true]; done))
        · have hQ := hf (by omega)
          refine zgo 60 [] ?_
          repeat' (first
            | (show vp_in _ _; simp (disch := first | omega | decide) only [e12, eU, nIn1, pk_sub, pk_mul, Nat.sub_self, z10, Nat.add_zero, zcn, zkpl, zki, zki1, zk8, zk16, zo32, zlt0, zle0, zeq0, zgt0, zLe0, nI_ltI, nI_leI, nI_eq, nI_add, nI_clamp, vp_in_nI, zup_s, zup_n, upd_s, upd_n, ne_eq, not_true_eq_false, not_false_eq_true]; done)
            | (intro hc; exfalso; simp (disch := first | omega | decide) only [e12, eU, nIn1, pk_sub, pk_mul, Nat.sub_self, z10, Nat.add_zero, zcn, zkpl, zki, zki1, zk8, zk16, zo32, zlt0, zle0, zeq0, zgt0, zLe0, nI_ltI, nI_leI, nI_eq, nI_add, nI_clamp, vp_in_nI, zup_s, zup_n, upd_s, upd_n, ne_eq, not_true_eq_false, not_false_eq_true] at hc <;> omega)
            | (intro hc; exact absurd rfl hc)
            | intro hc
            | apply And.intro
            | exact hQ
            | (show Q _ (SH, _); simp (disch := first | omega | decide) only [e12, eU, nIn1, pk_sub, pk_mul, Nat.sub_self, z10, Nat.add_zero, zcn, zkpl, zki, zki1, zk8, zk16, zo32, zlt0, zle0, zeq0, zgt0, zLe0, nI_ltI, nI_leI, nI_eq, nI_add, nI_clamp, vp_in_nI, zup_s, zup_n, upd_s, upd_n, ne_eq, not_true_eq_false, not_false_eq_true]; exact hQ)
            | exact Or.inl rfl
            | exact Or.inr rfl
            | (show (_ : Int32) = 0 ∨ _ = 1; simp (disch := first | omega | decide) only [e12, eU, nIn1, pk_sub, pk_mul, Nat.sub_self, z10, Nat.add_zero, zcn, zkpl, zki, zki1, zk8, zk16, zo32, zlt0, zle0, zeq0, zgt0, zLe0, nI_ltI, nI_leI, nI_eq, nI_add, nI_clamp, vp_in_nI, zup_s, zup_n, upd_s, upd_n, ne_eq, not_true_eq_false, not_false_eq_true, zeq1, true_or, or_true]; done))
      refine zgo 20 [] ?_
      repeat' (first
        | (exact hd.use f2)
        | (show vp_in _ _; simp (disch := first | omega | decide) only [zcn, zkpl, zki, zki1, zk8, zk16, zo32, zlt0, zle0, zeq0, zgt0, zLe0, nI_ltI, nI_leI, nI_eq, nI_add, nI_clamp, vp_in_nI, zup_s, zup_n, upd_s, upd_n, ne_eq, not_true_eq_false, not_false_eq_true]; done)
        | (intro hc; exfalso; simp (disch := first | omega | decide) only [zcn, zkpl, zki, zki1, zk8, zk16, zo32, zlt0, zle0, zeq0, zgt0, zLe0, nI_ltI, nI_leI, nI_eq, nI_add, nI_clamp, vp_in_nI, zup_s, zup_n, upd_s, upd_n, ne_eq, not_true_eq_false, not_false_eq_true] at hc <;> omega)
        | (intro hc; exact absurd rfl hc)
        | intro hc
        | apply And.intro
        | exact Or.inl rfl
        | exact Or.inr rfl
        | (show (_ : Int32) = 0 ∨ _ = 1; simp (disch := first | omega | decide) only [zcn, zkpl, zki, zki1, zk8, zk16, zo32, zlt0, zle0, zeq0, zgt0, zLe0, nI_ltI, nI_leI, nI_eq, nI_add, nI_clamp, vp_in_nI, zup_s, zup_n, upd_s, upd_n, ne_eq, not_true_eq_false, not_false_eq_true, zeq1, true_or, or_true]; done))
    · have e5 : s 8 (b + p) = 46 := p3.resolve_left e4
      have hd2 : ∀ r2, _ → Ev 130 [.ref 12, .int (nI p + Int32.ofInt 1), .int (m 12 2), .int (Int32.ofInt 2)] m (some (.int r2)) m := fun r2 g => ev_dig h (r := r2) (p + 1) l 2 (by rw [zki, nI_add]) e12 (by decide) (by omega) (by omega) (by omega) g
      by_cases e6 : 1 ≤ l - (p + 1) ∧ l - (p + 1) ≤ 2 ∧ dOK (s 8) (b + (p + 1)) (l - (p + 1))
      · have hd2 := hd2 _ (Or.inl ⟨rfl, e6⟩)
        obtain ⟨g1, g2, g3⟩ := e6
        have hP := dvl_b2 g3 g2
        have eP := nIn1 (v := dvl (s 8) (l - (p + 1)) 0 (b + (p + 1))) (by omega)
        have hf : ∀ V, V = 100 * dvl (s 8) p 0 b + (if l - p = 2 then 10 * dvl (s 8) (l - (p + 1)) 0 (b + (p + 1)) else dvl (s 8) (l - (p + 1)) 0 (b + (p + 1))) → (0 < V → Q (some (.int (nI V))) (SH, m)) ∧ (V = 0 → Q (some (.int (-1))) (SH, m)) := by
          intro V hV
          by_cases e7 : l - p = 2
          · have el : l - (p + 1) = 1 := by omega
            rw [if_pos e7, el] at hV
            rw [el] at g3
            refine ⟨fun g => yes V ⟨e1, e2, p1, e3, g, Or.inr ⟨by omega, e5, Or.inl ⟨by omega, g3, hV⟩⟩⟩, fun g => no (fun ⟨v, gv⟩ => ?_)⟩
            obtain ⟨_, _, _, _, v0, gv⟩ := gv
            rw [show b + (p + 1) = b + p + 1 from rfl] at hV
            omega
          · have el : l - (p + 1) = 2 := by omega
            rw [if_neg e7, el] at hV
            rw [el] at g3
            refine ⟨fun g => yes V ⟨e1, e2, p1, e3, g, Or.inr ⟨by omega, e5, Or.inr ⟨by omega, g3, hV⟩⟩⟩, fun g => no (fun ⟨v, gv⟩ => ?_)⟩
            obtain ⟨_, _, _, _, v0, gv⟩ := gv
            rw [show b + (p + 1) = b + p + 1 from rfl] at hV
            omega
        clear no yes g3
        generalize dvl (s 8) p 0 b = U at *
        generalize dvl (s 8) (l - (p + 1)) 0 (b + (p + 1)) = P at *
        have e8 : nI l - nI p = nI (l - p) := pk_sub (by omega)
        have f3 : ZW 129 (0, 0, 0, 0) 67 [(2, .int (nI U)), (1, .int (nI p)), (0, .ref 12)] [.int (nI P)] (SH, m) Q := by
          by_cases e7 : l - p = 2
          · rw [if_pos e7] at hf
            obtain ⟨q1, q2⟩ := hf _ rfl
            by_cases e9 : 100 * U + 10 * P = 0
            · have hQ := q2 e9
              refine zgo 60 [] ?_
              repeat' (first
                | (show vp_in _ _; simp (disch := first | omega | decide) only [e12, eU, eP, e8, pk_mul, z10, zcn, zkpl, zki, zki1, zk8, zk16, zo32, zlt0, zle0, zeq0, zgt0, zLe0, nI_ltI, nI_leI, nI_eq, nI_add, nI_clamp, vp_in_nI, zup_s, zup_n, upd_s, upd_n, ne_eq, not_true_eq_false, not_false_eq_true]; done)
                | (intro hc; exfalso; simp (disch := first | omega | decide) only [e12, eU, eP, e8, pk_mul, z10, zcn, zkpl, zki, zki1, zk8, zk16, zo32, zlt0, zle0, zeq0, zgt0, zLe0, nI_ltI, nI_leI, nI_eq, nI_add, nI_clamp, vp_in_nI, zup_s, zup_n, upd_s, upd_n, ne_eq, not_true_eq_false, not_false_eq_true] at hc <;> omega)
                | (intro hc; exact absurd rfl hc)
                | intro hc
                | apply And.intro
                | exact hQ
                | (show Q _ (SH, _); simp (disch := first | omega | decide) only [e12, eU, eP, e8, pk_mul, z10, zcn, zkpl, zki, zki1, zk8, zk16, zo32, zlt0, zle0, zeq0, zgt0, zLe0, nI_ltI, nI_leI, nI_eq, nI_add, nI_clamp, vp_in_nI, zup_s, zup_n, upd_s, upd_n, ne_eq, not_true_eq_false, not_false_eq_true]; exact hQ)
                | exact Or.inl rfl
                | exact Or.inr rfl
                | (show (_ : Int32) = 0 ∨ _ = 1; simp (disch := first | omega | decide) only [e12, eU, eP, e8, pk_mul, z10, zcn, zkpl, zki, zki1, zk8, zk16, zo32, zlt0, zle0, zeq0, zgt0, zLe0, nI_ltI, nI_leI, nI_eq, nI_add, nI_clamp, vp_in_nI, zup_s, zup_n, upd_s, upd_n, ne_eq, not_true_eq_false, not_false_eq_true, zeq1, true_or, or_true]; done))
            · have hQ := q1 (by omega)
              refine zgo 60 [] ?_
              repeat' (first
                | (show vp_in _ _; simp (disch := first | omega | decide) only [e12, eU, eP, e8, pk_mul, z10, zcn, zkpl, zki, zki1, zk8, zk16, zo32, zlt0, zle0, zeq0, zgt0, zLe0, nI_ltI, nI_leI, nI_eq, nI_add, nI_clamp, vp_in_nI, zup_s, zup_n, upd_s, upd_n, ne_eq, not_true_eq_false, not_false_eq_true]; done)
                | (intro hc; exfalso; simp (disch := first | omega | decide) only [e12, eU, eP, e8, pk_mul, z10, zcn, zkpl, zki, zki1, zk8, zk16, zo32, zlt0, zle0, zeq0, zgt0, zLe0, nI_ltI, nI_leI, nI_eq, nI_add, nI_clamp, vp_in_nI, zup_s, zup_n, upd_s, upd_n, ne_eq, not_true_eq_false, not_false_eq_true] at hc <;> omega)
                | (intro hc; exact absurd rfl hc)
                | intro hc
                | apply And.intro
                | exact hQ
                | (show Q _ (SH, _); simp (disch := first | omega | decide) only [e12, eU, eP, e8, pk_mul, z10, zcn, zkpl, zki, zki1, zk8, zk16, zo32, zlt0, zle0, zeq0, zgt0, zLe0, nI_ltI, nI_leI, nI_eq, nI_add, nI_clamp, vp_in_nI, zup_s, zup_n, upd_s, upd_n, ne_eq, not_true_eq_false, not_false_eq_true]; exact hQ)
                | exact Or.inl rfl
                | exact Or.inr rfl
                | (show (_ : Int32) = 0 ∨ _ = 1; simp (disch := first | omega | decide) only [e12, eU, eP, e8, pk_mul, z10, zcn, zkpl, zki, zki1, zk8, zk16, zo32, zlt0, zle0, zeq0, zgt0, zLe0, nI_ltI, nI_leI, nI_eq, nI_add, nI_clamp, vp_in_nI, zup_s, zup_n, upd_s, upd_n, ne_eq, not_true_eq_false, not_false_eq_true, zeq1, true_or, or_true]; done))
          · rw [if_neg e7] at hf
            obtain ⟨q1, q2⟩ := hf _ rfl
            by_cases e9 : 100 * U + P = 0
            · have hQ := q2 e9
              refine zgo 60 [] ?_
              repeat' (first
                | (show vp_in _ _; simp (disch := first | omega | decide) only [e12, eU, eP, e8, pk_mul, z10, zcn, zkpl, zki, zki1, zk8, zk16, zo32, zlt0, zle0, zeq0, zgt0, zLe0, nI_ltI, nI_leI, nI_eq, nI_add, nI_clamp, vp_in_nI, zup_s, zup_n, upd_s, upd_n, ne_eq, not_true_eq_false, not_false_eq_true]; done)
                | (intro hc; exfalso; simp (disch := first | omega | decide) only [e12, eU, eP, e8, pk_mul, z10, zcn, zkpl, zki, zki1, zk8, zk16, zo32, zlt0, zle0, zeq0, zgt0, zLe0, nI_ltI, nI_leI, nI_eq, nI_add, nI_clamp, vp_in_nI, zup_s, zup_n, upd_s, upd_n, ne_eq, not_true_eq_false, not_false_eq_true] at hc <;> omega)
                | (intro hc; exact absurd rfl hc)
                | intro hc
                | apply And.intro
                | exact hQ
                | (show Q _ (SH, _); simp (disch := first | omega | decide) only [e12, eU, eP, e8, pk_mul, z10, zcn, zkpl, zki, zki1, zk8, zk16, zo32, zlt0, zle0, zeq0, zgt0, zLe0, nI_ltI, nI_leI, nI_eq, nI_add, nI_clamp, vp_in_nI, zup_s, zup_n, upd_s, upd_n, ne_eq, not_true_eq_false, not_false_eq_true]; exact hQ)
                | exact Or.inl rfl
                | exact Or.inr rfl
                | (show (_ : Int32) = 0 ∨ _ = 1; simp (disch := first | omega | decide) only [e12, eU, eP, e8, pk_mul, z10, zcn, zkpl, zki, zki1, zk8, zk16, zo32, zlt0, zle0, zeq0, zgt0, zLe0, nI_ltI, nI_leI, nI_eq, nI_add, nI_clamp, vp_in_nI, zup_s, zup_n, upd_s, upd_n, ne_eq, not_true_eq_false, not_false_eq_true, zeq1, true_or, or_true]; done))
            · have hQ := q1 (by omega)
              refine zgo 60 [] ?_
              repeat' (first
                | (show vp_in _ _; simp (disch := first | omega | decide) only [e12, eU, eP, e8, pk_mul, z10, zcn, zkpl, zki, zki1, zk8, zk16, zo32, zlt0, zle0, zeq0, zgt0, zLe0, nI_ltI, nI_leI, nI_eq, nI_add, nI_clamp, vp_in_nI, zup_s, zup_n, upd_s, upd_n, ne_eq, not_true_eq_false, not_false_eq_true]; done)
                | (intro hc; exfalso; simp (disch := first | omega | decide) only [e12, eU, eP, e8, pk_mul, z10, zcn, zkpl, zki, zki1, zk8, zk16, zo32, zlt0, zle0, zeq0, zgt0, zLe0, nI_ltI, nI_leI, nI_eq, nI_add, nI_clamp, vp_in_nI, zup_s, zup_n, upd_s, upd_n, ne_eq, not_true_eq_false, not_false_eq_true] at hc <;> omega)
                | (intro hc; exact absurd rfl hc)
                | intro hc
                | apply And.intro
                | exact hQ
                | (show Q _ (SH, _); simp (disch := first | omega | decide) only [e12, eU, eP, e8, pk_mul, z10, zcn, zkpl, zki, zki1, zk8, zk16, zo32, zlt0, zle0, zeq0, zgt0, zLe0, nI_ltI, nI_leI, nI_eq, nI_add, nI_clamp, vp_in_nI, zup_s, zup_n, upd_s, upd_n, ne_eq, not_true_eq_false, not_false_eq_true]; exact hQ)
                | exact Or.inl rfl
                | exact Or.inr rfl
                | (show (_ : Int32) = 0 ∨ _ = 1; simp (disch := first | omega | decide) only [e12, eU, eP, e8, pk_mul, z10, zcn, zkpl, zki, zki1, zk8, zk16, zo32, zlt0, zle0, zeq0, zgt0, zLe0, nI_ltI, nI_leI, nI_eq, nI_add, nI_clamp, vp_in_nI, zup_s, zup_n, upd_s, upd_n, ne_eq, not_true_eq_false, not_false_eq_true, zeq1, true_or, or_true]; done))
        have f2 : ZW 129 (0, 0, 0, 0) 42 [(1, .int (nI p)), (0, .ref 12)] [.int (nI U)] (SH, m) Q := by
          refine zgo 20 [] ?_
          repeat' (first
            | (exact hd2.use f3)
            | (show vp_in _ _; simp (disch := first | omega | decide) only [e12, zcn, zkpl, zki, zki1, zk8, zk16, zo32, zlt0, zle0, zeq0, zgt0, zLe0, nI_ltI, nI_leI, nI_eq, nI_add, nI_clamp, vp_in_nI, zup_s, zup_n, upd_s, upd_n, ne_eq, not_true_eq_false, not_false_eq_true]; done)
            | (intro hc; exfalso; simp (disch := first | omega | decide) only [e12, zcn, zkpl, zki, zki1, zk8, zk16, zo32, zlt0, zle0, zeq0, zgt0, zLe0, nI_ltI, nI_leI, nI_eq, nI_add, nI_clamp, vp_in_nI, zup_s, zup_n, upd_s, upd_n, ne_eq, not_true_eq_false, not_false_eq_true] at hc <;> omega)
            | (intro hc; exact absurd rfl hc)
            | intro hc
            | apply And.intro
            | exact Or.inl rfl
            | exact Or.inr rfl
            | (show (_ : Int32) = 0 ∨ _ = 1; simp (disch := first | omega | decide) only [e12, zcn, zkpl, zki, zki1, zk8, zk16, zo32, zlt0, zle0, zeq0, zgt0, zLe0, nI_ltI, nI_leI, nI_eq, nI_add, nI_clamp, vp_in_nI, zup_s, zup_n, upd_s, upd_n, ne_eq, not_true_eq_false, not_false_eq_true, zeq1, true_or, or_true]; done))
        refine zgo 20 [] ?_
        repeat' (first
          | (exact hd.use f2)
          | (show vp_in _ _; simp (disch := first | omega | decide) only [zcn, zkpl, zki, zki1, zk8, zk16, zo32, zlt0, zle0, zeq0, zgt0, zLe0, nI_ltI, nI_leI, nI_eq, nI_add, nI_clamp, vp_in_nI, zup_s, zup_n, upd_s, upd_n, ne_eq, not_true_eq_false, not_false_eq_true]; done)
          | (intro hc; exfalso; simp (disch := first | omega | decide) only [zcn, zkpl, zki, zki1, zk8, zk16, zo32, zlt0, zle0, zeq0, zgt0, zLe0, nI_ltI, nI_leI, nI_eq, nI_add, nI_clamp, vp_in_nI, zup_s, zup_n, upd_s, upd_n, ne_eq, not_true_eq_false, not_false_eq_true] at hc <;> omega)
          | (intro hc; exact absurd rfl hc)
          | intro hc
          | apply And.intro
          | exact Or.inl rfl
          | exact Or.inr rfl
          | (show (_ : Int32) = 0 ∨ _ = 1; simp (disch := first | omega | decide) only [zcn, zkpl, zki, zki1, zk8, zk16, zo32, zlt0, zle0, zeq0, zgt0, zLe0, nI_ltI, nI_leI, nI_eq, nI_add, nI_clamp, vp_in_nI, zup_s, zup_n, upd_s, upd_n, ne_eq, not_true_eq_false, not_false_eq_true, zeq1, true_or, or_true]; done))
      · have hd2 := hd2 (-1) (Or.inr ⟨rfl, e6⟩)
        have hQ := no (fun ⟨v, gv⟩ => by
          obtain ⟨_, _, _, _, v0, gv⟩ := gv
          rcases gv with gv | ⟨_, _, ⟨x1, x2, _⟩ | ⟨x1, x2, _⟩⟩
          · omega
          · exact e6 (by rw [show l - (p + 1) = 1 by omega]; exact ⟨by omega, by omega, x2⟩)
          · exact e6 (by rw [show l - (p + 1) = 2 by omega]; exact ⟨by omega, by omega, x2⟩))
        clear no yes
        generalize dvl (s 8) p 0 b = U at *
        have f3 : ZW 129 (0, 0, 0, 0) 67 [(2, .int (nI U)), (1, .int (nI p)), (0, .ref 12)] [.int (-1)] (SH, m) Q := by
          refine zgo 60 [] ?_
          repeat' (first
            | (show vp_in _ _; simp (disch := first | omega | decide) only [e12, eU, m11, zcn, zkpl, zki, zki1, zk8, zk16, zo32, zlt0, zle0, zeq0, zgt0, zLe0, nI_ltI, nI_leI, nI_eq, nI_add, nI_clamp, vp_in_nI, zup_s, zup_n, upd_s, upd_n, ne_eq, not_true_eq_false, not_false_eq_true]; done)
            | (intro hc; exfalso; simp (disch := first | omega | decide) only [e12, eU, m11, zcn, zkpl, zki, zki1, zk8, zk16, zo32, zlt0, zle0, zeq0, zgt0, zLe0, nI_ltI, nI_leI, nI_eq, nI_add, nI_clamp, vp_in_nI, zup_s, zup_n, upd_s, upd_n, ne_eq, not_true_eq_false, not_false_eq_true] at hc <;> omega)
            | (intro hc; exact absurd rfl hc)
            | intro hc
            | apply And.intro
            | exact hQ
            | (show Q _ (SH, _); simp (disch := first | omega | decide) only [e12, eU, m11, zcn, zkpl, zki, zki1, zk8, zk16, zo32, zlt0, zle0, zeq0, zgt0, zLe0, nI_ltI, nI_leI, nI_eq, nI_add, nI_clamp, vp_in_nI, zup_s, zup_n, upd_s, upd_n, ne_eq, not_true_eq_false, not_false_eq_true]; exact hQ)
            | exact Or.inl rfl
            | exact Or.inr rfl
            | (show (_ : Int32) = 0 ∨ _ = 1; simp (disch := first | omega | decide) only [e12, eU, m11, zcn, zkpl, zki, zki1, zk8, zk16, zo32, zlt0, zle0, zeq0, zgt0, zLe0, nI_ltI, nI_leI, nI_eq, nI_add, nI_clamp, vp_in_nI, zup_s, zup_n, upd_s, upd_n, ne_eq, not_true_eq_false, not_false_eq_true, zeq1, true_or, or_true]; done))
        have f2 : ZW 129 (0, 0, 0, 0) 42 [(1, .int (nI p)), (0, .ref 12)] [.int (nI U)] (SH, m) Q := by
          refine zgo 20 [] ?_
          repeat' (first
            | (exact hd2.use f3)
            | (show vp_in _ _; simp (disch := first | omega | decide) only [e12, zcn, zkpl, zki, zki1, zk8, zk16, zo32, zlt0, zle0, zeq0, zgt0, zLe0, nI_ltI, nI_leI, nI_eq, nI_add, nI_clamp, vp_in_nI, zup_s, zup_n, upd_s, upd_n, ne_eq, not_true_eq_false, not_false_eq_true]; done)
            | (intro hc; exfalso; simp (disch := first | omega | decide) only [e12, zcn, zkpl, zki, zki1, zk8, zk16, zo32, zlt0, zle0, zeq0, zgt0, zLe0, nI_ltI, nI_leI, nI_eq, nI_add, nI_clamp, vp_in_nI, zup_s, zup_n, upd_s, upd_n, ne_eq, not_true_eq_false, not_false_eq_true] at hc <;> omega)
            | (intro hc; exact absurd rfl hc)
            | intro hc
            | apply And.intro
            | exact Or.inl rfl
            | exact Or.inr rfl
            | (show (_ : Int32) = 0 ∨ _ = 1; simp (disch := first | omega | decide) only [e12, zcn, zkpl, zki, zki1, zk8, zk16, zo32, zlt0, zle0, zeq0, zgt0, zLe0, nI_ltI, nI_leI, nI_eq, nI_add, nI_clamp, vp_in_nI, zup_s, zup_n, upd_s, upd_n, ne_eq, not_true_eq_false, not_false_eq_true, zeq1, true_or, or_true]; done))
        refine zgo 20 [] ?_
        repeat' (first
          | (exact hd.use f2)
          | (show vp_in _ _; simp (disch := first | omega | decide) only [zcn, zkpl, zki, zki1, zk8, zk16, zo32, zlt0, zle0, zeq0, zgt0, zLe0, nI_ltI, nI_leI, nI_eq, nI_add, nI_clamp, vp_in_nI, zup_s, zup_n, upd_s, upd_n, ne_eq, not_true_eq_false, not_false_eq_true]; done)
          | (intro hc; exfalso; simp (disch := first | omega | decide) only [zcn, zkpl, zki, zki1, zk8, zk16, zo32, zlt0, zle0, zeq0, zgt0, zLe0, nI_ltI, nI_leI, nI_eq, nI_add, nI_clamp, vp_in_nI, zup_s, zup_n, upd_s, upd_n, ne_eq, not_true_eq_false, not_false_eq_true] at hc <;> omega)
          | (intro hc; exact absurd rfl hc)
          | intro hc
          | apply And.intro
          | exact Or.inl rfl
          | exact Or.inr rfl
          | (show (_ : Int32) = 0 ∨ _ = 1; simp (disch := first | omega | decide) only [zcn, zkpl, zki, zki1, zk8, zk16, zo32, zlt0, zle0, zeq0, zgt0, zLe0, nI_ltI, nI_leI, nI_eq, nI_add, nI_clamp, vp_in_nI, zup_s, zup_n, upd_s, upd_n, ne_eq, not_true_eq_false, not_false_eq_true, zeq1, true_or, or_true]; done))
  · have hd := ev_dig h (x := Int32.ofInt 0) (y := nI p) (z := (Int8.ofInt 6).toInt32) (r := -1) 0 p 6 (by decide) rfl (by decide) (by omega) (by omega) (by omega) (Or.inr ⟨rfl, fun g => e1 g⟩)
    have hQ := no (fun ⟨v, gv⟩ => e1 ⟨gv.1, gv.2.1, gv.2.2.2.1⟩)
    have f3 : ∀ r2, ZW 129 (0, 0, 0, 0) 67 [(2, .int (-1)), (1, .int (nI p)), (0, .ref 12)] [.int r2] (SH, m) Q := by
      intro r2
      refine zgo 60 [] ?_
      repeat' (first
        | (show vp_in _ _; simp (disch := first | omega | decide) only [e12, m11, zcn, zkpl, zki, zki1, zk8, zk16, zo32, zlt0, zle0, zeq0, zgt0, zLe0, nI_ltI, nI_leI, nI_eq, nI_add, nI_clamp, vp_in_nI, zup_s, zup_n, upd_s, upd_n, ne_eq, not_true_eq_false, not_false_eq_true]; done)
        | (intro hc; exfalso; simp (disch := first | omega | decide) only [e12, m11, zcn, zkpl, zki, zki1, zk8, zk16, zo32, zlt0, zle0, zeq0, zgt0, zLe0, nI_ltI, nI_leI, nI_eq, nI_add, nI_clamp, vp_in_nI, zup_s, zup_n, upd_s, upd_n, ne_eq, not_true_eq_false, not_false_eq_true] at hc <;> omega)
        | (intro hc; exact absurd rfl hc)
        | intro hc
        | apply And.intro
        | exact hQ
        | (show Q _ (SH, _); simp (disch := first | omega | decide) only [e12, m11, zcn, zkpl, zki, zki1, zk8, zk16, zo32, zlt0, zle0, zeq0, zgt0, zLe0, nI_ltI, nI_leI, nI_eq, nI_add, nI_clamp, vp_in_nI, zup_s, zup_n, upd_s, upd_n, ne_eq, not_true_eq_false, not_false_eq_true]; exact hQ)
        | exact Or.inl rfl
        | exact Or.inr rfl
        | (show (_ : Int32) = 0 ∨ _ = 1; simp (disch := first | omega | decide) only [e12, m11, zcn, zkpl, zki, zki1, zk8, zk16, zo32, zlt0, zle0, zeq0, zgt0, zLe0, nI_ltI, nI_leI, nI_eq, nI_add, nI_clamp, vp_in_nI, zup_s, zup_n, upd_s, upd_n, ne_eq, not_true_eq_false, not_false_eq_true, zeq1, true_or, or_true]; done))
    have f2 : ZW 129 (0, 0, 0, 0) 42 [(1, .int (nI p)), (0, .ref 12)] [.int (-1)] (SH, m) Q := by
      by_cases e4 : p = l
      · subst e4
        refine zgo 60 [] ?_
        repeat' (first
          | (show vp_in _ _; simp (disch := first | omega | decide) only [e12, m11, zcn, zkpl, zki, zki1, zk8, zk16, zo32, zlt0, zle0, zeq0, zgt0, zLe0, nI_ltI, nI_leI, nI_eq, nI_add, nI_clamp, vp_in_nI, zup_s, zup_n, upd_s, upd_n, ne_eq, not_true_eq_false, not_false_eq_true]; done)
          | (intro hc; exfalso; simp (disch := first | omega | decide) only [e12, m11, zcn, zkpl, zki, zki1, zk8, zk16, zo32, zlt0, zle0, zeq0, zgt0, zLe0, nI_ltI, nI_leI, nI_eq, nI_add, nI_clamp, vp_in_nI, zup_s, zup_n, upd_s, upd_n, ne_eq, not_true_eq_false, not_false_eq_true] at hc <;> omega)
          | (intro hc; exact absurd rfl hc)
          | intro hc
          | apply And.intro
          | exact hQ
          | (show Q _ (SH, _); simp (disch := first | omega | decide) only [e12, m11, zcn, zkpl, zki, zki1, zk8, zk16, zo32, zlt0, zle0, zeq0, zgt0, zLe0, nI_ltI, nI_leI, nI_eq, nI_add, nI_clamp, vp_in_nI, zup_s, zup_n, upd_s, upd_n, ne_eq, not_true_eq_false, not_false_eq_true]; exact hQ)
          | exact Or.inl rfl
          | exact Or.inr rfl
          | (show (_ : Int32) = 0 ∨ _ = 1; simp (disch := first | omega | decide) only [e12, m11, zcn, zkpl, zki, zki1, zk8, zk16, zo32, zlt0, zle0, zeq0, zgt0, zLe0, nI_ltI, nI_leI, nI_eq, nI_add, nI_clamp, vp_in_nI, zup_s, zup_n, upd_s, upd_n, ne_eq, not_true_eq_false, not_false_eq_true, zeq1, true_or, or_true]; done))
      · have hd2 : ∃ r2, Ev 130 [.ref 12, .int (nI p + Int32.ofInt 1), .int (m 12 2), .int (Int32.ofInt 2)] m (some (.int r2)) m := by
          rcases Classical.em (1 ≤ l - (p + 1) ∧ l - (p + 1) ≤ 2 ∧ dOK (s 8) (b + (p + 1)) (l - (p + 1))) with g | g
          · exact ⟨_, ev_dig h (p + 1) l 2 (by rw [zki, nI_add]) e12 (by decide) (by omega) (by omega) (by omega) (Or.inl ⟨rfl, g⟩)⟩
          · exact ⟨_, ev_dig h (p + 1) l 2 (by rw [zki, nI_add]) e12 (by decide) (by omega) (by omega) (by omega) (Or.inr ⟨rfl, g⟩)⟩
        obtain ⟨r2, hd2⟩ := hd2
        refine zgo 20 [] ?_
        repeat' (first
          | (exact hd2.use (f3 r2))
          | (show vp_in _ _; simp (disch := first | omega | decide) only [e12, zcn, zkpl, zki, zki1, zk8, zk16, zo32, zlt0, zle0, zeq0, zgt0, zLe0, nI_ltI, nI_leI, nI_eq, nI_add, nI_clamp, vp_in_nI, zup_s, zup_n, upd_s, upd_n, ne_eq, not_true_eq_false, not_false_eq_true]; done)
          | (intro hc; exfalso; simp (disch := first | omega | decide) only [e12, zcn, zkpl, zki, zki1, zk8, zk16, zo32, zlt0, zle0, zeq0, zgt0, zLe0, nI_ltI, nI_leI, nI_eq, nI_add, nI_clamp, vp_in_nI, zup_s, zup_n, upd_s, upd_n, ne_eq, not_true_eq_false, not_false_eq_true] at hc <;> omega)
          | (intro hc; exact absurd rfl hc)
          | intro hc
          | apply And.intro
          | exact Or.inl rfl
          | exact Or.inr rfl
          | (show (_ : Int32) = 0 ∨ _ = 1; simp (disch := first | omega | decide) only [e12, zcn, zkpl, zki, zki1, zk8, zk16, zo32, zlt0, zle0, zeq0, zgt0, zLe0, nI_ltI, nI_leI, nI_eq, nI_add, nI_clamp, vp_in_nI, zup_s, zup_n, upd_s, upd_n, ne_eq, not_true_eq_false, not_false_eq_true, zeq1, true_or, or_true]; done))
    refine zgo 20 [] ?_
    repeat' (first
      | (exact hd.use f2)
      | (show vp_in _ _; simp (disch := first | omega | decide) only [zcn, zkpl, zki, zki1, zk8, zk16, zo32, zlt0, zle0, zeq0, zgt0, zLe0, nI_ltI, nI_leI, nI_eq, nI_add, nI_clamp, vp_in_nI, zup_s, zup_n, upd_s, upd_n, ne_eq, not_true_eq_false, not_false_eq_true]; done)
      | (intro hc; exfalso; simp (disch := first | omega | decide) only [zcn, zkpl, zki, zki1, zk8, zk16, zo32, zlt0, zle0, zeq0, zgt0, zLe0, nI_ltI, nI_leI, nI_eq, nI_add, nI_clamp, vp_in_nI, zup_s, zup_n, upd_s, upd_n, ne_eq, not_true_eq_false, not_false_eq_true] at hc <;> omega)
      | (intro hc; exact absurd rfl hc)
      | intro hc
      | apply And.intro
      | exact Or.inl rfl
      | exact Or.inr rfl
      | (show (_ : Int32) = 0 ∨ _ = 1; simp (disch := first | omega | decide) only [zcn, zkpl, zki, zki1, zk8, zk16, zo32, zlt0, zle0, zeq0, zgt0, zLe0, nI_ltI, nI_leI, nI_eq, nI_add, nI_clamp, vp_in_nI, zup_s, zup_n, upd_s, upd_n, ne_eq, not_true_eq_false, not_false_eq_true, zeq1, true_or, or_true]; done))
/-- the values of the letters: what a value answers -/
def cvR (s : pS) (k : Nat) (r : Int32) : Prop :=
  let b := tb s k
  let l := te s k - tb s k
  (s 2 k = 73 ∨ s 2 k = 69 ∨ s 2 k = 79) ∧ ((r = nI (nv8 (s 8) l 0 b) ∧ (1 ≤ l ∧ l ≤ 4 ∧ nOK (s 8) b l)) ∨ (r = -1 ∧ ¬ (1 ≤ l ∧ l ≤ 4 ∧ nOK (s 8) b l)))
  ∨ s 2 k = 78 ∧ ((r = nI (dvl (s 8) l 0 b) ∧ (1 ≤ l ∧ l ≤ 2 ∧ dOK (s 8) b l)) ∨ (r = -1 ∧ ¬ (1 ≤ l ∧ l ≤ 2 ∧ dOK (s 8) b l)))
  ∨ (s 2 k = 68 ∨ s 2 k = 67) ∧ ((r = nI (1000 + 100 * (s 8 b - 65) + dvl (s 8) 2 0 (b + 1)) ∧ aOK (s 8) b l) ∨ (r = -1 ∧ ¬ aOK (s 8) b l))
  ∨ s 2 k = 86 ∧ ((r = nI (s 8 b) ∧ vOK (s 8) b l) ∨ (r = -1 ∧ ¬ vOK (s 8) b l))
  ∨ (s 2 k = 83 ∨ s 2 k = 65) ∧ amR (s 8) b l r
theorem et_has {m : zM} {N k : Nat} (h : m 1 5 = nI N) (hN : N ≤ 75) (hk : k < 100) {b : Int32} (hb : (b = 1 ∧ k < N) ∨ (b = 0 ∧ ¬ k < N)) : Ev 121 [.ref 1, .int (nI k)] m (some (.int b)) m := by
  intro Q hQ
  rcases hb with ⟨rfl, hb⟩ | ⟨rfl, hb⟩
  · refine zgo 20 [] ?_
    repeat' (first
      | (show vp_in _ _; simp (disch := first | omega | decide) only [h, zcn, zkpl, zki, zki1, zk8, zk16, zo32, zlt0, zle0, zeq0, zgt0, zLe0, nI_ltI, nI_leI, nI_eq, nI_add, nI_clamp, vp_in_nI, zup_s, zup_n, upd_s, upd_n, ne_eq, not_true_eq_false, not_false_eq_true]; done)
      | (intro hc; exfalso; simp (disch := first | omega | decide) only [h, zcn, zkpl, zki, zki1, zk8, zk16, zo32, zlt0, zle0, zeq0, zgt0, zLe0, nI_ltI, nI_leI, nI_eq, nI_add, nI_clamp, vp_in_nI, zup_s, zup_n, upd_s, upd_n, ne_eq, not_true_eq_false, not_false_eq_true] at hc <;> omega)
      | (intro hc; exact absurd rfl hc)
      | intro hc
      | apply And.intro
      | exact hQ
      | (show Q _ (SH, _); simp (disch := first | omega | decide) only [h, zcn, zkpl, zki, zki1, zk8, zk16, zo32, zlt0, zle0, zeq0, zgt0, zLe0, nI_ltI, nI_leI, nI_eq, nI_add, nI_clamp, vp_in_nI, zup_s, zup_n, upd_s, upd_n, ne_eq, not_true_eq_false, not_false_eq_true]; exact hQ)
      | exact Or.inl rfl
      | exact Or.inr rfl
      | (show (_ : Int32) = 0 ∨ _ = 1; simp (disch := first | omega | decide) only [h, zcn, zkpl, zki, zki1, zk8, zk16, zo32, zlt0, zle0, zeq0, zgt0, zLe0, nI_ltI, nI_leI, nI_eq, nI_add, nI_clamp, vp_in_nI, zup_s, zup_n, upd_s, upd_n, ne_eq, not_true_eq_false, not_false_eq_true, zeq1, true_or, or_true]; done))
  · refine zgo 20 [] ?_
    repeat' (first
      | (show vp_in _ _; simp (disch := first | omega | decide) only [h, zcn, zkpl, zki, zki1, zk8, zk16, zo32, zlt0, zle0, zeq0, zgt0, zLe0, nI_ltI, nI_leI, nI_eq, nI_add, nI_clamp, vp_in_nI, zup_s, zup_n, upd_s, upd_n, ne_eq, not_true_eq_false, not_false_eq_true]; done)
      | (intro hc; exfalso; simp (disch := first | omega | decide) only [h, zcn, zkpl, zki, zki1, zk8, zk16, zo32, zlt0, zle0, zeq0, zgt0, zLe0, nI_ltI, nI_leI, nI_eq, nI_add, nI_clamp, vp_in_nI, zup_s, zup_n, upd_s, upd_n, ne_eq, not_true_eq_false, not_false_eq_true] at hc <;> omega)
      | (intro hc; exact absurd rfl hc)
      | intro hc
      | apply And.intro
      | exact hQ
      | (show Q _ (SH, _); simp (disch := first | omega | decide) only [h, zcn, zkpl, zki, zki1, zk8, zk16, zo32, zlt0, zle0, zeq0, zgt0, zLe0, nI_ltI, nI_leI, nI_eq, nI_add, nI_clamp, vp_in_nI, zup_s, zup_n, upd_s, upd_n, ne_eq, not_true_eq_false, not_false_eq_true]; exact hQ)
      | exact Or.inl rfl
      | exact Or.inr rfl
      | (show (_ : Int32) = 0 ∨ _ = 1; simp (disch := first | omega | decide) only [h, zcn, zkpl, zki, zki1, zk8, zk16, zo32, zlt0, zle0, zeq0, zgt0, zLe0, nI_ltI, nI_leI, nI_eq, nI_add, nI_clamp, vp_in_nI, zup_s, zup_n, upd_s, upd_n, ne_eq, not_true_eq_false, not_false_eq_true, zeq1, true_or, or_true]; done))
theorem ev_lett {m : zM} {s : pS} {k : Nat} (h : tD m s) (hN : s 0 1 ≤ 75) (hk : k < s 0 1) : Ev 116 [.ref 1, .int (nI k)] m (some (.int (nI (s 2 k)))) m := by
  intro Q hQ
  have h1 := h.1.1
  have e2 := h.2.1.1 k hk
  rw [← e2] at hQ
  have hh := et_has h1 hN (by omega) (b := 1) (Or.inl ⟨rfl, hk⟩)
  have f1 : ZW 116 (0, 0, 0, 0) 5 [(0, .ref 1), (1, .int (nI k))] [.int 1] (SH, m) Q := by
    generalize s 0 1 = N at *
    refine zgo 20 [] ?_
    repeat' (first
      | (show vp_in _ _; simp (disch := first | omega | decide) only [z10, zcn, zkpl, zki, zki1, zk8, zk16, zo32, zlt0, zle0, zeq0, zgt0, zLe0, nI_ltI, nI_leI, nI_eq, nI_add, nI_clamp, vp_in_nI, zup_s, zup_n, upd_s, upd_n, ne_eq, not_true_eq_false, not_false_eq_true]; done)
      | (intro hc; exfalso; simp (disch := first | omega | decide) only [z10, zcn, zkpl, zki, zki1, zk8, zk16, zo32, zlt0, zle0, zeq0, zgt0, zLe0, nI_ltI, nI_leI, nI_eq, nI_add, nI_clamp, vp_in_nI, zup_s, zup_n, upd_s, upd_n, ne_eq, not_true_eq_false, not_false_eq_true] at hc <;> omega)
      | (intro hc; exact absurd rfl hc)
      | intro hc
      | apply And.intro
      | exact hQ
      | (show Q _ (SH, _); simp (disch := first | omega | decide) only [z10, zcn, zkpl, zki, zki1, zk8, zk16, zo32, zlt0, zle0, zeq0, zgt0, zLe0, nI_ltI, nI_leI, nI_eq, nI_add, nI_clamp, vp_in_nI, zup_s, zup_n, upd_s, upd_n, ne_eq, not_true_eq_false, not_false_eq_true]; exact hQ)
      | exact Or.inl rfl
      | exact Or.inr rfl
      | (show (_ : Int32) = 0 ∨ _ = 1; simp (disch := first | omega | decide) only [z10, zcn, zkpl, zki, zki1, zk8, zk16, zo32, zlt0, zle0, zeq0, zgt0, zLe0, nI_ltI, nI_leI, nI_eq, nI_add, nI_clamp, vp_in_nI, zup_s, zup_n, upd_s, upd_n, ne_eq, not_true_eq_false, not_false_eq_true, zeq1, true_or, or_true]; done))
  refine zgo 20 [] ?_
  repeat' (first
    | (exact hh.use f1)
    | (show vp_in _ _; simp (disch := first | omega | decide) only [zcn, zkpl, zki, zki1, zk8, zk16, zo32, zlt0, zle0, zeq0, zgt0, zLe0, nI_ltI, nI_leI, nI_eq, nI_add, nI_clamp, vp_in_nI, zup_s, zup_n, upd_s, upd_n, ne_eq, not_true_eq_false, not_false_eq_true]; done)
    | (intro hc; exfalso; simp (disch := first | omega | decide) only [zcn, zkpl, zki, zki1, zk8, zk16, zo32, zlt0, zle0, zeq0, zgt0, zLe0, nI_ltI, nI_leI, nI_eq, nI_add, nI_clamp, vp_in_nI, zup_s, zup_n, upd_s, upd_n, ne_eq, not_true_eq_false, not_false_eq_true] at hc <;> omega)
    | (intro hc; exact absurd rfl hc)
    | intro hc
    | apply And.intro
    | exact Or.inl rfl
    | exact Or.inr rfl
    | (show (_ : Int32) = 0 ∨ _ = 1; simp (disch := first | omega | decide) only [zcn, zkpl, zki, zki1, zk8, zk16, zo32, zlt0, zle0, zeq0, zgt0, zLe0, nI_ltI, nI_leI, nI_eq, nI_add, nI_clamp, vp_in_nI, zup_s, zup_n, upd_s, upd_n, ne_eq, not_true_eq_false, not_false_eq_true, zeq1, true_or, or_true]; done))
theorem ev_begO {m : zM} {s : pS} {k : Nat} (h : tD m s) (hN : s 0 1 ≤ 75) (hk : k < s 0 1) : Ev 118 [.ref 1, .int (nI k)] m (some (.int (nI (s 4 k)))) m := by
  intro Q hQ
  have h1 := h.1.1
  have e2 := h.2.1.2.2.1 k hk
  rw [← e2] at hQ
  have hh := et_has h1 hN (by omega) (b := 1) (Or.inl ⟨rfl, hk⟩)
  have f1 : ZW 118 (0, 0, 0, 0) 5 [(0, .ref 1), (1, .int (nI k))] [.int 1] (SH, m) Q := by
    generalize s 0 1 = N at *
    refine zgo 20 [] ?_
    repeat' (first
      | (show vp_in _ _; simp (disch := first | omega | decide) only [z10, zcn, zkpl, zki, zki1, zk8, zk16, zo32, zlt0, zle0, zeq0, zgt0, zLe0, nI_ltI, nI_leI, nI_eq, nI_add, nI_clamp, vp_in_nI, zup_s, zup_n, upd_s, upd_n, ne_eq, not_true_eq_false, not_false_eq_true]; done)
      | (intro hc; exfalso; simp (disch := first | omega | decide) only [z10, zcn, zkpl, zki, zki1, zk8, zk16, zo32, zlt0, zle0, zeq0, zgt0, zLe0, nI_ltI, nI_leI, nI_eq, nI_add, nI_clamp, vp_in_nI, zup_s, zup_n, upd_s, upd_n, ne_eq, not_true_eq_false, not_false_eq_true] at hc <;> omega)
      | (intro hc; exact absurd rfl hc)
      | intro hc
      | apply And.intro
      | exact hQ
      | (show Q _ (SH, _); simp (disch := first | omega | decide) only [z10, zcn, zkpl, zki, zki1, zk8, zk16, zo32, zlt0, zle0, zeq0, zgt0, zLe0, nI_ltI, nI_leI, nI_eq, nI_add, nI_clamp, vp_in_nI, zup_s, zup_n, upd_s, upd_n, ne_eq, not_true_eq_false, not_false_eq_true]; exact hQ)
      | exact Or.inl rfl
      | exact Or.inr rfl
      | (show (_ : Int32) = 0 ∨ _ = 1; simp (disch := first | omega | decide) only [z10, zcn, zkpl, zki, zki1, zk8, zk16, zo32, zlt0, zle0, zeq0, zgt0, zLe0, nI_ltI, nI_leI, nI_eq, nI_add, nI_clamp, vp_in_nI, zup_s, zup_n, upd_s, upd_n, ne_eq, not_true_eq_false, not_false_eq_true, zeq1, true_or, or_true]; done))
  refine zgo 20 [] ?_
  repeat' (first
    | (exact hh.use f1)
    | (show vp_in _ _; simp (disch := first | omega | decide) only [zcn, zkpl, zki, zki1, zk8, zk16, zo32, zlt0, zle0, zeq0, zgt0, zLe0, nI_ltI, nI_leI, nI_eq, nI_add, nI_clamp, vp_in_nI, zup_s, zup_n, upd_s, upd_n, ne_eq, not_true_eq_false, not_false_eq_true]; done)
    | (intro hc; exfalso; simp (disch := first | omega | decide) only [zcn, zkpl, zki, zki1, zk8, zk16, zo32, zlt0, zle0, zeq0, zgt0, zLe0, nI_ltI, nI_leI, nI_eq, nI_add, nI_clamp, vp_in_nI, zup_s, zup_n, upd_s, upd_n, ne_eq, not_true_eq_false, not_false_eq_true] at hc <;> omega)
    | (intro hc; exact absurd rfl hc)
    | intro hc
    | apply And.intro
    | exact Or.inl rfl
    | exact Or.inr rfl
    | (show (_ : Int32) = 0 ∨ _ = 1; simp (disch := first | omega | decide) only [zcn, zkpl, zki, zki1, zk8, zk16, zo32, zlt0, zle0, zeq0, zgt0, zLe0, nI_ltI, nI_leI, nI_eq, nI_add, nI_clamp, vp_in_nI, zup_s, zup_n, upd_s, upd_n, ne_eq, not_true_eq_false, not_false_eq_true, zeq1, true_or, or_true]; done))
theorem ev_endO {m : zM} {s : pS} {k : Nat} (h : tD m s) (hN : s 0 1 ≤ 75) (hk : k < s 0 1) : Ev 119 [.ref 1, .int (nI k)] m (some (.int (nI (s 5 k)))) m := by
  intro Q hQ
  have h1 := h.1.1
  have e2 := h.2.1.2.2.2.1 k hk
  rw [← e2] at hQ
  have hh := et_has h1 hN (by omega) (b := 1) (Or.inl ⟨rfl, hk⟩)
  have f1 : ZW 119 (0, 0, 0, 0) 5 [(0, .ref 1), (1, .int (nI k))] [.int 1] (SH, m) Q := by
    generalize s 0 1 = N at *
    refine zgo 20 [] ?_
    repeat' (first
      | (show vp_in _ _; simp (disch := first | omega | decide) only [z10, zcn, zkpl, zki, zki1, zk8, zk16, zo32, zlt0, zle0, zeq0, zgt0, zLe0, nI_ltI, nI_leI, nI_eq, nI_add, nI_clamp, vp_in_nI, zup_s, zup_n, upd_s, upd_n, ne_eq, not_true_eq_false, not_false_eq_true]; done)
      | (intro hc; exfalso; simp (disch := first | omega | decide) only [z10, zcn, zkpl, zki, zki1, zk8, zk16, zo32, zlt0, zle0, zeq0, zgt0, zLe0, nI_ltI, nI_leI, nI_eq, nI_add, nI_clamp, vp_in_nI, zup_s, zup_n, upd_s, upd_n, ne_eq, not_true_eq_false, not_false_eq_true] at hc <;> omega)
      | (intro hc; exact absurd rfl hc)
      | intro hc
      | apply And.intro
      | exact hQ
      | (show Q _ (SH, _); simp (disch := first | omega | decide) only [z10, zcn, zkpl, zki, zki1, zk8, zk16, zo32, zlt0, zle0, zeq0, zgt0, zLe0, nI_ltI, nI_leI, nI_eq, nI_add, nI_clamp, vp_in_nI, zup_s, zup_n, upd_s, upd_n, ne_eq, not_true_eq_false, not_false_eq_true]; exact hQ)
      | exact Or.inl rfl
      | exact Or.inr rfl
      | (show (_ : Int32) = 0 ∨ _ = 1; simp (disch := first | omega | decide) only [z10, zcn, zkpl, zki, zki1, zk8, zk16, zo32, zlt0, zle0, zeq0, zgt0, zLe0, nI_ltI, nI_leI, nI_eq, nI_add, nI_clamp, vp_in_nI, zup_s, zup_n, upd_s, upd_n, ne_eq, not_true_eq_false, not_false_eq_true, zeq1, true_or, or_true]; done))
  refine zgo 20 [] ?_
  repeat' (first
    | (exact hh.use f1)
    | (show vp_in _ _; simp (disch := first | omega | decide) only [zcn, zkpl, zki, zki1, zk8, zk16, zo32, zlt0, zle0, zeq0, zgt0, zLe0, nI_ltI, nI_leI, nI_eq, nI_add, nI_clamp, vp_in_nI, zup_s, zup_n, upd_s, upd_n, ne_eq, not_true_eq_false, not_false_eq_true]; done)
    | (intro hc; exfalso; simp (disch := first | omega | decide) only [zcn, zkpl, zki, zki1, zk8, zk16, zo32, zlt0, zle0, zeq0, zgt0, zLe0, nI_ltI, nI_leI, nI_eq, nI_add, nI_clamp, vp_in_nI, zup_s, zup_n, upd_s, upd_n, ne_eq, not_true_eq_false, not_false_eq_true] at hc <;> omega)
    | (intro hc; exact absurd rfl hc)
    | intro hc
    | apply And.intro
    | exact Or.inl rfl
    | exact Or.inr rfl
    | (show (_ : Int32) = 0 ∨ _ = 1; simp (disch := first | omega | decide) only [zcn, zkpl, zki, zki1, zk8, zk16, zo32, zlt0, zle0, zeq0, zgt0, zLe0, nI_ltI, nI_leI, nI_eq, nI_add, nI_clamp, vp_in_nI, zup_s, zup_n, upd_s, upd_n, ne_eq, not_true_eq_false, not_false_eq_true, zeq1, true_or, or_true]; done))
theorem ev_read {m : zM} {s : pS} {k : Nat} (h : tD m s) (hs : okC8 s) (hN : s 0 1 ≤ 75) (hk : k < s 0 1) (hse : s 4 k ≤ s 5 k ∧ s 5 k ≤ s 0 2) (hlt : s 2 k = 73 ∨ s 2 k = 69 ∨ s 2 k = 79 ∨ s 2 k = 78 ∨ s 2 k = 68 ∨ s 2 k = 67 ∨ s 2 k = 86 ∨ s 2 k = 83 ∨ s 2 k = 65) : ∀ Q : zQ, (∀ r, cvR s k r → Q (some (.int r)) (SH, cvm m (tb s k) (te s k - tb s k))) → ZM 124 0 0 [.ref 12, .int (nI k)] (SH, m) Q := by
  intro Q hQ
  obtain ⟨t1, t2, t3⟩ := tbe hse.1
  have htr := ev_trim (i := k) hs h.1.2.1 h.2.2.2 hse.1 hse.2
  have hD2 : tD (cvm m (tb s k) (te s k - tb s k)) s := h.cg (fun a ha => by unfold cvm; rw [zup_n _ (by omega), zup_n _ (by omega)])
  have hV : vS (cvm m (tb s k) (te s k - tb s k)) s (tb s k) (te s k - tb s k) := ⟨hs, ⟨hD2.1.2.1, hD2.2.2.2⟩, rfl, rfl, by omega⟩
  have hlet := ev_lett hD2 hN hk
  have hb := ev_begO h hN hk
  have he := ev_endO h hN hk
  have e122 : cvm m (tb s k) (te s k - tb s k) 12 2 = nI (te s k - tb s k) := rfl
  unfold cvR at hQ
  dsimp only at hQ
  generalize cvm m (tb s k) (te s k - tb s k) = m1 at *
  generalize te s k - tb s k = l at *
  generalize tb s k = b at *
  have fr : ∀ r, Q (some (.int r)) (SH, m1) → ∀ p, (p = 136 ∨ p = 147 ∨ p = 152 ∨ p = 157 ∨ p = 162) → ZW 124 (0, 0, 0, 0) p [(0, .ref 12), (1, .int (nI k))] [.int r] (SH, m1) Q := by
    intro r hQ p hp
    rcases hp with rfl | rfl | rfl | rfl | rfl
    · refine zgo 5 [] ?_
      exact hQ
    · refine zgo 5 [] ?_
      exact hQ
    · refine zgo 5 [] ?_
      exact hQ
    · refine zgo 5 [] ?_
      exact hQ
    · refine zgo 5 [] ?_
      exact hQ
  have nam : s 2 k = 73 ∨ s 2 k = 69 ∨ s 2 k = 79 → ∃ r, Q (some (.int r)) (SH, m1) ∧ Ev 126 [.ref 12] m1 (some (.int r)) m1 := by
    intro g
    rcases Classical.em (1 ≤ l ∧ l ≤ 4 ∧ nOK (s 8) b l) with g2 | g2
    · exact ⟨_, hQ _ (Or.inl ⟨g, Or.inl ⟨rfl, g2⟩⟩), ev_name hV (Or.inl ⟨rfl, g2⟩)⟩
    · exact ⟨_, hQ _ (Or.inl ⟨g, Or.inr ⟨rfl, g2⟩⟩), ev_name hV (Or.inr ⟨rfl, g2⟩)⟩
  have acc : s 2 k = 68 ∨ s 2 k = 67 → ∃ r, Q (some (.int r)) (SH, m1) ∧ Ev 127 [.ref 12] m1 (some (.int r)) m1 := by
    intro g
    rcases Classical.em (aOK (s 8) b l) with g2 | g2
    · exact ⟨_, hQ _ (Or.inr (Or.inr (Or.inl ⟨g, Or.inl ⟨rfl, g2⟩⟩))), ev_acc hV (Or.inl ⟨rfl, g2⟩)⟩
    · exact ⟨_, hQ _ (Or.inr (Or.inr (Or.inl ⟨g, Or.inr ⟨rfl, g2⟩⟩))), ev_acc hV (Or.inr ⟨rfl, g2⟩)⟩
  have amo : s 2 k = 83 ∨ s 2 k = 65 → ZM 129 0 0 [.ref 12] (SH, m1) (fun r h => ZW 124 (0, 0, 0, 0) 162 [(0, .ref 12), (1, .int (nI k))] (r.toList ++ []) h Q) := fun g => ev_amt hV _ (fun r hr => fr r (hQ r (Or.inr (Or.inr (Or.inr (Or.inr ⟨g, hr⟩))))) 162 (by omega))
  have f28 : ZW 124 (0, 0, 0, 0) 28 [(0, .ref 12), (1, .int (nI k))] [.int (nI (s 2 k))] (SH, m1) Q := by
    rcases hlt with e | e | e | e | e | e | e | e | e
    · obtain ⟨r, g1, g2⟩ := nam (by omega)
      rw [e]
      refine zgo 5 [] ?_
      repeat' (first
        | (exact g2.use (fr r g1 136 (by omega)))
        | (show vp_in _ _; simp (disch := first | omega | decide) only [zcn, zkpl, zki, zki1, zk8, zk16, zo32, zlt0, zle0, zeq0, zgt0, zLe0, nI_ltI, nI_leI, nI_eq, nI_add, nI_clamp, vp_in_nI, zup_s, zup_n, upd_s, upd_n, ne_eq, not_true_eq_false, not_false_eq_true]; done)
        | (intro hc; exfalso; simp (disch := first | omega | decide) only [zcn, zkpl, zki, zki1, zk8, zk16, zo32, zlt0, zle0, zeq0, zgt0, zLe0, nI_ltI, nI_leI, nI_eq, nI_add, nI_clamp, vp_in_nI, zup_s, zup_n, upd_s, upd_n, ne_eq, not_true_eq_false, not_false_eq_true] at hc <;> omega)
        | (intro hc; exact absurd rfl hc)
        | intro hc
        | apply And.intro
        | exact Or.inl rfl
        | exact Or.inr rfl
        | (show (_ : Int32) = 0 ∨ _ = 1; simp (disch := first | omega | decide) only [zcn, zkpl, zki, zki1, zk8, zk16, zo32, zlt0, zle0, zeq0, zgt0, zLe0, nI_ltI, nI_leI, nI_eq, nI_add, nI_clamp, vp_in_nI, zup_s, zup_n, upd_s, upd_n, ne_eq, not_true_eq_false, not_false_eq_true, zeq1, true_or, or_true]; done))
    · obtain ⟨r, g1, g2⟩ := nam (by omega)
      rw [e]
      refine zgo 5 [] ?_
      repeat' (first
        | (exact g2.use (fr r g1 136 (by omega)))
        | (show vp_in _ _; simp (disch := first | omega | decide) only [zcn, zkpl, zki, zki1, zk8, zk16, zo32, zlt0, zle0, zeq0, zgt0, zLe0, nI_ltI, nI_leI, nI_eq, nI_add, nI_clamp, vp_in_nI, zup_s, zup_n, upd_s, upd_n, ne_eq, not_true_eq_false, not_false_eq_true]; done)
        | (intro hc; exfalso; simp (disch := first | omega | decide) only [zcn, zkpl, zki, zki1, zk8, zk16, zo32, zlt0, zle0, zeq0, zgt0, zLe0, nI_ltI, nI_leI, nI_eq, nI_add, nI_clamp, vp_in_nI, zup_s, zup_n, upd_s, upd_n, ne_eq, not_true_eq_false, not_false_eq_true] at hc <;> omega)
        | (intro hc; exact absurd rfl hc)
        | intro hc
        | apply And.intro
        | exact Or.inl rfl
        | exact Or.inr rfl
        | (show (_ : Int32) = 0 ∨ _ = 1; simp (disch := first | omega | decide) only [zcn, zkpl, zki, zki1, zk8, zk16, zo32, zlt0, zle0, zeq0, zgt0, zLe0, nI_ltI, nI_leI, nI_eq, nI_add, nI_clamp, vp_in_nI, zup_s, zup_n, upd_s, upd_n, ne_eq, not_true_eq_false, not_false_eq_true, zeq1, true_or, or_true]; done))
    · obtain ⟨r, g1, g2⟩ := nam (by omega)
      rw [e]
      refine zgo 5 [] ?_
      repeat' (first
        | (exact g2.use (fr r g1 136 (by omega)))
        | (show vp_in _ _; simp (disch := first | omega | decide) only [zcn, zkpl, zki, zki1, zk8, zk16, zo32, zlt0, zle0, zeq0, zgt0, zLe0, nI_ltI, nI_leI, nI_eq, nI_add, nI_clamp, vp_in_nI, zup_s, zup_n, upd_s, upd_n, ne_eq, not_true_eq_false, not_false_eq_true]; done)
        | (intro hc; exfalso; simp (disch := first | omega | decide) only [zcn, zkpl, zki, zki1, zk8, zk16, zo32, zlt0, zle0, zeq0, zgt0, zLe0, nI_ltI, nI_leI, nI_eq, nI_add, nI_clamp, vp_in_nI, zup_s, zup_n, upd_s, upd_n, ne_eq, not_true_eq_false, not_false_eq_true] at hc <;> omega)
        | (intro hc; exact absurd rfl hc)
        | intro hc
        | apply And.intro
        | exact Or.inl rfl
        | exact Or.inr rfl
        | (show (_ : Int32) = 0 ∨ _ = 1; simp (disch := first | omega | decide) only [zcn, zkpl, zki, zki1, zk8, zk16, zo32, zlt0, zle0, zeq0, zgt0, zLe0, nI_ltI, nI_leI, nI_eq, nI_add, nI_clamp, vp_in_nI, zup_s, zup_n, upd_s, upd_n, ne_eq, not_true_eq_false, not_false_eq_true, zeq1, true_or, or_true]; done))
    · have hd : ∃ r, Q (some (.int r)) (SH, m1) ∧ Ev 130 [.ref 12, .int (Int32.ofInt 0), .int (m1 12 2), .int (Int32.ofInt 2)] m1 (some (.int r)) m1 := by
        rcases Classical.em (1 ≤ l ∧ l ≤ 2 ∧ dOK (s 8) b l) with g2 | g2
        · exact ⟨_, hQ _ (Or.inr (Or.inl ⟨e, Or.inl ⟨rfl, g2⟩⟩)), ev_dig hV 0 l 2 (by decide) e122 (by decide) (by omega) (by omega) (by omega) (Or.inl ⟨rfl, g2⟩)⟩
        · exact ⟨_, hQ _ (Or.inr (Or.inl ⟨e, Or.inr ⟨rfl, g2⟩⟩)), ev_dig hV 0 l 2 (by decide) e122 (by decide) (by omega) (by omega) (by omega) (Or.inr ⟨rfl, g2⟩)⟩
      obtain ⟨r, g1, g2⟩ := hd
      rw [e]
      refine zgo 10 [] ?_
      repeat' (first
        | (exact g2.use (fr r g1 147 (by omega)))
        | (show vp_in _ _; simp (disch := first | omega | decide) only [zcn, zkpl, zki, zki1, zk8, zk16, zo32, zlt0, zle0, zeq0, zgt0, zLe0, nI_ltI, nI_leI, nI_eq, nI_add, nI_clamp, vp_in_nI, zup_s, zup_n, upd_s, upd_n, ne_eq, not_true_eq_false, not_false_eq_true]; done)
        | (intro hc; exfalso; simp (disch := first | omega | decide) only [zcn, zkpl, zki, zki1, zk8, zk16, zo32, zlt0, zle0, zeq0, zgt0, zLe0, nI_ltI, nI_leI, nI_eq, nI_add, nI_clamp, vp_in_nI, zup_s, zup_n, upd_s, upd_n, ne_eq, not_true_eq_false, not_false_eq_true] at hc <;> omega)
        | (intro hc; exact absurd rfl hc)
        | intro hc
        | apply And.intro
        | exact Or.inl rfl
        | exact Or.inr rfl
        | (show (_ : Int32) = 0 ∨ _ = 1; simp (disch := first | omega | decide) only [zcn, zkpl, zki, zki1, zk8, zk16, zo32, zlt0, zle0, zeq0, zgt0, zLe0, nI_ltI, nI_leI, nI_eq, nI_add, nI_clamp, vp_in_nI, zup_s, zup_n, upd_s, upd_n, ne_eq, not_true_eq_false, not_false_eq_true, zeq1, true_or, or_true]; done))
    · obtain ⟨r, g1, g2⟩ := acc (by omega)
      rw [e]
      refine zgo 5 [] ?_
      repeat' (first
        | (exact g2.use (fr r g1 152 (by omega)))
        | (show vp_in _ _; simp (disch := first | omega | decide) only [zcn, zkpl, zki, zki1, zk8, zk16, zo32, zlt0, zle0, zeq0, zgt0, zLe0, nI_ltI, nI_leI, nI_eq, nI_add, nI_clamp, vp_in_nI, zup_s, zup_n, upd_s, upd_n, ne_eq, not_true_eq_false, not_false_eq_true]; done)
        | (intro hc; exfalso; simp (disch := first | omega | decide) only [zcn, zkpl, zki, zki1, zk8, zk16, zo32, zlt0, zle0, zeq0, zgt0, zLe0, nI_ltI, nI_leI, nI_eq, nI_add, nI_clamp, vp_in_nI, zup_s, zup_n, upd_s, upd_n, ne_eq, not_true_eq_false, not_false_eq_true] at hc <;> omega)
        | (intro hc; exact absurd rfl hc)
        | intro hc
        | apply And.intro
        | exact Or.inl rfl
        | exact Or.inr rfl
        | (show (_ : Int32) = 0 ∨ _ = 1; simp (disch := first | omega | decide) only [zcn, zkpl, zki, zki1, zk8, zk16, zo32, zlt0, zle0, zeq0, zgt0, zLe0, nI_ltI, nI_leI, nI_eq, nI_add, nI_clamp, vp_in_nI, zup_s, zup_n, upd_s, upd_n, ne_eq, not_true_eq_false, not_false_eq_true, zeq1, true_or, or_true]; done))
    · obtain ⟨r, g1, g2⟩ := acc (by omega)
      rw [e]
      refine zgo 5 [] ?_
      repeat' (first
        | (exact g2.use (fr r g1 152 (by omega)))
        | (show vp_in _ _; simp (disch := first | omega | decide) only [zcn, zkpl, zki, zki1, zk8, zk16, zo32, zlt0, zle0, zeq0, zgt0, zLe0, nI_ltI, nI_leI, nI_eq, nI_add, nI_clamp, vp_in_nI, zup_s, zup_n, upd_s, upd_n, ne_eq, not_true_eq_false, not_false_eq_true]; done)
        | (intro hc; exfalso; simp (disch := first | omega | decide) only [zcn, zkpl, zki, zki1, zk8, zk16, zo32, zlt0, zle0, zeq0, zgt0, zLe0, nI_ltI, nI_leI, nI_eq, nI_add, nI_clamp, vp_in_nI, zup_s, zup_n, upd_s, upd_n, ne_eq, not_true_eq_false, not_false_eq_true] at hc <;> omega)
        | (intro hc; exact absurd rfl hc)
        | intro hc
        | apply And.intro
        | exact Or.inl rfl
        | exact Or.inr rfl
        | (show (_ : Int32) = 0 ∨ _ = 1; simp (disch := first | omega | decide) only [zcn, zkpl, zki, zki1, zk8, zk16, zo32, zlt0, zle0, zeq0, zgt0, zLe0, nI_ltI, nI_leI, nI_eq, nI_add, nI_clamp, vp_in_nI, zup_s, zup_n, upd_s, upd_n, ne_eq, not_true_eq_false, not_false_eq_true, zeq1, true_or, or_true]; done))
    · have hd : ∃ r, Q (some (.int r)) (SH, m1) ∧ Ev 128 [.ref 12] m1 (some (.int r)) m1 := by
        rcases Classical.em (vOK (s 8) b l) with g2 | g2
        · exact ⟨_, hQ _ (Or.inr (Or.inr (Or.inr (Or.inl ⟨e, Or.inl ⟨rfl, g2⟩⟩)))), ev_verd hV (Or.inl ⟨rfl, g2⟩)⟩
        · exact ⟨_, hQ _ (Or.inr (Or.inr (Or.inr (Or.inl ⟨e, Or.inr ⟨rfl, g2⟩⟩)))), ev_verd hV (Or.inr ⟨rfl, g2⟩)⟩
      obtain ⟨r, g1, g2⟩ := hd
      rw [e]
      refine zgo 5 [] ?_
      repeat' (first
        | (exact g2.use (fr r g1 157 (by omega)))
        | (show vp_in _ _; simp (disch := first | omega | decide) only [zcn, zkpl, zki, zki1, zk8, zk16, zo32, zlt0, zle0, zeq0, zgt0, zLe0, nI_ltI, nI_leI, nI_eq, nI_add, nI_clamp, vp_in_nI, zup_s, zup_n, upd_s, upd_n, ne_eq, not_true_eq_false, not_false_eq_true]; done)
        | (intro hc; exfalso; simp (disch := first | omega | decide) only [zcn, zkpl, zki, zki1, zk8, zk16, zo32, zlt0, zle0, zeq0, zgt0, zLe0, nI_ltI, nI_leI, nI_eq, nI_add, nI_clamp, vp_in_nI, zup_s, zup_n, upd_s, upd_n, ne_eq, not_true_eq_false, not_false_eq_true] at hc <;> omega)
        | (intro hc; exact absurd rfl hc)
        | intro hc
        | apply And.intro
        | exact Or.inl rfl
        | exact Or.inr rfl
        | (show (_ : Int32) = 0 ∨ _ = 1; simp (disch := first | omega | decide) only [zcn, zkpl, zki, zki1, zk8, zk16, zo32, zlt0, zle0, zeq0, zgt0, zLe0, nI_ltI, nI_leI, nI_eq, nI_add, nI_clamp, vp_in_nI, zup_s, zup_n, upd_s, upd_n, ne_eq, not_true_eq_false, not_false_eq_true, zeq1, true_or, or_true]; done))
    · have g := amo (by omega)
      rw [e]
      refine zgo 5 [] ?_
      repeat' (first
        | (exact g)
        | (show vp_in _ _; simp (disch := first | omega | decide) only [zcn, zkpl, zki, zki1, zk8, zk16, zo32, zlt0, zle0, zeq0, zgt0, zLe0, nI_ltI, nI_leI, nI_eq, nI_add, nI_clamp, vp_in_nI, zup_s, zup_n, upd_s, upd_n, ne_eq, not_true_eq_false, not_false_eq_true]; done)
        | (intro hc; exfalso; simp (disch := first | omega | decide) only [zcn, zkpl, zki, zki1, zk8, zk16, zo32, zlt0, zle0, zeq0, zgt0, zLe0, nI_ltI, nI_leI, nI_eq, nI_add, nI_clamp, vp_in_nI, zup_s, zup_n, upd_s, upd_n, ne_eq, not_true_eq_false, not_false_eq_true] at hc <;> omega)
        | (intro hc; exact absurd rfl hc)
        | intro hc
        | apply And.intro
        | exact Or.inl rfl
        | exact Or.inr rfl
        | (show (_ : Int32) = 0 ∨ _ = 1; simp (disch := first | omega | decide) only [zcn, zkpl, zki, zki1, zk8, zk16, zo32, zlt0, zle0, zeq0, zgt0, zLe0, nI_ltI, nI_leI, nI_eq, nI_add, nI_clamp, vp_in_nI, zup_s, zup_n, upd_s, upd_n, ne_eq, not_true_eq_false, not_false_eq_true, zeq1, true_or, or_true]; done))
    · have g := amo (by omega)
      rw [e]
      refine zgo 5 [] ?_
      repeat' (first
        | (exact g)
        | (show vp_in _ _; simp (disch := first | omega | decide) only [zcn, zkpl, zki, zki1, zk8, zk16, zo32, zlt0, zle0, zeq0, zgt0, zLe0, nI_ltI, nI_leI, nI_eq, nI_add, nI_clamp, vp_in_nI, zup_s, zup_n, upd_s, upd_n, ne_eq, not_true_eq_false, not_false_eq_true]; done)
        | (intro hc; exfalso; simp (disch := first | omega | decide) only [zcn, zkpl, zki, zki1, zk8, zk16, zo32, zlt0, zle0, zeq0, zgt0, zLe0, nI_ltI, nI_leI, nI_eq, nI_add, nI_clamp, vp_in_nI, zup_s, zup_n, upd_s, upd_n, ne_eq, not_true_eq_false, not_false_eq_true] at hc <;> omega)
        | (intro hc; exact absurd rfl hc)
        | intro hc
        | apply And.intro
        | exact Or.inl rfl
        | exact Or.inr rfl
        | (show (_ : Int32) = 0 ∨ _ = 1; simp (disch := first | omega | decide) only [zcn, zkpl, zki, zki1, zk8, zk16, zo32, zlt0, zle0, zeq0, zgt0, zLe0, nI_ltI, nI_leI, nI_eq, nI_add, nI_clamp, vp_in_nI, zup_s, zup_n, upd_s, upd_n, ne_eq, not_true_eq_false, not_false_eq_true, zeq1, true_or, or_true]; done))
  have f20 : ZW 124 (0, 0, 0, 0) 20 [(0, .ref 12), (1, .int (nI k))] [] (SH, m1) Q := by
    refine zgo 10 [] ?_
    repeat' (first
      | (exact hlet.use f28)
      | (show vp_in _ _; simp (disch := first | omega | decide) only [zcn, zkpl, zki, zki1, zk8, zk16, zo32, zlt0, zle0, zeq0, zgt0, zLe0, nI_ltI, nI_leI, nI_eq, nI_add, nI_clamp, vp_in_nI, zup_s, zup_n, upd_s, upd_n, ne_eq, not_true_eq_false, not_false_eq_true]; done)
      | (intro hc; exfalso; simp (disch := first | omega | decide) only [zcn, zkpl, zki, zki1, zk8, zk16, zo32, zlt0, zle0, zeq0, zgt0, zLe0, nI_ltI, nI_leI, nI_eq, nI_add, nI_clamp, vp_in_nI, zup_s, zup_n, upd_s, upd_n, ne_eq, not_true_eq_false, not_false_eq_true] at hc <;> omega)
      | (intro hc; exact absurd rfl hc)
      | intro hc
      | apply And.intro
      | exact Or.inl rfl
      | exact Or.inr rfl
      | (show (_ : Int32) = 0 ∨ _ = 1; simp (disch := first | omega | decide) only [zcn, zkpl, zki, zki1, zk8, zk16, zo32, zlt0, zle0, zeq0, zgt0, zLe0, nI_ltI, nI_leI, nI_eq, nI_add, nI_clamp, vp_in_nI, zup_s, zup_n, upd_s, upd_n, ne_eq, not_true_eq_false, not_false_eq_true, zeq1, true_or, or_true]; done))
  have f17 : ZW 124 (0, 0, 0, 0) 17 [(0, .ref 12), (1, .int (nI k))] [.int (nI (s 5 k)), .int (nI (s 4 k)), .ref 12] (SH, m) Q := by
    refine zgo 10 [] ?_
    repeat' (first
      | (exact htr.use f20)
      | (show vp_in _ _; simp (disch := first | omega | decide) only [zcn, zkpl, zki, zki1, zk8, zk16, zo32, zlt0, zle0, zeq0, zgt0, zLe0, nI_ltI, nI_leI, nI_eq, nI_add, nI_clamp, vp_in_nI, zup_s, zup_n, upd_s, upd_n, ne_eq, not_true_eq_false, not_false_eq_true]; done)
      | (intro hc; exfalso; simp (disch := first | omega | decide) only [zcn, zkpl, zki, zki1, zk8, zk16, zo32, zlt0, zle0, zeq0, zgt0, zLe0, nI_ltI, nI_leI, nI_eq, nI_add, nI_clamp, vp_in_nI, zup_s, zup_n, upd_s, upd_n, ne_eq, not_true_eq_false, not_false_eq_true] at hc <;> omega)
      | (intro hc; exact absurd rfl hc)
      | intro hc
      | apply And.intro
      | exact Or.inl rfl
      | exact Or.inr rfl
      | (show (_ : Int32) = 0 ∨ _ = 1; simp (disch := first | omega | decide) only [zcn, zkpl, zki, zki1, zk8, zk16, zo32, zlt0, zle0, zeq0, zgt0, zLe0, nI_ltI, nI_leI, nI_eq, nI_add, nI_clamp, vp_in_nI, zup_s, zup_n, upd_s, upd_n, ne_eq, not_true_eq_false, not_false_eq_true, zeq1, true_or, or_true]; done))
  have f9 : ZW 124 (0, 0, 0, 0) 9 [(0, .ref 12), (1, .int (nI k))] [.int (nI (s 4 k)), .ref 12] (SH, m) Q := by
    refine zgo 10 [] ?_
    repeat' (first
      | (exact he.use f17)
      | (show vp_in _ _; simp (disch := first | omega | decide) only [zcn, zkpl, zki, zki1, zk8, zk16, zo32, zlt0, zle0, zeq0, zgt0, zLe0, nI_ltI, nI_leI, nI_eq, nI_add, nI_clamp, vp_in_nI, zup_s, zup_n, upd_s, upd_n, ne_eq, not_true_eq_false, not_false_eq_true]; done)
      | (intro hc; exfalso; simp (disch := first | omega | decide) only [zcn, zkpl, zki, zki1, zk8, zk16, zo32, zlt0, zle0, zeq0, zgt0, zLe0, nI_ltI, nI_leI, nI_eq, nI_add, nI_clamp, vp_in_nI, zup_s, zup_n, upd_s, upd_n, ne_eq, not_true_eq_false, not_false_eq_true] at hc <;> omega)
      | (intro hc; exact absurd rfl hc)
      | intro hc
      | apply And.intro
      | exact Or.inl rfl
      | exact Or.inr rfl
      | (show (_ : Int32) = 0 ∨ _ = 1; simp (disch := first | omega | decide) only [zcn, zkpl, zki, zki1, zk8, zk16, zo32, zlt0, zle0, zeq0, zgt0, zLe0, nI_ltI, nI_leI, nI_eq, nI_add, nI_clamp, vp_in_nI, zup_s, zup_n, upd_s, upd_n, ne_eq, not_true_eq_false, not_false_eq_true, zeq1, true_or, or_true]; done))
  refine zgo 10 [] ?_
  repeat' (first
    | (exact hb.use f9)
    | (show vp_in _ _; simp (disch := first | omega | decide) only [zcn, zkpl, zki, zki1, zk8, zk16, zo32, zlt0, zle0, zeq0, zgt0, zLe0, nI_ltI, nI_leI, nI_eq, nI_add, nI_clamp, vp_in_nI, zup_s, zup_n, upd_s, upd_n, ne_eq, not_true_eq_false, not_false_eq_true]; done)
    | (intro hc; exfalso; simp (disch := first | omega | decide) only [zcn, zkpl, zki, zki1, zk8, zk16, zo32, zlt0, zle0, zeq0, zgt0, zLe0, nI_ltI, nI_leI, nI_eq, nI_add, nI_clamp, vp_in_nI, zup_s, zup_n, upd_s, upd_n, ne_eq, not_true_eq_false, not_false_eq_true] at hc <;> omega)
    | (intro hc; exact absurd rfl hc)
    | intro hc
    | apply And.intro
    | exact Or.inl rfl
    | exact Or.inr rfl
    | (show (_ : Int32) = 0 ∨ _ = 1; simp (disch := first | omega | decide) only [zcn, zkpl, zki, zki1, zk8, zk16, zo32, zlt0, zle0, zeq0, zgt0, zLe0, nI_ltI, nI_leI, nI_eq, nI_add, nI_clamp, vp_in_nI, zup_s, zup_n, upd_s, upd_n, ne_eq, not_true_eq_false, not_false_eq_true, zeq1, true_or, or_true]; done))
