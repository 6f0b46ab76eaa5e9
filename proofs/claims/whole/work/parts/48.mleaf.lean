/-! the model's amounts, children and leaves -/
def mmR (f : Nat → Nat) (b l : Nat) (r : Int32) : Prop := (∃ v, AM f b l v ∧ r = nI v) ∨ (r = 0 ∧ ¬ ∃ v, AM f b l v)
theorem wh_loop {u : zM} {s : pS} {c0 b l : Nat} (h : uV u s c0 b l) (Q : zQ) : ∀ (n i v : Nat), i + n = l → i ≤ 7 → (∀ k V, (i ≤ k ∧ k ≤ l ∧ k ≤ 7 ∧ dOK (s 8) (b + i) (k - i) ∧ V = dvl (s 8) (k - i) v (b + i) ∧ (k = l ∨ k = 7 ∨ ¬ isD (s 8 (b + k)))) → ZW 177 (0, 0, 0, 0) 67 [(4, .int (nI (b + k))), (3, .int (nI k)), (2, .int (nI V)), (0, .ref 42), (1, .int (nI c0))] [] (SH, u) Q) → ZW 177 (0, 0, 0, 0) 12 [(4, .int (nI (b + i))), (3, .int (nI i)), (2, .int (nI v)), (0, .ref 42), (1, .int (nI c0))] [] (SH, u) Q := by
  obtain ⟨⟨hl, h32⟩, h50, h48, h49, hle, he⟩ := h
  intro n
  induction n with
  | zero =>
    intro i v hi h7 W
    have W1 := W i v ⟨Nat.le_refl i, by omega, h7, fun j hj => by omega, by rw [Nat.sub_self, dvl], Or.inl (by omega)⟩
    obtain rfl : i = l := by omega
    refine zgo 6 [] ?_
    repeat' (first
      | (exact W1)
      | (show vp_in _ _; simp (disch := first | omega | decide) only [h49, zcn, zkpl, zki, zki1, zk8, zk16, zo32, zlt0, zle0, zeq0, zgt0, zLe0, nI_ltI, nI_leI, nI_eq, nI_add, nI_clamp, vp_in_nI, zup_s, zup_n, upd_s, upd_n, ne_eq, not_true_eq_false, not_false_eq_true]; done)
      | (intro hc; exfalso; simp (disch := first | omega | decide) only [h49, zcn, zkpl, zki, zki1, zk8, zk16, zo32, zlt0, zle0, zeq0, zgt0, zLe0, nI_ltI, nI_leI, nI_eq, nI_add, nI_clamp, vp_in_nI, zup_s, zup_n, upd_s, upd_n, ne_eq, not_true_eq_false, not_false_eq_true] at hc <;> omega)
      | (intro hc; exact absurd rfl hc)
      | intro hc
      | apply And.intro
      | exact Or.inl rfl
      | exact Or.inr rfl
      | (show (_ : Int32) = 0 ∨ _ = 1; simp (disch := first | omega | decide) only [h49, zcn, zkpl, zki, zki1, zk8, zk16, zo32, zlt0, zle0, zeq0, zgt0, zLe0, nI_ltI, nI_leI, nI_eq, nI_add, nI_clamp, vp_in_nI, zup_s, zup_n, upd_s, upd_n, ne_eq, not_true_eq_false, not_false_eq_true, zeq1, true_or, or_true]; done))
  | succ n ih =>
    intro i v hi h7 W
    have g1 := h50 (b + i) (by omega)
    have h126 := (h32 (b + i) (by omega)).2
    have e4 : u 50 (nI (b + i)).toNatClampNeg = nI (s 8 (b + i)) := by
      simp (disch := first | omega | decide) only [g1, zcn, zkpl, zki, zki1, zk8, zk16, zo32, zlt0, zle0, zeq0, zgt0, zLe0, nI_ltI, nI_leI, nI_eq, nI_add, nI_clamp, vp_in_nI, zup_s, zup_n, upd_s, upd_n, ne_eq, not_true_eq_false, not_false_eq_true]
    by_cases e : isD (s 8 (b + i))
    · have hD := es_isD (m := u) (b := 1) h126 (Or.inl ⟨rfl, e⟩)
      rw [← e4] at hD
      by_cases e7 : i = 7
      · have W1 := W i v ⟨Nat.le_refl i, by omega, h7, fun j hj => by omega, by rw [Nat.sub_self, dvl], Or.inr (Or.inl e7)⟩
        subst e7
        have f33 : ZW 177 (0, 0, 0, 0) 33 [(4, .int (nI (b + 7))), (3, .int (nI 7)), (2, .int (nI v)), (0, .ref 42), (1, .int (nI c0))] [.int 1] (SH, u) Q := by
          refine zgo 4 [] ?_
          repeat' (first
            | (exact W1)
            | (show vp_in _ _; simp (disch := first | omega | decide) only [z10, zcn, zkpl, zki, zki1, zk8, zk16, zo32, zlt0, zle0, zeq0, zgt0, zLe0, nI_ltI, nI_leI, nI_eq, nI_add, nI_clamp, vp_in_nI, zup_s, zup_n, upd_s, upd_n, ne_eq, not_true_eq_false, not_false_eq_true]; done)
            | (intro hc; exfalso; simp (disch := first | omega | decide) only [z10, zcn, zkpl, zki, zki1, zk8, zk16, zo32, zlt0, zle0, zeq0, zgt0, zLe0, nI_ltI, nI_leI, nI_eq, nI_add, nI_clamp, vp_in_nI, zup_s, zup_n, upd_s, upd_n, ne_eq, not_true_eq_false, not_false_eq_true] at hc <;> omega)
            | (intro hc; exact absurd rfl hc)
            | intro hc
            | apply And.intro
            | exact Or.inl rfl
            | exact Or.inr rfl
            | (show (_ : Int32) = 0 ∨ _ = 1; simp (disch := first | omega | decide) only [z10, zcn, zkpl, zki, zki1, zk8, zk16, zo32, zlt0, zle0, zeq0, zgt0, zLe0, nI_ltI, nI_leI, nI_eq, nI_add, nI_clamp, vp_in_nI, zup_s, zup_n, upd_s, upd_n, ne_eq, not_true_eq_false, not_false_eq_true, zeq1, true_or, or_true]; done))
        refine zgo 20 [] ?_
        repeat' (first
          | (exact hD.use f33)
          | (show vp_in _ _; simp (disch := first | omega | decide) only [h49, zcn, zkpl, zki, zki1, zk8, zk16, zo32, zlt0, zle0, zeq0, zgt0, zLe0, nI_ltI, nI_leI, nI_eq, nI_add, nI_clamp, vp_in_nI, zup_s, zup_n, upd_s, upd_n, ne_eq, not_true_eq_false, not_false_eq_true]; done)
          | (intro hc; exfalso; simp (disch := first | omega | decide) only [h49, zcn, zkpl, zki, zki1, zk8, zk16, zo32, zlt0, zle0, zeq0, zgt0, zLe0, nI_ltI, nI_leI, nI_eq, nI_add, nI_clamp, vp_in_nI, zup_s, zup_n, upd_s, upd_n, ne_eq, not_true_eq_false, not_false_eq_true] at hc <;> omega)
          | (intro hc; exact absurd rfl hc)
          | intro hc
          | apply And.intro
          | exact Or.inl rfl
          | exact Or.inr rfl
          | (show (_ : Int32) = 0 ∨ _ = 1; simp (disch := first | omega | decide) only [h49, zcn, zkpl, zki, zki1, zk8, zk16, zo32, zlt0, zle0, zeq0, zgt0, zLe0, nI_ltI, nI_leI, nI_eq, nI_add, nI_clamp, vp_in_nI, zup_s, zup_n, upd_s, upd_n, ne_eq, not_true_eq_false, not_false_eq_true, zeq1, true_or, or_true]; done))
      · have e5 := e10 (v := v) e.1
        have e3 : nI i + Int32.ofInt 1 = nI (i + 1) := by rw [zki, nI_add]
        have e33 : nI (b + i) + Int32.ofInt 1 = nI (b + (i + 1)) := by rw [zki, nI_add, Nat.add_assoc]
        have W1 := ih (i + 1) (10 * v + (s 8 (b + i) - 48)) (by omega) (by omega) (fun k V g => W k V (by
          obtain ⟨q1, q2, q3, q4, q5, q6⟩ := g
          refine ⟨by omega, q2, q3, fun j hj => ?_, ?_, q6⟩
          · rcases Nat.eq_zero_or_pos j with rfl | g0
            · exact e
            · rw [show b + i + j = b + (i + 1) + (j - 1) by omega]
              exact q4 _ (by omega)
          · rw [show k - i = (k - (i + 1)) + 1 by omega, dvl]
            exact q5))
        rw [← e3, ← e33, ← e5, ← e4] at W1
        have f33 : ZW 177 (0, 0, 0, 0) 33 [(4, .int (nI (b + i))), (3, .int (nI i)), (2, .int (nI v)), (0, .ref 42), (1, .int (nI c0))] [.int 1] (SH, u) Q := by
          refine zgo 30 [] ?_
          repeat' (first
            | (exact W1)
            | (show vp_in _ _; simp (disch := first | omega | decide) only [z10, zcn, zkpl, zki, zki1, zk8, zk16, zo32, zlt0, zle0, zeq0, zgt0, zLe0, nI_ltI, nI_leI, nI_eq, nI_add, nI_clamp, vp_in_nI, zup_s, zup_n, upd_s, upd_n, ne_eq, not_true_eq_false, not_false_eq_true]; done)
            | (intro hc; exfalso; simp (disch := first | omega | decide) only [z10, zcn, zkpl, zki, zki1, zk8, zk16, zo32, zlt0, zle0, zeq0, zgt0, zLe0, nI_ltI, nI_leI, nI_eq, nI_add, nI_clamp, vp_in_nI, zup_s, zup_n, upd_s, upd_n, ne_eq, not_true_eq_false, not_false_eq_true] at hc <;> omega)
            | (intro hc; exact absurd rfl hc)
            | intro hc
            | apply And.intro
            | exact Or.inl rfl
            | exact Or.inr rfl
            | (show (_ : Int32) = 0 ∨ _ = 1; simp (disch := first | omega | decide) only [z10, zcn, zkpl, zki, zki1, zk8, zk16, zo32, zlt0, zle0, zeq0, zgt0, zLe0, nI_ltI, nI_leI, nI_eq, nI_add, nI_clamp, vp_in_nI, zup_s, zup_n, upd_s, upd_n, ne_eq, not_true_eq_false, not_false_eq_true, zeq1, true_or, or_true]; done))
        refine zgo 20 [] ?_
        repeat' (first
          | (exact hD.use f33)
          | (show vp_in _ _; simp (disch := first | omega | decide) only [h49, zcn, zkpl, zki, zki1, zk8, zk16, zo32, zlt0, zle0, zeq0, zgt0, zLe0, nI_ltI, nI_leI, nI_eq, nI_add, nI_clamp, vp_in_nI, zup_s, zup_n, upd_s, upd_n, ne_eq, not_true_eq_false, not_false_eq_true]; done)
          | (intro hc; exfalso; simp (disch := first | omega | decide) only [h49, zcn, zkpl, zki, zki1, zk8, zk16, zo32, zlt0, zle0, zeq0, zgt0, zLe0, nI_ltI, nI_leI, nI_eq, nI_add, nI_clamp, vp_in_nI, zup_s, zup_n, upd_s, upd_n, ne_eq, not_true_eq_false, not_false_eq_true] at hc <;> omega)
          | (intro hc; exact absurd rfl hc)
          | intro hc
          | apply And.intro
          | exact Or.inl rfl
          | exact Or.inr rfl
          | (show (_ : Int32) = 0 ∨ _ = 1; simp (disch := first | omega | decide) only [h49, zcn, zkpl, zki, zki1, zk8, zk16, zo32, zlt0, zle0, zeq0, zgt0, zLe0, nI_ltI, nI_leI, nI_eq, nI_add, nI_clamp, vp_in_nI, zup_s, zup_n, upd_s, upd_n, ne_eq, not_true_eq_false, not_false_eq_true, zeq1, true_or, or_true]; done))
    · have hD := es_isD (m := u) (b := 0) h126 (Or.inr ⟨rfl, e⟩)
      rw [← e4] at hD
      have W1 := W i v ⟨Nat.le_refl i, by omega, h7, fun j hj => by omega, by rw [Nat.sub_self, dvl], Or.inr (Or.inr e)⟩
      have f33 : ZW 177 (0, 0, 0, 0) 33 [(4, .int (nI (b + i))), (3, .int (nI i)), (2, .int (nI v)), (0, .ref 42), (1, .int (nI c0))] [.int 0] (SH, u) Q := by
        refine zgo 1 [] ?_
        repeat' (first
          | (exact W1)
          | (show vp_in _ _; simp (disch := first | omega | decide) only [z10, zcn, zkpl, zki, zki1, zk8, zk16, zo32, zlt0, zle0, zeq0, zgt0, zLe0, nI_ltI, nI_leI, nI_eq, nI_add, nI_clamp, vp_in_nI, zup_s, zup_n, upd_s, upd_n, ne_eq, not_true_eq_false, not_false_eq_true]; done)
          | (intro hc; exfalso; simp (disch := first | omega | decide) only [z10, zcn, zkpl, zki, zki1, zk8, zk16, zo32, zlt0, zle0, zeq0, zgt0, zLe0, nI_ltI, nI_leI, nI_eq, nI_add, nI_clamp, vp_in_nI, zup_s, zup_n, upd_s, upd_n, ne_eq, not_true_eq_false, not_false_eq_true] at hc <;> omega)
          | (intro hc; exact absurd rfl hc)
          | intro hc
          | apply And.intro
          | exact Or.inl rfl
          | exact Or.inr rfl
          | (show (_ : Int32) = 0 ∨ _ = 1; simp (disch := first | omega | decide) only [z10, zcn, zkpl, zki, zki1, zk8, zk16, zo32, zlt0, zle0, zeq0, zgt0, zLe0, nI_ltI, nI_leI, nI_eq, nI_add, nI_clamp, vp_in_nI, zup_s, zup_n, upd_s, upd_n, ne_eq, not_true_eq_false, not_false_eq_true, zeq1, true_or, or_true]; done))
      refine zgo 20 [] ?_
      repeat' (first
        | (exact hD.use f33)
        | (show vp_in _ _; simp (disch := first | omega | decide) only [h49, zcn, zkpl, zki, zki1, zk8, zk16, zo32, zlt0, zle0, zeq0, zgt0, zLe0, nI_ltI, nI_leI, nI_eq, nI_add, nI_clamp, vp_in_nI, zup_s, zup_n, upd_s, upd_n, ne_eq, not_true_eq_false, not_false_eq_true]; done)
        | (intro hc; exfalso; simp (disch := first | omega | decide) only [h49, zcn, zkpl, zki, zki1, zk8, zk16, zo32, zlt0, zle0, zeq0, zgt0, zLe0, nI_ltI, nI_leI, nI_eq, nI_add, nI_clamp, vp_in_nI, zup_s, zup_n, upd_s, upd_n, ne_eq, not_true_eq_false, not_false_eq_true] at hc <;> omega)
        | (intro hc; exact absurd rfl hc)
        | intro hc
        | apply And.intro
        | exact Or.inl rfl
        | exact Or.inr rfl
        | (show (_ : Int32) = 0 ∨ _ = 1; simp (disch := first | omega | decide) only [h49, zcn, zkpl, zki, zki1, zk8, zk16, zo32, zlt0, zle0, zeq0, zgt0, zLe0, nI_ltI, nI_leI, nI_eq, nI_add, nI_clamp, vp_in_nI, zup_s, zup_n, upd_s, upd_n, ne_eq, not_true_eq_false, not_false_eq_true, zeq1, true_or, or_true]; done))
theorem es_amt {u : zM} {s : pS} {c0 b l : Nat} (h : uV u s c0 b l) : ∀ Q : zQ, (∀ r, mmR (s 8) b l r → Q (some (.int r)) (SH, u)) → ZM 177 0 0 [.ref 42, .int (nI c0)] (SH, u) Q := by
  intro Q hQ0
  have h0 := h
  obtain ⟨⟨hl, h32⟩, h50, h48, h49, hle, he⟩ := h
  have pre : ZW 177 (0, 0, 0, 0) 12 [(4, .int (nI (b + 0))), (3, .int (nI 0)), (2, .int (nI 0)), (0, .ref 42), (1, .int (nI c0))] [] (SH, u) Q → ZM 177 0 0 [.ref 42, .int (nI c0)] (SH, u) Q := by
    intro W
    rw [Nat.add_zero, ← h48] at W
    have e3 : u 48 (nI c0).toNatClampNeg = u 48 c0 := by simp (disch := first | omega | decide) only [zcn, zkpl, zki, zki1, zk8, zk16, zo32, zlt0, zle0, zeq0, zgt0, zLe0, nI_ltI, nI_leI, nI_eq, nI_add, nI_clamp, vp_in_nI, zup_s, zup_n, upd_s, upd_n, ne_eq, not_true_eq_false, not_false_eq_true]
    rw [← e3] at W
    refine zgo 20 [] ?_
    repeat' (first
      | (exact W)
      | (show vp_in _ _; simp (disch := first | omega | decide) only [zcn, zkpl, zki, zki1, zk8, zk16, zo32, zlt0, zle0, zeq0, zgt0, zLe0, nI_ltI, nI_leI, nI_eq, nI_add, nI_clamp, vp_in_nI, zup_s, zup_n, upd_s, upd_n, ne_eq, not_true_eq_false, not_false_eq_true]; done)
      | (intro hc; exfalso; simp (disch := first | omega | decide) only [zcn, zkpl, zki, zki1, zk8, zk16, zo32, zlt0, zle0, zeq0, zgt0, zLe0, nI_ltI, nI_leI, nI_eq, nI_add, nI_clamp, vp_in_nI, zup_s, zup_n, upd_s, upd_n, ne_eq, not_true_eq_false, not_false_eq_true] at hc <;> omega)
      | (intro hc; exact absurd rfl hc)
      | intro hc
      | apply And.intro
      | exact Or.inl rfl
      | exact Or.inr rfl
      | (show (_ : Int32) = 0 ∨ _ = 1; simp (disch := first | omega | decide) only [zcn, zkpl, zki, zki1, zk8, zk16, zo32, zlt0, zle0, zeq0, zgt0, zLe0, nI_ltI, nI_leI, nI_eq, nI_add, nI_clamp, vp_in_nI, zup_s, zup_n, upd_s, upd_n, ne_eq, not_true_eq_false, not_false_eq_true, zeq1, true_or, or_true]; done))
  refine pre (wh_loop h0 Q l 0 0 (by omega) (by omega) (fun p U g => ?_))
  obtain ⟨_, p1, p7, p2, p3, p4⟩ := g
  rw [Nat.sub_zero, Nat.add_zero] at p2 p3
  -- the point, if there is an amount
  have uq : ∀ v q, AMp (s 8) b l q v → q = p := fun v q gv => by
    obtain ⟨a1, a2, a3, a4, a5, a6⟩ := gv
    by_cases e : q = p
    · exact e
    · exfalso
      by_cases e2 : q < p
      · have := p2 q e2
        unfold isD at this
        omega
      · have := a4 p (by omega)
        rcases p4 with p4 | p4 | p4
        · omega
        · omega
        · exact p4 this
  have no : (¬ ∃ v, AMp (s 8) b l p v) → Q (some (.int 0)) (SH, u) := fun g => hQ0 0 (Or.inr ⟨rfl, fun ⟨v, q, gv⟩ => g ⟨v, by rw [← uq v q gv]; exact gv⟩⟩)
  have yes : ∀ v, (0 < v → AMp (s 8) b l p v) → (v = 0 → ¬ ∃ v, AMp (s 8) b l p v) → Q (some (.int (nI v))) (SH, u) := fun v g g' => by
    by_cases e : v = 0
    · rw [e]
      exact no (g' e)
    · exact hQ0 _ (Or.inl ⟨v, ⟨p, g (by omega)⟩, rfl⟩)
  by_cases e1 : 1 ≤ p ∧ p ≤ 6
  · obtain ⟨e1, e2⟩ := e1
    have hU := dvl_b p2 e2
    have f80 : ZW 177 (0, 0, 0, 0) 80 [(4, .int (nI (b + p))), (3, .int (nI p)), (2, .int (nI U)), (0, .ref 42), (1, .int (nI c0))] [] (SH, u) Q := by
      by_cases e4 : p = l
      · have hQ := yes (100 * U) (fun g => ⟨e1, e2, p1, p2, g, Or.inl ⟨e4, by rw [p3]⟩⟩) (fun g ⟨v, gv⟩ => by
          have := gv.2.2.2.2
          omega)
        rw [← p3] at hU
        clear no yes uq
        subst e4
        refine zgo 30 [] ?_
        repeat' (first
          | (show vp_in _ _; simp (disch := first | omega | decide) only [h49, pk_mul, zcn, zkpl, zki, zki1, zk8, zk16, zo32, zlt0, zle0, zeq0, zgt0, zLe0, nI_ltI, nI_leI, nI_eq, nI_add, nI_clamp, vp_in_nI, zup_s, zup_n, upd_s, upd_n, ne_eq, not_true_eq_false, not_false_eq_true]; done)
          | (intro hc; exfalso; simp (disch := first | omega | decide) only [h49, pk_mul, zcn, zkpl, zki, zki1, zk8, zk16, zo32, zlt0, zle0, zeq0, zgt0, zLe0, nI_ltI, nI_leI, nI_eq, nI_add, nI_clamp, vp_in_nI, zup_s, zup_n, upd_s, upd_n, ne_eq, not_true_eq_false, not_false_eq_true] at hc <;> omega)
          | (intro hc; exact absurd rfl hc)
          | intro hc
          | apply And.intro
          | exact hQ
          | (show Q _ (SH, _); simp (disch := first | omega | decide) only [h49, pk_mul, zcn, zkpl, zki, zki1, zk8, zk16, zo32, zlt0, zle0, zeq0, zgt0, zLe0, nI_ltI, nI_leI, nI_eq, nI_add, nI_clamp, vp_in_nI, zup_s, zup_n, upd_s, upd_n, ne_eq, not_true_eq_false, not_false_eq_true]; exact hQ)
          | exact Or.inl rfl
          | exact Or.inr rfl
          | (show (_ : Int32) = 0 ∨ _ = 1; simp (disch := first | omega | decide) only [h49, pk_mul, zcn, zkpl, zki, zki1, zk8, zk16, zo32, zlt0, zle0, zeq0, zgt0, zLe0, nI_ltI, nI_leI, nI_eq, nI_add, nI_clamp, vp_in_nI, zup_s, zup_n, upd_s, upd_n, ne_eq, not_true_eq_false, not_false_eq_true, zeq1, true_or, or_true]; done))
      · have g1 := h50 (b + p) (by omega)
        have h126 := (h32 (b + p) (by omega)).2
        have e9 : nI (b + l) - nI (b + p) = nI (l - p) := by rw [pk_sub (by omega)]; congr 1; omega
        have e10' : nI (l - p) - nI 1 = nI (l - p - 1) := pk_sub (by omega)
        by_cases e5 : s 8 (b + p) = 46 ∧ 1 ≤ l - p - 1 ∧ l - p - 1 ≤ 2
        · obtain ⟨e5, e6, e7⟩ := e5
          have hd : ∀ r2, _ → Ev 175 [.ref 42, .int (nI c0), .int (nI (b + p) + Int32.ofInt 1)] u (some (.int r2)) u := fun r2 g => es_small h0 (b + p + 1) rfl (by rw [zki, nI_add]) (by omega) (by omega) (r := r2) g
          rw [show b + l - (b + p + 1) = l - p - 1 by omega] at hd
          by_cases e8 : dOK (s 8) (b + p + 1) (l - p - 1)
          · have hP := dvl_b2 e8 e7
            have hd := hd _ (Or.inl ⟨rfl, e6, e7, e8⟩)
            have hf : ∀ V, V = 100 * U + (if l - p - 1 = 1 then 10 * dvl (s 8) (l - p - 1) 0 (b + p + 1) else dvl (s 8) (l - p - 1) 0 (b + p + 1)) → Q (some (.int (nI V))) (SH, u) := by
              intro V hV
              by_cases e11 : l - p - 1 = 1
              · rw [e11, if_pos rfl] at hV
                rw [e11] at e8
                refine yes V (fun g => ⟨e1, e2, p1, p2, g, Or.inr ⟨by omega, e5, Or.inl ⟨by omega, e8, by rw [← p3]; exact hV⟩⟩⟩) (fun g ⟨v, gv⟩ => ?_)
                have := gv.2.2.2.2
                omega
              · have e12 : l - p - 1 = 2 := by omega
                rw [e12, if_neg (by decide)] at hV
                rw [e12] at e8
                refine yes V (fun g => ⟨e1, e2, p1, p2, g, Or.inr ⟨by omega, e5, Or.inr ⟨by omega, e8, by rw [← p3]; exact hV⟩⟩⟩) (fun g ⟨v, gv⟩ => ?_)
                have := gv.2.2.2.2
                omega
            clear no yes uq e8
            rw [← p3] at hU
            clear p3
            generalize dvl (s 8) (l - p - 1) 0 (b + p + 1) = P at *
            have f144 : ZW 177 (0, 0, 0, 0) 144 [(5, .int (nI (l - p - 1))), (4, .int (nI (b + p))), (3, .int (nI p)), (2, .int (nI U)), (0, .ref 42), (1, .int (nI c0))] [.int (nI P)] (SH, u) Q := by
              by_cases e11 : l - p - 1 = 1
              · rw [if_pos e11] at hf
                have hQ := hf _ rfl
                refine zgo 30 [] ?_
                repeat' (first
                  | (show vp_in _ _; simp (disch := first | omega | decide) only [pk_mul, zcn, zkpl, zki, zki1, zk8, zk16, zo32, zlt0, zle0, zeq0, zgt0, zLe0, nI_ltI, nI_leI, nI_eq, nI_add, nI_clamp, vp_in_nI, zup_s, zup_n, upd_s, upd_n, ne_eq, not_true_eq_false, not_false_eq_true]; done)
                  | (intro hc; exfalso; simp (disch := first | omega | decide) only [pk_mul, zcn, zkpl, zki, zki1, zk8, zk16, zo32, zlt0, zle0, zeq0, zgt0, zLe0, nI_ltI, nI_leI, nI_eq, nI_add, nI_clamp, vp_in_nI, zup_s, zup_n, upd_s, upd_n, ne_eq, not_true_eq_false, not_false_eq_true] at hc <;> omega)
                  | (intro hc; exact absurd rfl hc)
                  | intro hc
                  | apply And.intro
                  | exact hQ
                  | (show Q _ (SH, _); simp (disch := first | omega | decide) only [pk_mul, zcn, zkpl, zki, zki1, zk8, zk16, zo32, zlt0, zle0, zeq0, zgt0, zLe0, nI_ltI, nI_leI, nI_eq, nI_add, nI_clamp, vp_in_nI, zup_s, zup_n, upd_s, upd_n, ne_eq, not_true_eq_false, not_false_eq_true]; exact hQ)
                  | exact Or.inl rfl
                  | exact Or.inr rfl
                  | (show (_ : Int32) = 0 ∨ _ = 1; simp (disch := first | omega | decide) only [pk_mul, zcn, zkpl, zki, zki1, zk8, zk16, zo32, zlt0, zle0, zeq0, zgt0, zLe0, nI_ltI, nI_leI, nI_eq, nI_add, nI_clamp, vp_in_nI, zup_s, zup_n, upd_s, upd_n, ne_eq, not_true_eq_false, not_false_eq_true, zeq1, true_or, or_true]; done))
              · rw [if_neg e11] at hf
                have hQ := hf _ rfl
                refine zgo 30 [] ?_
                repeat' (first
                  | (show vp_in _ _; simp (disch := first | omega | decide) only [pk_mul, zcn, zkpl, zki, zki1, zk8, zk16, zo32, zlt0, zle0, zeq0, zgt0, zLe0, nI_ltI, nI_leI, nI_eq, nI_add, nI_clamp, vp_in_nI, zup_s, zup_n, upd_s, upd_n, ne_eq, not_true_eq_false, not_false_eq_true]; done)
                  | (intro hc; exfalso; simp (disch := first | omega | decide) only [pk_mul, zcn, zkpl, zki, zki1, zk8, zk16, zo32, zlt0, zle0, zeq0, zgt0, zLe0, nI_ltI, nI_leI, nI_eq, nI_add, nI_clamp, vp_in_nI, zup_s, zup_n, upd_s, upd_n, ne_eq, not_true_eq_false, not_false_eq_true] at hc <;> omega)
                  | (intro hc; exact absurd rfl hc)
                  | intro hc
                  | apply And.intro
                  | exact hQ
                  | (show Q _ (SH, _); simp (disch := first | omega | decide) only [pk_mul, zcn, zkpl, zki, zki1, zk8, zk16, zo32, zlt0, zle0, zeq0, zgt0, zLe0, nI_ltI, nI_leI, nI_eq, nI_add, nI_clamp, vp_in_nI, zup_s, zup_n, upd_s, upd_n, ne_eq, not_true_eq_false, not_false_eq_true]; exact hQ)
                  | exact Or.inl rfl
                  | exact Or.inr rfl
                  | (show (_ : Int32) = 0 ∨ _ = 1; simp (disch := first | omega | decide) only [pk_mul, zcn, zkpl, zki, zki1, zk8, zk16, zo32, zlt0, zle0, zeq0, zgt0, zLe0, nI_ltI, nI_leI, nI_eq, nI_add, nI_clamp, vp_in_nI, zup_s, zup_n, upd_s, upd_n, ne_eq, not_true_eq_false, not_false_eq_true, zeq1, true_or, or_true]; done))
            have f109 : ZW 177 (0, 0, 0, 0) 109 [(5, .int (nI (l - p - 1))), (4, .int (nI (b + p))), (3, .int (nI p)), (2, .int (nI U)), (0, .ref 42), (1, .int (nI c0))] [] (SH, u) Q := by
              refine zgo 30 [] ?_
              repeat' (first
                | (exact hd.use f144)
                | (show vp_in _ _; simp (disch := first | omega | decide) only [g1, e5, zcn, zkpl, zki, zki1, zk8, zk16, zo32, zlt0, zle0, zeq0, zgt0, zLe0, nI_ltI, nI_leI, nI_eq, nI_add, nI_clamp, vp_in_nI, zup_s, zup_n, upd_s, upd_n, ne_eq, not_true_eq_false, not_false_eq_true]; done)
                | (intro hc; exfalso; simp (disch := first | omega | decide) only [g1, e5, zcn, zkpl, zki, zki1, zk8, zk16, zo32, zlt0, zle0, zeq0, zgt0, zLe0, nI_ltI, nI_leI, nI_eq, nI_add, nI_clamp, vp_in_nI, zup_s, zup_n, upd_s, upd_n, ne_eq, not_true_eq_false, not_false_eq_true] at hc <;> omega)
                | (intro hc; exact absurd rfl hc)
                | intro hc
                | apply And.intro
                | exact Or.inl rfl
                | exact Or.inr rfl
                | (show (_ : Int32) = 0 ∨ _ = 1; simp (disch := first | omega | decide) only [g1, e5, zcn, zkpl, zki, zki1, zk8, zk16, zo32, zlt0, zle0, zeq0, zgt0, zLe0, nI_ltI, nI_leI, nI_eq, nI_add, nI_clamp, vp_in_nI, zup_s, zup_n, upd_s, upd_n, ne_eq, not_true_eq_false, not_false_eq_true, zeq1, true_or, or_true]; done))
            have f109' := f109
            rw [← e10', ← e9, ← h49, show nI 1 = Int32.ofInt 1 by decide] at f109'
            have e22 : u 49 (nI c0).toNatClampNeg = u 49 c0 := by simp (disch := first | omega | decide) only [zcn, zkpl, zki, zki1, zk8, zk16, zo32, zlt0, zle0, zeq0, zgt0, zLe0, nI_ltI, nI_leI, nI_eq, nI_add, nI_clamp, vp_in_nI, zup_s, zup_n, upd_s, upd_n, ne_eq, not_true_eq_false, not_false_eq_true]
            rw [← e22] at f109'
            refine zgo 15 [] ?_
            repeat' (first
              | (exact f109')
              | (show vp_in _ _; simp (disch := first | omega | decide) only [h49, zcn, zkpl, zki, zki1, zk8, zk16, zo32, zlt0, zle0, zeq0, zgt0, zLe0, nI_ltI, nI_leI, nI_eq, nI_add, nI_clamp, vp_in_nI, zup_s, zup_n, upd_s, upd_n, ne_eq, not_true_eq_false, not_false_eq_true]; done)
              | (intro hc; exfalso; simp (disch := first | omega | decide) only [h49, zcn, zkpl, zki, zki1, zk8, zk16, zo32, zlt0, zle0, zeq0, zgt0, zLe0, nI_ltI, nI_leI, nI_eq, nI_add, nI_clamp, vp_in_nI, zup_s, zup_n, upd_s, upd_n, ne_eq, not_true_eq_false, not_false_eq_true] at hc <;> omega)
              | (intro hc; exact absurd rfl hc)
              | intro hc
              | apply And.intro
              | exact Or.inl rfl
              | exact Or.inr rfl
              | (show (_ : Int32) = 0 ∨ _ = 1; simp (disch := first | omega | decide) only [h49, zcn, zkpl, zki, zki1, zk8, zk16, zo32, zlt0, zle0, zeq0, zgt0, zLe0, nI_ltI, nI_leI, nI_eq, nI_add, nI_clamp, vp_in_nI, zup_s, zup_n, upd_s, upd_n, ne_eq, not_true_eq_false, not_false_eq_true, zeq1, true_or, or_true]; done))
          · have hd := hd (-1) (Or.inr ⟨rfl, fun g => e8 g.2.2⟩)
            have hQ := no (fun ⟨v, gv⟩ => by
              obtain ⟨_, _, _, _, v0, gv⟩ := gv
              rcases gv with gv | ⟨_, _, ⟨x1, x2, _⟩ | ⟨x1, x2, _⟩⟩
              · omega
              · exact e8 (by rw [show l - p - 1 = 1 by omega]; exact x2)
              · exact e8 (by rw [show l - p - 1 = 2 by omega]; exact x2))
            clear no yes uq e8
            rw [← p3] at hU
            clear p3
            have f144 : ZW 177 (0, 0, 0, 0) 144 [(5, .int (nI (l - p - 1))), (4, .int (nI (b + p))), (3, .int (nI p)), (2, .int (nI U)), (0, .ref 42), (1, .int (nI c0))] [.int (-1)] (SH, u) Q := by
              refine zgo 30 [] ?_
              repeat' (first
                | (show vp_in _ _; simp (disch := first | omega | decide) only [m1g0, zcn, zkpl, zki, zki1, zk8, zk16, zo32, zlt0, zle0, zeq0, zgt0, zLe0, nI_ltI, nI_leI, nI_eq, nI_add, nI_clamp, vp_in_nI, zup_s, zup_n, upd_s, upd_n, ne_eq, not_true_eq_false, not_false_eq_true]; done)
                | (intro hc; exfalso; simp (disch := first | omega | decide) only [m1g0, zcn, zkpl, zki, zki1, zk8, zk16, zo32, zlt0, zle0, zeq0, zgt0, zLe0, nI_ltI, nI_leI, nI_eq, nI_add, nI_clamp, vp_in_nI, zup_s, zup_n, upd_s, upd_n, ne_eq, not_true_eq_false, not_false_eq_true] at hc <;> omega)
                | (intro hc; exact absurd rfl hc)
                | intro hc
                | apply And.intro
                | exact hQ
                | (show Q _ (SH, _); simp (disch := first | omega | decide) only [m1g0, zcn, zkpl, zki, zki1, zk8, zk16, zo32, zlt0, zle0, zeq0, zgt0, zLe0, nI_ltI, nI_leI, nI_eq, nI_add, nI_clamp, vp_in_nI, zup_s, zup_n, upd_s, upd_n, ne_eq, not_true_eq_false, not_false_eq_true]; exact hQ)
                | exact Or.inl rfl
                | exact Or.inr rfl
                | (show (_ : Int32) = 0 ∨ _ = 1; simp (disch := first | omega | decide) only [m1g0, zcn, zkpl, zki, zki1, zk8, zk16, zo32, zlt0, zle0, zeq0, zgt0, zLe0, nI_ltI, nI_leI, nI_eq, nI_add, nI_clamp, vp_in_nI, zup_s, zup_n, upd_s, upd_n, ne_eq, not_true_eq_false, not_false_eq_true, zeq1, true_or, or_true]; done))
            have f109 : ZW 177 (0, 0, 0, 0) 109 [(5, .int (nI (l - p - 1))), (4, .int (nI (b + p))), (3, .int (nI p)), (2, .int (nI U)), (0, .ref 42), (1, .int (nI c0))] [] (SH, u) Q := by
              refine zgo 30 [] ?_
              repeat' (first
                | (exact hd.use f144)
                | (show vp_in _ _; simp (disch := first | omega | decide) only [g1, e5, zcn, zkpl, zki, zki1, zk8, zk16, zo32, zlt0, zle0, zeq0, zgt0, zLe0, nI_ltI, nI_leI, nI_eq, nI_add, nI_clamp, vp_in_nI, zup_s, zup_n, upd_s, upd_n, ne_eq, not_true_eq_false, not_false_eq_true]; done)
                | (intro hc; exfalso; simp (disch := first | omega | decide) only [g1, e5, zcn, zkpl, zki, zki1, zk8, zk16, zo32, zlt0, zle0, zeq0, zgt0, zLe0, nI_ltI, nI_leI, nI_eq, nI_add, nI_clamp, vp_in_nI, zup_s, zup_n, upd_s, upd_n, ne_eq, not_true_eq_false, not_false_eq_true] at hc <;> omega)
                | (intro hc; exact absurd rfl hc)
                | intro hc
                | apply And.intro
                | exact Or.inl rfl
                | exact Or.inr rfl
                | (show (_ : Int32) = 0 ∨ _ = 1; simp (disch := first | omega | decide) only [g1, e5, zcn, zkpl, zki, zki1, zk8, zk16, zo32, zlt0, zle0, zeq0, zgt0, zLe0, nI_ltI, nI_leI, nI_eq, nI_add, nI_clamp, vp_in_nI, zup_s, zup_n, upd_s, upd_n, ne_eq, not_true_eq_false, not_false_eq_true, zeq1, true_or, or_true]; done))
            have f109' := f109
            rw [← e10', ← e9, ← h49, show nI 1 = Int32.ofInt 1 by decide] at f109'
            have e22 : u 49 (nI c0).toNatClampNeg = u 49 c0 := by simp (disch := first | omega | decide) only [zcn, zkpl, zki, zki1, zk8, zk16, zo32, zlt0, zle0, zeq0, zgt0, zLe0, nI_ltI, nI_leI, nI_eq, nI_add, nI_clamp, vp_in_nI, zup_s, zup_n, upd_s, upd_n, ne_eq, not_true_eq_false, not_false_eq_true]
            rw [← e22] at f109'
            refine zgo 15 [] ?_
            repeat' (first
              | (exact f109')
              | (show vp_in _ _; simp (disch := first | omega | decide) only [h49, zcn, zkpl, zki, zki1, zk8, zk16, zo32, zlt0, zle0, zeq0, zgt0, zLe0, nI_ltI, nI_leI, nI_eq, nI_add, nI_clamp, vp_in_nI, zup_s, zup_n, upd_s, upd_n, ne_eq, not_true_eq_false, not_false_eq_true]; done)
              | (intro hc; exfalso; simp (disch := first | omega | decide) only [h49, zcn, zkpl, zki, zki1, zk8, zk16, zo32, zlt0, zle0, zeq0, zgt0, zLe0, nI_ltI, nI_leI, nI_eq, nI_add, nI_clamp, vp_in_nI, zup_s, zup_n, upd_s, upd_n, ne_eq, not_true_eq_false, not_false_eq_true] at hc <;> omega)
              | (intro hc; exact absurd rfl hc)
              | intro hc
              | apply And.intro
              | exact Or.inl rfl
              | exact Or.inr rfl
              | (show (_ : Int32) = 0 ∨ _ = 1; simp (disch := first | omega | decide) only [h49, zcn, zkpl, zki, zki1, zk8, zk16, zo32, zlt0, zle0, zeq0, zgt0, zLe0, nI_ltI, nI_leI, nI_eq, nI_add, nI_clamp, vp_in_nI, zup_s, zup_n, upd_s, upd_n, ne_eq, not_true_eq_false, not_false_eq_true, zeq1, true_or, or_true]; done))
        · have hQ := no (fun ⟨v, gv⟩ => by
            obtain ⟨_, _, _, _, v0, gv⟩ := gv
            rcases gv with gv | ⟨_, _, ⟨x1, x2, _⟩ | ⟨x1, x2, _⟩⟩
            · omega
            · omega
            · omega)
          clear no yes uq
          rw [← p3] at hU
          clear p3
          have f109 : ZW 177 (0, 0, 0, 0) 109 [(5, .int (nI (l - p - 1))), (4, .int (nI (b + p))), (3, .int (nI p)), (2, .int (nI U)), (0, .ref 42), (1, .int (nI c0))] [] (SH, u) Q := by
            by_cases e6 : s 8 (b + p) = 46
            · rw [e6] at g1
              by_cases e7 : 1 ≤ l - p - 1
              · refine zgo 30 [] ?_
                repeat' (first
                  | (show vp_in _ _; simp (disch := first | omega | decide) only [g1, zcn, zkpl, zki, zki1, zk8, zk16, zo32, zlt0, zle0, zeq0, zgt0, zLe0, nI_ltI, nI_leI, nI_eq, nI_add, nI_clamp, vp_in_nI, zup_s, zup_n, upd_s, upd_n, ne_eq, not_true_eq_false, not_false_eq_true]; done)
                  | (intro hc; exfalso; simp (disch := first | omega | decide) only [g1, zcn, zkpl, zki, zki1, zk8, zk16, zo32, zlt0, zle0, zeq0, zgt0, zLe0, nI_ltI, nI_leI, nI_eq, nI_add, nI_clamp, vp_in_nI, zup_s, zup_n, upd_s, upd_n, ne_eq, not_true_eq_false, not_false_eq_true] at hc <;> omega)
                  | (intro hc; exact absurd rfl hc)
                  | intro hc
                  | apply And.intro
                  | exact hQ
                  | (show Q _ (SH, _); simp (disch := first | omega | decide) only [g1, zcn, zkpl, zki, zki1, zk8, zk16, zo32, zlt0, zle0, zeq0, zgt0, zLe0, nI_ltI, nI_leI, nI_eq, nI_add, nI_clamp, vp_in_nI, zup_s, zup_n, upd_s, upd_n, ne_eq, not_true_eq_false, not_false_eq_true]; exact hQ)
                  | exact Or.inl rfl
                  | exact Or.inr rfl
                  | (show (_ : Int32) = 0 ∨ _ = 1; simp (disch := first | omega | decide) only [g1, zcn, zkpl, zki, zki1, zk8, zk16, zo32, zlt0, zle0, zeq0, zgt0, zLe0, nI_ltI, nI_leI, nI_eq, nI_add, nI_clamp, vp_in_nI, zup_s, zup_n, upd_s, upd_n, ne_eq, not_true_eq_false, not_false_eq_true, zeq1, true_or, or_true]; done))
              · refine zgo 30 [] ?_
                repeat' (first
                  | (show vp_in _ _; simp (disch := first | omega | decide) only [g1, zcn, zkpl, zki, zki1, zk8, zk16, zo32, zlt0, zle0, zeq0, zgt0, zLe0, nI_ltI, nI_leI, nI_eq, nI_add, nI_clamp, vp_in_nI, zup_s, zup_n, upd_s, upd_n, ne_eq, not_true_eq_false, not_false_eq_true]; done)
                  | (intro hc; exfalso; simp (disch := first | omega | decide) only [g1, zcn, zkpl, zki, zki1, zk8, zk16, zo32, zlt0, zle0, zeq0, zgt0, zLe0, nI_ltI, nI_leI, nI_eq, nI_add, nI_clamp, vp_in_nI, zup_s, zup_n, upd_s, upd_n, ne_eq, not_true_eq_false, not_false_eq_true] at hc <;> omega)
                  | (intro hc; exact absurd rfl hc)
                  | intro hc
                  | apply And.intro
                  | exact hQ
                  | (show Q _ (SH, _); simp (disch := first | omega | decide) only [g1, zcn, zkpl, zki, zki1, zk8, zk16, zo32, zlt0, zle0, zeq0, zgt0, zLe0, nI_ltI, nI_leI, nI_eq, nI_add, nI_clamp, vp_in_nI, zup_s, zup_n, upd_s, upd_n, ne_eq, not_true_eq_false, not_false_eq_true]; exact hQ)
                  | exact Or.inl rfl
                  | exact Or.inr rfl
                  | (show (_ : Int32) = 0 ∨ _ = 1; simp (disch := first | omega | decide) only [g1, zcn, zkpl, zki, zki1, zk8, zk16, zo32, zlt0, zle0, zeq0, zgt0, zLe0, nI_ltI, nI_leI, nI_eq, nI_add, nI_clamp, vp_in_nI, zup_s, zup_n, upd_s, upd_n, ne_eq, not_true_eq_false, not_false_eq_true, zeq1, true_or, or_true]; done))
            · refine zgo 30 [] ?_
              repeat' (first
                | (show vp_in _ _; simp (disch := first | omega | decide) only [g1, zcn, zkpl, zki, zki1, zk8, zk16, zo32, zlt0, zle0, zeq0, zgt0, zLe0, nI_ltI, nI_leI, nI_eq, nI_add, nI_clamp, vp_in_nI, zup_s, zup_n, upd_s, upd_n, ne_eq, not_true_eq_false, not_false_eq_true]; done)
                | (intro hc; exfalso; simp (disch := first | omega | decide) only [g1, zcn, zkpl, zki, zki1, zk8, zk16, zo32, zlt0, zle0, zeq0, zgt0, zLe0, nI_ltI, nI_leI, nI_eq, nI_add, nI_clamp, vp_in_nI, zup_s, zup_n, upd_s, upd_n, ne_eq, not_true_eq_false, not_false_eq_true] at hc <;> omega)
                | (intro hc; exact absurd rfl hc)
                | intro hc
                | apply And.intro
                | exact hQ
                | (show Q _ (SH, _); simp (disch := first | omega | decide) only [g1, zcn, zkpl, zki, zki1, zk8, zk16, zo32, zlt0, zle0, zeq0, zgt0, zLe0, nI_ltI, nI_leI, nI_eq, nI_add, nI_clamp, vp_in_nI, zup_s, zup_n, upd_s, upd_n, ne_eq, not_true_eq_false, not_false_eq_true]; exact hQ)
                | exact Or.inl rfl
                | exact Or.inr rfl
                | (show (_ : Int32) = 0 ∨ _ = 1; simp (disch := first | omega | decide) only [g1, zcn, zkpl, zki, zki1, zk8, zk16, zo32, zlt0, zle0, zeq0, zgt0, zLe0, nI_ltI, nI_leI, nI_eq, nI_add, nI_clamp, vp_in_nI, zup_s, zup_n, upd_s, upd_n, ne_eq, not_true_eq_false, not_false_eq_true, zeq1, true_or, or_true]; done))
          have f109' := f109
          rw [← e10', ← e9, ← h49, show nI 1 = Int32.ofInt 1 by decide] at f109'
          have e22 : u 49 (nI c0).toNatClampNeg = u 49 c0 := by simp (disch := first | omega | decide) only [zcn, zkpl, zki, zki1, zk8, zk16, zo32, zlt0, zle0, zeq0, zgt0, zLe0, nI_ltI, nI_leI, nI_eq, nI_add, nI_clamp, vp_in_nI, zup_s, zup_n, upd_s, upd_n, ne_eq, not_true_eq_false, not_false_eq_true]
          rw [← e22] at f109'
          refine zgo 15 [] ?_
          repeat' (first
            | (exact f109')
            | (show vp_in _ _; simp (disch := first | omega | decide) only [h49, zcn, zkpl, zki, zki1, zk8, zk16, zo32, zlt0, zle0, zeq0, zgt0, zLe0, nI_ltI, nI_leI, nI_eq, nI_add, nI_clamp, vp_in_nI, zup_s, zup_n, upd_s, upd_n, ne_eq, not_true_eq_false, not_false_eq_true]; done)
            | (intro hc; exfalso; simp (disch := first | omega | decide) only [h49, zcn, zkpl, zki, zki1, zk8, zk16, zo32, zlt0, zle0, zeq0, zgt0, zLe0, nI_ltI, nI_leI, nI_eq, nI_add, nI_clamp, vp_in_nI, zup_s, zup_n, upd_s, upd_n, ne_eq, not_true_eq_false, not_false_eq_true] at hc <;> omega)
            | (intro hc; exact absurd rfl hc)
            | intro hc
            | apply And.intro
            | exact Or.inl rfl
            | exact Or.inr rfl
            | (show (_ : Int32) = 0 ∨ _ = 1; simp (disch := first | omega | decide) only [h49, zcn, zkpl, zki, zki1, zk8, zk16, zo32, zlt0, zle0, zeq0, zgt0, zLe0, nI_ltI, nI_leI, nI_eq, nI_add, nI_clamp, vp_in_nI, zup_s, zup_n, upd_s, upd_n, ne_eq, not_true_eq_false, not_false_eq_true, zeq1, true_or, or_true]; done))
    refine zgo 6 [] ?_
    repeat' (first
      | (exact f80)
      | (show vp_in _ _; simp (disch := first | omega | decide) only [zcn, zkpl, zki, zki1, zk8, zk16, zo32, zlt0, zle0, zeq0, zgt0, zLe0, nI_ltI, nI_leI, nI_eq, nI_add, nI_clamp, vp_in_nI, zup_s, zup_n, upd_s, upd_n, ne_eq, not_true_eq_false, not_false_eq_true]; done)
      | (intro hc; exfalso; simp (disch := first | omega | decide) only [zcn, zkpl, zki, zki1, zk8, zk16, zo32, zlt0, zle0, zeq0, zgt0, zLe0, nI_ltI, nI_leI, nI_eq, nI_add, nI_clamp, vp_in_nI, zup_s, zup_n, upd_s, upd_n, ne_eq, not_true_eq_false, not_false_eq_true] at hc <;> omega)
      | (intro hc; exact absurd rfl hc)
      | intro hc
      | apply And.intro
      | exact Or.inl rfl
      | exact Or.inr rfl
      | (show (_ : Int32) = 0 ∨ _ = 1; simp (disch := first | omega | decide) only [zcn, zkpl, zki, zki1, zk8, zk16, zo32, zlt0, zle0, zeq0, zgt0, zLe0, nI_ltI, nI_leI, nI_eq, nI_add, nI_clamp, vp_in_nI, zup_s, zup_n, upd_s, upd_n, ne_eq, not_true_eq_false, not_false_eq_true, zeq1, true_or, or_true]; done))
  · have hQ := no (fun ⟨v, gv⟩ => e1 ⟨gv.1, gv.2.1⟩)
    by_cases e2 : 1 ≤ p
    · refine zgo 20 [] ?_
      repeat' (first
        | (show vp_in _ _; simp (disch := first | omega | decide) only [zcn, zkpl, zki, zki1, zk8, zk16, zo32, zlt0, zle0, zeq0, zgt0, zLe0, nI_ltI, nI_leI, nI_eq, nI_add, nI_clamp, vp_in_nI, zup_s, zup_n, upd_s, upd_n, ne_eq, not_true_eq_false, not_false_eq_true]; done)
        | (intro hc; exfalso; simp (disch := first | omega | decide) only [zcn, zkpl, zki, zki1, zk8, zk16, zo32, zlt0, zle0, zeq0, zgt0, zLe0, nI_ltI, nI_leI, nI_eq, nI_add, nI_clamp, vp_in_nI, zup_s, zup_n, upd_s, upd_n, ne_eq, not_true_eq_false, not_false_eq_true] at hc <;> omega)
        | (intro hc; exact absurd rfl hc)
        | intro hc
        | apply And.intro
        | exact hQ
        | (show Q _ (SH, _); simp (disch := first | omega | decide) only [zcn, zkpl, zki, zki1, zk8, zk16, zo32, zlt0, zle0, zeq0, zgt0, zLe0, nI_ltI, nI_leI, nI_eq, nI_add, nI_clamp, vp_in_nI, zup_s, zup_n, upd_s, upd_n, ne_eq, not_true_eq_false, not_false_eq_true]; exact hQ)
        | exact Or.inl rfl
        | exact Or.inr rfl
        | (show (_ : Int32) = 0 ∨ _ = 1; simp (disch := first | omega | decide) only [zcn, zkpl, zki, zki1, zk8, zk16, zo32, zlt0, zle0, zeq0, zgt0, zLe0, nI_ltI, nI_leI, nI_eq, nI_add, nI_clamp, vp_in_nI, zup_s, zup_n, upd_s, upd_n, ne_eq, not_true_eq_false, not_false_eq_true, zeq1, true_or, or_true]; done))
    · refine zgo 20 [] ?_
      repeat' (first
        | (show vp_in _ _; simp (disch := first | omega | decide) only [zcn, zkpl, zki, zki1, zk8, zk16, zo32, zlt0, zle0, zeq0, zgt0, zLe0, nI_ltI, nI_leI, nI_eq, nI_add, nI_clamp, vp_in_nI, zup_s, zup_n, upd_s, upd_n, ne_eq, not_true_eq_false, not_false_eq_true]; done)
        | (intro hc; exfalso; simp (disch := first | omega | decide) only [zcn, zkpl, zki, zki1, zk8, zk16, zo32, zlt0, zle0, zeq0, zgt0, zLe0, nI_ltI, nI_leI, nI_eq, nI_add, nI_clamp, vp_in_nI, zup_s, zup_n, upd_s, upd_n, ne_eq, not_true_eq_false, not_false_eq_true] at hc <;> omega)
        | (intro hc; exact absurd rfl hc)
        | intro hc
        | apply And.intro
        | exact hQ
        | (show Q _ (SH, _); simp (disch := first | omega | decide) only [zcn, zkpl, zki, zki1, zk8, zk16, zo32, zlt0, zle0, zeq0, zgt0, zLe0, nI_ltI, nI_leI, nI_eq, nI_add, nI_clamp, vp_in_nI, zup_s, zup_n, upd_s, upd_n, ne_eq, not_true_eq_false, not_false_eq_true]; exact hQ)
        | exact Or.inl rfl
        | exact Or.inr rfl
        | (show (_ : Int32) = 0 ∨ _ = 1; simp (disch := first | omega | decide) only [zcn, zkpl, zki, zki1, zk8, zk16, zo32, zlt0, zle0, zeq0, zgt0, zLe0, nI_ltI, nI_leI, nI_eq, nI_add, nI_clamp, vp_in_nI, zup_s, zup_n, upd_s, upd_n, ne_eq, not_true_eq_false, not_false_eq_true, zeq1, true_or, or_true]; done))
/-- the k-th of those that lie right in e, from i on -/
def chF (f : Nat → Nat) (e : Nat) : Nat → Nat → Nat → Option Nat
  | 0, _, _ => none
  | n + 1, i, k => if i ≠ 0 ∧ f i = e then (if k = 0 then some i else chF f e n (i + 1) (k - 1)) else chF f e n (i + 1) k
def oI (o : Option Nat) : Int32 := match o with | none => -1 | some i => nI i
def mV (u : zM) (s : pS) : Prop := u 42 14 = nI (s 0 1) ∧ (aR (u 44) (s 2) (s 0 1) ∧ aR (u 47) (s 6) (s 0 1)) ∧ aR (u 50) (s 8) (s 0 2) ∧ (∀ j, 0 < j → j < s 0 1 → u 45 j = nI (s 9 j)) ∧ (0 < s 0 1 → u 45 0 = -1) ∧ ∀ j, j < s 0 1 → u 46 j = nI (kc (s 9) j (s 0 1))
theorem cd_loop {u : zM} {s : pS} (h : mV u s) (hN : s 0 1 ≤ 75) (hp : ∀ j, 0 < j → j < s 0 1 → s 9 j < j) {e k : Nat} (he : e < 75) (hk : k ≤ 10) (Q : zQ) : ∀ (n i c : Nat), i + n = s 0 1 → c ≤ k → Q (some (.int (oI (chF (s 9) e n i (k - c))))) (SH, u) → ZW 172 (0, 0, 0, 0) 5 [(4, .int (nI i)), (3, .int (nI c)), (0, .ref 42), (1, .int (nI e)), (2, .int (nI k))] [] (SH, u) Q := by
  obtain ⟨h1, h2, h3, h4, h5, h6⟩ := h
  intro n
  induction n with
  | zero =>
    intro i c hi hc' hQ
    rw [chF] at hQ
    rw [show s 0 1 = i by omega] at h1
    have hQ : Q (some (.int (-1))) (SH, u) := hQ
    refine zgo 20 [] ?_
    repeat' (first
      | (show vp_in _ _; simp (disch := first | omega | decide) only [h1, zcn, zkpl, zki, zki1, zk8, zk16, zo32, zlt0, zle0, zeq0, zgt0, zLe0, nI_ltI, nI_leI, nI_eq, nI_add, nI_clamp, vp_in_nI, zup_s, zup_n, upd_s, upd_n, ne_eq, not_true_eq_false, not_false_eq_true]; done)
      | (intro hc; exfalso; simp (disch := first | omega | decide) only [h1, zcn, zkpl, zki, zki1, zk8, zk16, zo32, zlt0, zle0, zeq0, zgt0, zLe0, nI_ltI, nI_leI, nI_eq, nI_add, nI_clamp, vp_in_nI, zup_s, zup_n, upd_s, upd_n, ne_eq, not_true_eq_false, not_false_eq_true] at hc <;> omega)
      | (intro hc; exact absurd rfl hc)
      | intro hc
      | apply And.intro
      | exact hQ
      | (show Q _ (SH, _); simp (disch := first | omega | decide) only [h1, zcn, zkpl, zki, zki1, zk8, zk16, zo32, zlt0, zle0, zeq0, zgt0, zLe0, nI_ltI, nI_leI, nI_eq, nI_add, nI_clamp, vp_in_nI, zup_s, zup_n, upd_s, upd_n, ne_eq, not_true_eq_false, not_false_eq_true]; exact hQ)
      | exact Or.inl rfl
      | exact Or.inr rfl
      | (show (_ : Int32) = 0 ∨ _ = 1; simp (disch := first | omega | decide) only [h1, zcn, zkpl, zki, zki1, zk8, zk16, zo32, zlt0, zle0, zeq0, zgt0, zLe0, nI_ltI, nI_leI, nI_eq, nI_add, nI_clamp, vp_in_nI, zup_s, zup_n, upd_s, upd_n, ne_eq, not_true_eq_false, not_false_eq_true, zeq1, true_or, or_true]; done))
  | succ n ih =>
    intro i c hi hc' hQ
    have e3 : nI i + Int32.ofInt 1 = nI (i + 1) := by rw [zki, nI_add]
    have e33 : nI c + Int32.ofInt 1 = nI (c + 1) := by rw [zki, nI_add]
    rw [chF] at hQ
    have hiN : i < s 0 1 := by omega
    by_cases e1 : i ≠ 0 ∧ s 9 i = e
    · have g := h4 i (by omega) hiN
      rw [e1.2] at g
      rw [if_pos e1] at hQ
      by_cases e2 : k - c = 0
      · rw [if_pos e2] at hQ
        have hQ : Q (some (.int (nI i))) (SH, u) := hQ
        obtain rfl : c = k := by omega
        generalize s 0 1 = N at *
        refine zgo 30 [] ?_
        repeat' (first
          | (show vp_in _ _; simp (disch := first | omega | decide) only [h1, g, zcn, zkpl, zki, zki1, zk8, zk16, zo32, zlt0, zle0, zeq0, zgt0, zLe0, nI_ltI, nI_leI, nI_eq, nI_add, nI_clamp, vp_in_nI, zup_s, zup_n, upd_s, upd_n, ne_eq, not_true_eq_false, not_false_eq_true]; done)
          | (intro hc; exfalso; simp (disch := first | omega | decide) only [h1, g, zcn, zkpl, zki, zki1, zk8, zk16, zo32, zlt0, zle0, zeq0, zgt0, zLe0, nI_ltI, nI_leI, nI_eq, nI_add, nI_clamp, vp_in_nI, zup_s, zup_n, upd_s, upd_n, ne_eq, not_true_eq_false, not_false_eq_true] at hc <;> omega)
          | (intro hc; exact absurd rfl hc)
          | intro hc
          | apply And.intro
          | exact hQ
          | (show Q _ (SH, _); simp (disch := first | omega | decide) only [h1, g, zcn, zkpl, zki, zki1, zk8, zk16, zo32, zlt0, zle0, zeq0, zgt0, zLe0, nI_ltI, nI_leI, nI_eq, nI_add, nI_clamp, vp_in_nI, zup_s, zup_n, upd_s, upd_n, ne_eq, not_true_eq_false, not_false_eq_true]; exact hQ)
          | exact Or.inl rfl
          | exact Or.inr rfl
          | (show (_ : Int32) = 0 ∨ _ = 1; simp (disch := first | omega | decide) only [h1, g, zcn, zkpl, zki, zki1, zk8, zk16, zo32, zlt0, zle0, zeq0, zgt0, zLe0, nI_ltI, nI_leI, nI_eq, nI_add, nI_clamp, vp_in_nI, zup_s, zup_n, upd_s, upd_n, ne_eq, not_true_eq_false, not_false_eq_true, zeq1, true_or, or_true]; done))
      · rw [if_neg e2] at hQ
        have W := ih (i + 1) (c + 1) (by omega) (by omega) (by rw [show k - (c + 1) = k - c - 1 by omega]; exact hQ)
        rw [← e3, ← e33] at W
        generalize s 0 1 = N at *
        refine zgo 30 [] ?_
        repeat' (first
          | (exact W)
          | (show vp_in _ _; simp (disch := first | omega | decide) only [h1, g, zcn, zkpl, zki, zki1, zk8, zk16, zo32, zlt0, zle0, zeq0, zgt0, zLe0, nI_ltI, nI_leI, nI_eq, nI_add, nI_clamp, vp_in_nI, zup_s, zup_n, upd_s, upd_n, ne_eq, not_true_eq_false, not_false_eq_true]; done)
          | (intro hc; exfalso; simp (disch := first | omega | decide) only [h1, g, zcn, zkpl, zki, zki1, zk8, zk16, zo32, zlt0, zle0, zeq0, zgt0, zLe0, nI_ltI, nI_leI, nI_eq, nI_add, nI_clamp, vp_in_nI, zup_s, zup_n, upd_s, upd_n, ne_eq, not_true_eq_false, not_false_eq_true] at hc <;> omega)
          | (intro hc; exact absurd rfl hc)
          | intro hc
          | apply And.intro
          | exact Or.inl rfl
          | exact Or.inr rfl
          | (show (_ : Int32) = 0 ∨ _ = 1; simp (disch := first | omega | decide) only [h1, g, zcn, zkpl, zki, zki1, zk8, zk16, zo32, zlt0, zle0, zeq0, zgt0, zLe0, nI_ltI, nI_leI, nI_eq, nI_add, nI_clamp, vp_in_nI, zup_s, zup_n, upd_s, upd_n, ne_eq, not_true_eq_false, not_false_eq_true, zeq1, true_or, or_true]; done))
    · rw [if_neg e1] at hQ
      have W := ih (i + 1) c (by omega) hc' hQ
      rw [← e3] at W
      have ne : (u 45 i = nI e) = False := by
        by_cases e2 : i = 0
        · rw [e2, h5 (by omega)]
          exact eq_false (fun g => by
            have := nIn1 (v := e) (by omega)
            rw [← g] at this
            exact of_eq_false this rfl)
        · rw [h4 i (by omega) hiN]
          have := hp i (by omega) hiN
          rw [nI_eq (by omega) (by omega)]
          exact eq_false (fun g => e1 ⟨e2, g⟩)
      generalize s 0 1 = N at *
      refine zgo 30 [] ?_
      repeat' (first
        | (exact W)
        | (show vp_in _ _; simp (disch := first | omega | decide) only [h1, ne, zcn, zkpl, zki, zki1, zk8, zk16, zo32, zlt0, zle0, zeq0, zgt0, zLe0, nI_ltI, nI_leI, nI_eq, nI_add, nI_clamp, vp_in_nI, zup_s, zup_n, upd_s, upd_n, ne_eq, not_true_eq_false, not_false_eq_true]; done)
        | (intro hc; exfalso; simp (disch := first | omega | decide) only [h1, ne, zcn, zkpl, zki, zki1, zk8, zk16, zo32, zlt0, zle0, zeq0, zgt0, zLe0, nI_ltI, nI_leI, nI_eq, nI_add, nI_clamp, vp_in_nI, zup_s, zup_n, upd_s, upd_n, ne_eq, not_true_eq_false, not_false_eq_true] at hc <;> omega)
        | (intro hc; exact absurd rfl hc)
        | intro hc
        | apply And.intro
        | exact Or.inl rfl
        | exact Or.inr rfl
        | (show (_ : Int32) = 0 ∨ _ = 1; simp (disch := first | omega | decide) only [h1, ne, zcn, zkpl, zki, zki1, zk8, zk16, zo32, zlt0, zle0, zeq0, zgt0, zLe0, nI_ltI, nI_leI, nI_eq, nI_add, nI_clamp, vp_in_nI, zup_s, zup_n, upd_s, upd_n, ne_eq, not_true_eq_false, not_false_eq_true, zeq1, true_or, or_true]; done))
theorem es_child {u : zM} {s : pS} (h : mV u s) (hN : s 0 1 ≤ 75) (hp : ∀ j, 0 < j → j < s 0 1 → s 9 j < j) {x y : Int32} (e k : Nat) (hx : x = nI e) (hy : y = nI k) (he : e < 75) (hk : k ≤ 10) : Ev 172 [.ref 42, .int x, .int y] u (some (.int (oI (chF (s 9) e (s 0 1) 0 k)))) u := by
  subst hx
  subst hy
  intro Q hQ
  have W := cd_loop h hN hp he hk Q (s 0 1) 0 0 (by omega) (by omega) (by rw [Nat.sub_zero]; exact hQ)
  refine zgo 20 [] ?_
  exact W
theorem ch_spec {f : Nat → Nat} {e : Nat} : ∀ (n i k : Nat), (∀ c, chF f e n i k = some c → i ≤ c ∧ c < i + n ∧ c ≠ 0 ∧ f c = e ∧ kc f e c = kc f e i + k) ∧ (chF f e n i k = none → kc f e (i + n) ≤ kc f e i + k) := by
  intro n
  induction n with
  | zero =>
    intro i k
    refine ⟨fun c h => ?_, fun _ => Nat.le_add_right _ _⟩
    rw [chF] at h
    exact absurd h (by simp)
  | succ n ih =>
    intro i k
    rw [chF]
    have hk1 : kc f e (i + 1) = kc f e i + (if i ≠ 0 ∧ f i = e then 1 else 0) := rfl
    by_cases e1 : i ≠ 0 ∧ f i = e
    · rw [if_pos e1] at hk1 ⊢
      by_cases e2 : k = 0
      · rw [if_pos e2]
        refine ⟨fun c h => ?_, fun h => absurd h (by simp)⟩
        obtain rfl : i = c := Option.some.inj h
        exact ⟨Nat.le_refl _, by omega, e1.1, e1.2, by omega⟩
      · rw [if_neg e2]
        obtain ⟨g1, g2⟩ := ih (i + 1) (k - 1)
        refine ⟨fun c h => ?_, fun h => ?_⟩
        · obtain ⟨a1, a2, a3, a4, a5⟩ := g1 c h
          exact ⟨by omega, by omega, a3, a4, by omega⟩
        · have := g2 h
          rw [show i + (n + 1) = i + 1 + n by omega]
          omega
    · rw [if_neg e1] at hk1 ⊢
      obtain ⟨g1, g2⟩ := ih (i + 1) k
      refine ⟨fun c h => ?_, fun h => ?_⟩
      · obtain ⟨a1, a2, a3, a4, a5⟩ := g1 c h
        exact ⟨by omega, by omega, a3, a4, by omega⟩
      · have := g2 h
        rw [show i + (n + 1) = i + 1 + n by omega]
        omega
