/-! the rows of a message, in the class -/
def rl (j i : Nat) : Nat := (zSS.getD j []).getD i 0
def nl (j : Nat) : Nat := (zSS.getD j []).length
theorem cvR_u {s : pS} {k : Nat} {r r' : Int32} (h : cvR s k r) (h' : cvR s k r') : r = r' := by
  unfold cvR at h h'
  dsimp only at h h'
  have am : ∀ {f b l}, amR f b l r → amR f b l r' → r = r' := by
    intro f b l g g'
    rcases g with ⟨v, g1, g2⟩ | ⟨g1, g2⟩
    · rcases g' with ⟨v', g1', g2'⟩ | ⟨g1', g2'⟩
      · rw [g2, g2', AM_u g1 g1']
      · exact absurd ⟨v, g1⟩ g2'
    · rcases g' with ⟨v', g1', g2'⟩ | ⟨g1', g2'⟩
      · exact absurd ⟨v', g1'⟩ g2
      · rw [g1, g1']
  have ot : ∀ {x : Int32} {P : Prop}, ((r = x ∧ P) ∨ (r = -1 ∧ ¬ P)) → ((r' = x ∧ P) ∨ (r' = -1 ∧ ¬ P)) → r = r' := by
    intro x P g g'
    rcases g with ⟨g1, g2⟩ | ⟨g1, g2⟩
    · rcases g' with ⟨g1', g2'⟩ | ⟨g1', g2'⟩
      · rw [g1, g1']
      · exact absurd g2 g2'
    · rcases g' with ⟨g1', g2'⟩ | ⟨g1', g2'⟩
      · exact absurd g2' g2
      · rw [g1, g1']
  rcases h with ⟨a, h⟩ | ⟨a, h⟩ | ⟨a, h⟩ | ⟨a, h⟩ | ⟨a, h⟩
  · rcases h' with ⟨a', h'⟩ | ⟨a', h'⟩ | ⟨a', h'⟩ | ⟨a', h'⟩ | ⟨a', h'⟩
    · exact ot h h'
    all_goals omega
  · rcases h' with ⟨a', h'⟩ | ⟨a', h'⟩ | ⟨a', h'⟩ | ⟨a', h'⟩ | ⟨a', h'⟩
    rotate_left
    · exact ot h h'
    all_goals omega
  · rcases h' with ⟨a', h'⟩ | ⟨a', h'⟩ | ⟨a', h'⟩ | ⟨a', h'⟩ | ⟨a', h'⟩
    rotate_left 2
    · exact ot h h'
    all_goals omega
  · rcases h' with ⟨a', h'⟩ | ⟨a', h'⟩ | ⟨a', h'⟩ | ⟨a', h'⟩ | ⟨a', h'⟩
    rotate_left 3
    · exact ot h h'
    all_goals omega
  · rcases h' with ⟨a', h'⟩ | ⟨a', h'⟩ | ⟨a', h'⟩ | ⟨a', h'⟩ | ⟨a', h'⟩
    rotate_left 4
    · exact am h h'
    all_goals omega
def gV (s : pS) (k : Nat) : Prop := ∃ r, cvR s k r ∧ r ≠ -1
def rwO (s : pS) (p j dep i : Nat) : Prop := p + i < s 0 1 ∧ s 2 (p + i) = rl j i ∧ s 3 (p + i) = dep + 1
def trO (s : pS) (p j dep : Nat) : Prop := (p < s 0 1 ∧ s 2 p = rl j 0 ∧ s 3 p = dep ∧ s 6 p = 0) ∧ ∀ i, 1 ≤ i → i < nl j → rwO s p j dep i ∧ gV s (p + i)
def vF (m m' : zM) : Prop := ∀ a, a ≠ 12 → a ≠ 13 → m' a = m a
theorem ev_isAt {m : zM} {s : pS} {k c d : Nat} (h : tD m s) (hN : s 0 1 ≤ 75) (hk : k < 100) (hc8 : c ≤ 126) (hd8 : d ≤ 10) (hb3 : ∀ i, i < s 0 1 → s 2 i ≤ 122 ∧ s 3 i ≤ 100) {b : Int32} (hb : (b = 1 ∧ (k < s 0 1 ∧ s 2 k = c ∧ s 3 k = d)) ∨ (b = 0 ∧ ¬ (k < s 0 1 ∧ s 2 k = c ∧ s 3 k = d))) : Ev 115 [.ref 1, .int (nI k), .int (nI c), .int (nI d)] m (some (.int b)) m := by
  intro Q hQ
  have h1 := h.1.1
  by_cases e : k < s 0 1
  · have hh := et_has h1 hN hk (b := 1) (Or.inl ⟨rfl, e⟩)
    have e2 := h.2.1.1 k e
    have e3 := h.2.1.2.1 k e
    have b3 := hb3 k e
    have f1 : ZW 115 (0, 0, 0, 0) 5 [(0, .ref 1), (1, .int (nI k)), (2, .int (nI c)), (3, .int (nI d))] [.int 1] (SH, m) Q := by
      by_cases e4 : s 2 k = c
      · by_cases e5 : s 3 k = d
        · obtain rfl : b = 1 := by
            rcases hb with hb | hb
            · exact hb.1
            · exact absurd ⟨e, e4, e5⟩ hb.2
          refine zgo 20 [] ?_
          repeat' (first
            | (show vp_in _ _; simp (disch := first | omega | decide) only [z10, e2, e3, zcn, zkpl, zki, zki1, zk8, zk16, zo32, zlt0, zle0, zeq0, zgt0, zLe0, nI_ltI, nI_leI, nI_eq, nI_add, nI_clamp, vp_in_nI, zup_s, zup_n, upd_s, upd_n, ne_eq, not_true_eq_false, not_false_eq_true]; done)
            | (intro hc; exfalso; simp (disch := first | omega | decide) only [z10, e2, e3, zcn, zkpl, zki, zki1, zk8, zk16, zo32, zlt0, zle0, zeq0, zgt0, zLe0, nI_ltI, nI_leI, nI_eq, nI_add, nI_clamp, vp_in_nI, zup_s, zup_n, upd_s, upd_n, ne_eq, not_true_eq_false, not_false_eq_true] at hc <;> omega)
            | (intro hc; exact absurd rfl hc)
            | intro hc
            | apply And.intro
            | exact hQ
            | (show Q _ (SH, _); simp (disch := first | omega | decide) only [z10, e2, e3, zcn, zkpl, zki, zki1, zk8, zk16, zo32, zlt0, zle0, zeq0, zgt0, zLe0, nI_ltI, nI_leI, nI_eq, nI_add, nI_clamp, vp_in_nI, zup_s, zup_n, upd_s, upd_n, ne_eq, not_true_eq_false, not_false_eq_true]; exact hQ)
            | exact Or.inl rfl
            | exact Or.inr rfl
            | (show (_ : Int32) = 0 ∨ _ = 1; simp (disch := first | omega | decide) only [z10, e2, e3, zcn, zkpl, zki, zki1, zk8, zk16, zo32, zlt0, zle0, zeq0, zgt0, zLe0, nI_ltI, nI_leI, nI_eq, nI_add, nI_clamp, vp_in_nI, zup_s, zup_n, upd_s, upd_n, ne_eq, not_true_eq_false, not_false_eq_true, zeq1, true_or, or_true]; done))
        · obtain rfl : b = 0 := by
            rcases hb with hb | hb
            · exact absurd hb.2.2.2 e5
            · exact hb.1
          refine zgo 20 [] ?_
          repeat' (first
            | (show vp_in _ _; simp (disch := first | omega | decide) only [z10, e2, e3, zcn, zkpl, zki, zki1, zk8, zk16, zo32, zlt0, zle0, zeq0, zgt0, zLe0, nI_ltI, nI_leI, nI_eq, nI_add, nI_clamp, vp_in_nI, zup_s, zup_n, upd_s, upd_n, ne_eq, not_true_eq_false, not_false_eq_true]; done)
            | (intro hc; exfalso; simp (disch := first | omega | decide) only [z10, e2, e3, zcn, zkpl, zki, zki1, zk8, zk16, zo32, zlt0, zle0, zeq0, zgt0, zLe0, nI_ltI, nI_leI, nI_eq, nI_add, nI_clamp, vp_in_nI, zup_s, zup_n, upd_s, upd_n, ne_eq, not_true_eq_false, not_false_eq_true] at hc <;> omega)
            | (intro hc; exact absurd rfl hc)
            | intro hc
            | apply And.intro
            | exact hQ
            | (show Q _ (SH, _); simp (disch := first | omega | decide) only [z10, e2, e3, zcn, zkpl, zki, zki1, zk8, zk16, zo32, zlt0, zle0, zeq0, zgt0, zLe0, nI_ltI, nI_leI, nI_eq, nI_add, nI_clamp, vp_in_nI, zup_s, zup_n, upd_s, upd_n, ne_eq, not_true_eq_false, not_false_eq_true]; exact hQ)
            | exact Or.inl rfl
            | exact Or.inr rfl
            | (show (_ : Int32) = 0 ∨ _ = 1; simp (disch := first | omega | decide) only [z10, e2, e3, zcn, zkpl, zki, zki1, zk8, zk16, zo32, zlt0, zle0, zeq0, zgt0, zLe0, nI_ltI, nI_leI, nI_eq, nI_add, nI_clamp, vp_in_nI, zup_s, zup_n, upd_s, upd_n, ne_eq, not_true_eq_false, not_false_eq_true, zeq1, true_or, or_true]; done))
      · obtain rfl : b = 0 := by
          rcases hb with hb | hb
          · exact absurd hb.2.2.1 e4
          · exact hb.1
        refine zgo 20 [] ?_
        repeat' (first
          | (show vp_in _ _; simp (disch := first | omega | decide) only [z10, e2, e3, zcn, zkpl, zki, zki1, zk8, zk16, zo32, zlt0, zle0, zeq0, zgt0, zLe0, nI_ltI, nI_leI, nI_eq, nI_add, nI_clamp, vp_in_nI, zup_s, zup_n, upd_s, upd_n, ne_eq, not_true_eq_false, not_false_eq_true]; done)
          | (intro hc; exfalso; simp (disch := first | omega | decide) only [z10, e2, e3, zcn, zkpl, zki, zki1, zk8, zk16, zo32, zlt0, zle0, zeq0, zgt0, zLe0, nI_ltI, nI_leI, nI_eq, nI_add, nI_clamp, vp_in_nI, zup_s, zup_n, upd_s, upd_n, ne_eq, not_true_eq_false, not_false_eq_true] at hc <;> omega)
          | (intro hc; exact absurd rfl hc)
          | intro hc
          | apply And.intro
          | exact hQ
          | (show Q _ (SH, _); simp (disch := first | omega | decide) only [z10, e2, e3, zcn, zkpl, zki, zki1, zk8, zk16, zo32, zlt0, zle0, zeq0, zgt0, zLe0, nI_ltI, nI_leI, nI_eq, nI_add, nI_clamp, vp_in_nI, zup_s, zup_n, upd_s, upd_n, ne_eq, not_true_eq_false, not_false_eq_true]; exact hQ)
          | exact Or.inl rfl
          | exact Or.inr rfl
          | (show (_ : Int32) = 0 ∨ _ = 1; simp (disch := first | omega | decide) only [z10, e2, e3, zcn, zkpl, zki, zki1, zk8, zk16, zo32, zlt0, zle0, zeq0, zgt0, zLe0, nI_ltI, nI_leI, nI_eq, nI_add, nI_clamp, vp_in_nI, zup_s, zup_n, upd_s, upd_n, ne_eq, not_true_eq_false, not_false_eq_true, zeq1, true_or, or_true]; done))
    refine zgo 20 [] ?_
    repeat' (first
      | (exact hh.use f1)
      | (show vp_in _ _; simp (disch := first | omega | decide) only [zcn, zkpl, zki, zki1, zk8, zk16, zo32, zlt0, zle0, zeq0, zgt0, zLe0, nI_ltI, nI_leI, nI_eq, nI_add, nI_clamp, vp_in_nI, zup_s, zup_n, upd_s, upd_n, ne_eq, not_true_eq_false, not_false_eq_true]; done)
      | (intro hc; exfalso; simp (disch := first | omega | decide) only [zcn, zkpl, zki, zki1, zk8, zk16, zo32, zlt0, zle0, zeq0, zgt0, zLe0, nI_ltI, nI_leI, nI_eq, nI_add, nI_clamp, vp_in_nI, zup_s, zup_n, upd_s, upd_n, ne_eq, not_true_eq_false, not_false_eq_true] at hc <;> omega)
      | (intro hc; exact absurd rfl hc)
      | intro hc
      | apply And.intro
      | exact Or.inl rfl
      | exact Or.inr rfl
      | (show (_ : Int32) = 0 ∨ _ = 1; simp (disch := first | omega | decide) only [zcn, zkpl, zki, zki1, zk8, zk16, zo32, zlt0, zle0, zeq0, zgt0, zLe0, nI_ltI, nI_leI, nI_eq, nI_add, nI_clamp, vp_in_nI, zup_s, zup_n, upd_s, upd_n, ne_eq, not_true_eq_false, not_false_eq_true, zeq1, true_or, or_true]; done))
  · have hh := et_has h1 hN hk (b := 0) (Or.inr ⟨rfl, e⟩)
    obtain rfl : b = 0 := by
      rcases hb with hb | hb
      · exact absurd hb.2.1 e
      · exact hb.1
    have f1 : ZW 115 (0, 0, 0, 0) 5 [(0, .ref 1), (1, .int (nI k)), (2, .int (nI c)), (3, .int (nI d))] [.int 0] (SH, m) Q := by
      refine zgo 20 [] ?_
      repeat' (first
        | (show vp_in _ _; simp (disch := first | omega | decide) only [z10, zcn, zkpl, zki, zki1, zk8, zk16, zo32, zlt0, zle0, zeq0, zgt0, zLe0, nI_ltI, nI_leI, nI_eq, nI_add, nI_clamp, vp_in_nI, zup_s, zup_n, upd_s, upd_n, ne_eq, not_true_eq_false, not_false_eq_true]; done)
        | (intro hc; exfalso; simp (disch := first | omega | decide) only [z10, zcn, zkpl, zki, zki1, zk8, zk16, zo32, zlt0, zle0, zeq0, zgt0, zLe0, nI_ltI, nI_leI, nI_eq, nI_add, nI_clamp, vp_in_nI, zup_s, zup_n, upd_s, upd_n, ne_eq, not_true_eq_false, not_false_eq_true] at hc <;> omega)
        | (intro hc; exact absurd rfl hc)
        | intro hc
        | apply And.intro
        | exact hQ
        | (show Q _ (SH, _); simp (disch := first | omega | decide) only [z10, zcn, zkpl, zki, zki1, zk8, zk16, zo32, zlt0, zle0, zeq0, zgt0, zLe0, nI_ltI, nI_leI, nI_eq, nI_add, nI_clamp, vp_in_nI, zup_s, zup_n, upd_s, upd_n, ne_eq, not_true_eq_false, not_false_eq_true]; exact hQ)
        | exact Or.inl rfl
        | exact Or.inr rfl
        | (show (_ : Int32) = 0 ∨ _ = 1; simp (disch := first | omega | decide) only [z10, zcn, zkpl, zki, zki1, zk8, zk16, zo32, zlt0, zle0, zeq0, zgt0, zLe0, nI_ltI, nI_leI, nI_eq, nI_add, nI_clamp, vp_in_nI, zup_s, zup_n, upd_s, upd_n, ne_eq, not_true_eq_false, not_false_eq_true, zeq1, true_or, or_true]; done))
    refine zgo 20 [] ?_
    repeat' (first
      | (exact hh.use f1)
      | (show vp_in _ _; simp (disch := first | omega | decide) only [zcn, zkpl, zki, zki1, zk8, zk16, zo32, zlt0, zle0, zeq0, zgt0, zLe0, nI_ltI, nI_leI, nI_eq, nI_add, nI_clamp, vp_in_nI, zup_s, zup_n, upd_s, upd_n, ne_eq, not_true_eq_false, not_false_eq_true]; done)
      | (intro hc; exfalso; simp (disch := first | omega | decide) only [zcn, zkpl, zki, zki1, zk8, zk16, zo32, zlt0, zle0, zeq0, zgt0, zLe0, nI_ltI, nI_leI, nI_eq, nI_add, nI_clamp, vp_in_nI, zup_s, zup_n, upd_s, upd_n, ne_eq, not_true_eq_false, not_false_eq_true] at hc <;> omega)
      | (intro hc; exact absurd rfl hc)
      | intro hc
      | apply And.intro
      | exact Or.inl rfl
      | exact Or.inr rfl
      | (show (_ : Int32) = 0 ∨ _ = 1; simp (disch := first | omega | decide) only [zcn, zkpl, zki, zki1, zk8, zk16, zo32, zlt0, zle0, zeq0, zgt0, zLe0, nI_ltI, nI_leI, nI_eq, nI_add, nI_clamp, vp_in_nI, zup_s, zup_n, upd_s, upd_n, ne_eq, not_true_eq_false, not_false_eq_true, zeq1, true_or, or_true]; done))
theorem ev_blanks {m : zM} {s : pS} {k : Nat} (h : tD m s) (hN : s 0 1 ≤ 75) (hk : k < s 0 1) (h6 : s 6 k ≤ 1) {b : Int32} (hb : (b = 1 ∧ s 6 k = 0) ∨ (b = 0 ∧ ¬ s 6 k = 0)) : Ev 117 [.ref 1, .int (nI k)] m (some (.int b)) m := by
  intro Q hQ
  have h1 := h.1.1
  have hh := et_has h1 hN (by omega) (b := 1) (Or.inl ⟨rfl, hk⟩)
  have e6 := h.2.1.2.2.2.2 k hk
  have f1 : ZW 117 (0, 0, 0, 0) 5 [(0, .ref 1), (1, .int (nI k))] [.int 1] (SH, m) Q := by
    rcases hb with ⟨rfl, hb⟩ | ⟨rfl, hb⟩
    · rw [hb] at e6
      refine zgo 20 [] ?_
      repeat' (first
        | (show vp_in _ _; simp (disch := first | omega | decide) only [z10, e6, zcn, zkpl, zki, zki1, zk8, zk16, zo32, zlt0, zle0, zeq0, zgt0, zLe0, nI_ltI, nI_leI, nI_eq, nI_add, nI_clamp, vp_in_nI, zup_s, zup_n, upd_s, upd_n, ne_eq, not_true_eq_false, not_false_eq_true]; done)
        | (intro hc; exfalso; simp (disch := first | omega | decide) only [z10, e6, zcn, zkpl, zki, zki1, zk8, zk16, zo32, zlt0, zle0, zeq0, zgt0, zLe0, nI_ltI, nI_leI, nI_eq, nI_add, nI_clamp, vp_in_nI, zup_s, zup_n, upd_s, upd_n, ne_eq, not_true_eq_false, not_false_eq_true] at hc <;> omega)
        | (intro hc; exact absurd rfl hc)
        | intro hc
        | apply And.intro
        | exact hQ
        | (show Q _ (SH, _); simp (disch := first | omega | decide) only [z10, e6, zcn, zkpl, zki, zki1, zk8, zk16, zo32, zlt0, zle0, zeq0, zgt0, zLe0, nI_ltI, nI_leI, nI_eq, nI_add, nI_clamp, vp_in_nI, zup_s, zup_n, upd_s, upd_n, ne_eq, not_true_eq_false, not_false_eq_true]; exact hQ)
        | exact Or.inl rfl
        | exact Or.inr rfl
        | (show (_ : Int32) = 0 ∨ _ = 1; simp (disch := first | omega | decide) only [z10, e6, zcn, zkpl, zki, zki1, zk8, zk16, zo32, zlt0, zle0, zeq0, zgt0, zLe0, nI_ltI, nI_leI, nI_eq, nI_add, nI_clamp, vp_in_nI, zup_s, zup_n, upd_s, upd_n, ne_eq, not_true_eq_false, not_false_eq_true, zeq1, true_or, or_true]; done))
    · rw [show s 6 k = 1 by omega] at e6
      refine zgo 20 [] ?_
      repeat' (first
        | (show vp_in _ _; simp (disch := first | omega | decide) only [z10, e6, zcn, zkpl, zki, zki1, zk8, zk16, zo32, zlt0, zle0, zeq0, zgt0, zLe0, nI_ltI, nI_leI, nI_eq, nI_add, nI_clamp, vp_in_nI, zup_s, zup_n, upd_s, upd_n, ne_eq, not_true_eq_false, not_false_eq_true]; done)
        | (intro hc; exfalso; simp (disch := first | omega | decide) only [z10, e6, zcn, zkpl, zki, zki1, zk8, zk16, zo32, zlt0, zle0, zeq0, zgt0, zLe0, nI_ltI, nI_leI, nI_eq, nI_add, nI_clamp, vp_in_nI, zup_s, zup_n, upd_s, upd_n, ne_eq, not_true_eq_false, not_false_eq_true] at hc <;> omega)
        | (intro hc; exact absurd rfl hc)
        | intro hc
        | apply And.intro
        | exact hQ
        | (show Q _ (SH, _); simp (disch := first | omega | decide) only [z10, e6, zcn, zkpl, zki, zki1, zk8, zk16, zo32, zlt0, zle0, zeq0, zgt0, zLe0, nI_ltI, nI_leI, nI_eq, nI_add, nI_clamp, vp_in_nI, zup_s, zup_n, upd_s, upd_n, ne_eq, not_true_eq_false, not_false_eq_true]; exact hQ)
        | exact Or.inl rfl
        | exact Or.inr rfl
        | (show (_ : Int32) = 0 ∨ _ = 1; simp (disch := first | omega | decide) only [z10, e6, zcn, zkpl, zki, zki1, zk8, zk16, zo32, zlt0, zle0, zeq0, zgt0, zLe0, nI_ltI, nI_leI, nI_eq, nI_add, nI_clamp, vp_in_nI, zup_s, zup_n, upd_s, upd_n, ne_eq, not_true_eq_false, not_false_eq_true, zeq1, true_or, or_true]; done))
  refine zgo 20 [] ?_
  repeat' (first
    | (exact hh.use f1)
    | (show vp_in _ _; simp (disch := first | omega | decide) only [zcn, zkpl, zki, zki1, zk8, zk16, zo32, zlt0, zle0, zeq0, zgt0, zLe0, nI_ltI, nI_leI, nI_eq, nI_add, nI_clamp, vp_in_nI, zup_s, zup_n, upd_s, upd_n, ne_eq, not_true_eq_false, not_false_eq_true]; done)
    | (intro hc; exfalso; simp (disch := first | omega | decide) only [zcn, zkpl, zki, zki1, zk8, zk16, zo32, zlt0, zle0, zeq0, zgt0, zLe0, nI_ltI, nI_leI, nI_eq, nI_add, nI_clamp, vp_in_nI, zup_s, zup_n, upd_s, upd_n, ne_eq, not_true_eq_false, not_false_eq_true] at hc <;> omega)
    | (intro hc; exact absurd rfl hc)
    | intro hc
    | apply And.intro
    | exact Or.inl rfl
    | exact Or.inr rfl
    | (show (_ : Int32) = 0 ∨ _ = 1; simp (disch := first | omega | decide) only [zcn, zkpl, zki, zki1, zk8, zk16, zo32, zlt0, zle0, zeq0, zgt0, zLe0, nI_ltI, nI_leI, nI_eq, nI_add, nI_clamp, vp_in_nI, zup_s, zup_n, upd_s, upd_n, ne_eq, not_true_eq_false, not_false_eq_true, zeq1, true_or, or_true]; done))
theorem m1n {r : Int32} (h : r ≠ -1) : (r = -1) = False := eq_false h
/-- what the document's state gives to a row -/
def rdy (s : pS) : Prop := okC8 s ∧ s 0 1 ≤ 75 ∧ ∀ i, i < s 0 1 → s 2 i ≤ 122 ∧ s 3 i ≤ 100 ∧ (s 4 i ≤ s 5 i ∧ s 5 i ≤ s 0 2) ∧ s 6 i ≤ 1
def twL (p i : Nat) (T R : zLs) : Prop := R = (4, .int (nI i)) :: T ∨ ∃ x y, R = (4, .int (nI i)) :: (6, .int x) :: (5, .int y) :: T
theorem tw_loop0 {s : pS} (hr : rdy s) {p dep : Nat} (hp : p + 4 ≤ 19) (hdp : dep ≤ 3) (Q : zQ) : ∀ (n i : Nat) (m : zM) (R : zLs), 1 ≤ i → i + n = 4 → tD m s → twL p i [(0, .ref 11), (1, .int (nI p)), (2, .ref 1000010), (3, .int (nI dep))] R → (∀ m', vF m m' → (∀ k, k < p + i → m' 13 k = m 13 k) → (∀ i', i ≤ i' → i' < 4 → rwO s p 0 dep i' ∧ cvR s (p + i') (m' 13 (p + i')) ∧ m' 13 (p + i') ≠ -1) → Q (some (.int 1)) (SH, m')) → (∀ m' i', vF m m' → i ≤ i' → i' < 4 → ¬ (rwO s p 0 dep i' ∧ gV s (p + i')) → Q (some (.int 0)) (SH, m')) → ZW 33 (0, 0, 0, 0) 40 R [] (SH, m) Q := by
  obtain ⟨hs, hN, hb3⟩ := hr
  intro n
  induction n with
  | zero =>
    intro i m R h1 hi hD hR hQ1 _
    have hQ := hQ1 m (fun _ _ _ => rfl) (fun _ _ => rfl) (fun i' g1 g2 => by omega)
    obtain rfl : i = 4 := by omega
    rcases hR with rfl | ⟨x, y, rfl⟩
    · refine zgo 20 [] ?_
      repeat' (first
        | (show vp_in _ _; simp (disch := first | omega | decide) only [zcn, zkpl, zki, zki1, zk8, zk16, zo32, zlt0, zle0, zeq0, zgt0, zLe0, nI_ltI, nI_leI, nI_eq, nI_add, nI_clamp, vp_in_nI, zup_s, zup_n, upd_s, upd_n, ne_eq, not_true_eq_false, not_false_eq_true]; done)
        | (intro hc; exfalso; simp (disch := first | omega | decide) only [zcn, zkpl, zki, zki1, zk8, zk16, zo32, zlt0, zle0, zeq0, zgt0, zLe0, nI_ltI, nI_leI, nI_eq, nI_add, nI_clamp, vp_in_nI, zup_s, zup_n, upd_s, upd_n, ne_eq, not_true_eq_false, not_false_eq_true] at hc <;> omega)
        | (intro hc; exact absurd rfl hc)
        | intro hc
        | apply And.intro
        | exact hQ
        | (show Q _ (SH, _); simp (disch := first | omega | decide) only [zcn, zkpl, zki, zki1, zk8, zk16, zo32, zlt0, zle0, zeq0, zgt0, zLe0, nI_ltI, nI_leI, nI_eq, nI_add, nI_clamp, vp_in_nI, zup_s, zup_n, upd_s, upd_n, ne_eq, not_true_eq_false, not_false_eq_true]; exact hQ)
        | exact Or.inl rfl
        | exact Or.inr rfl
        | (show (_ : Int32) = 0 ∨ _ = 1; simp (disch := first | omega | decide) only [zcn, zkpl, zki, zki1, zk8, zk16, zo32, zlt0, zle0, zeq0, zgt0, zLe0, nI_ltI, nI_leI, nI_eq, nI_add, nI_clamp, vp_in_nI, zup_s, zup_n, upd_s, upd_n, ne_eq, not_true_eq_false, not_false_eq_true, zeq1, true_or, or_true]; done))
    · refine zgo 20 [] ?_
      repeat' (first
        | (show vp_in _ _; simp (disch := first | omega | decide) only [zcn, zkpl, zki, zki1, zk8, zk16, zo32, zlt0, zle0, zeq0, zgt0, zLe0, nI_ltI, nI_leI, nI_eq, nI_add, nI_clamp, vp_in_nI, zup_s, zup_n, upd_s, upd_n, ne_eq, not_true_eq_false, not_false_eq_true]; done)
        | (intro hc; exfalso; simp (disch := first | omega | decide) only [zcn, zkpl, zki, zki1, zk8, zk16, zo32, zlt0, zle0, zeq0, zgt0, zLe0, nI_ltI, nI_leI, nI_eq, nI_add, nI_clamp, vp_in_nI, zup_s, zup_n, upd_s, upd_n, ne_eq, not_true_eq_false, not_false_eq_true] at hc <;> omega)
        | (intro hc; exact absurd rfl hc)
        | intro hc
        | apply And.intro
        | exact hQ
        | (show Q _ (SH, _); simp (disch := first | omega | decide) only [zcn, zkpl, zki, zki1, zk8, zk16, zo32, zlt0, zle0, zeq0, zgt0, zLe0, nI_ltI, nI_leI, nI_eq, nI_add, nI_clamp, vp_in_nI, zup_s, zup_n, upd_s, upd_n, ne_eq, not_true_eq_false, not_false_eq_true]; exact hQ)
        | exact Or.inl rfl
        | exact Or.inr rfl
        | (show (_ : Int32) = 0 ∨ _ = 1; simp (disch := first | omega | decide) only [zcn, zkpl, zki, zki1, zk8, zk16, zo32, zlt0, zle0, zeq0, zgt0, zLe0, nI_ltI, nI_leI, nI_eq, nI_add, nI_clamp, vp_in_nI, zup_s, zup_n, upd_s, upd_n, ne_eq, not_true_eq_false, not_false_eq_true, zeq1, true_or, or_true]; done))
  | succ n ih =>
    intro i m R h1 hi hD hR hQ1 hQ2
    have e5 : nI p + nI i = nI (p + i) := nI_add p i
    have hln : (zSS.getD (1000010 - 1000010) []).length = 4 := rfl
    have ec : zSc 1000010 (nI i).toNatClampNeg = nI (rl 0 i) := by
      rw [nI_clamp (by omega)]
      rfl
    have hrl : rl 0 i ≤ 126 ∧ (rl 0 i = 73 ∨ rl 0 i = 69 ∨ rl 0 i = 79 ∨ rl 0 i = 78 ∨ rl 0 i = 68 ∨ rl 0 i = 67 ∨ rl 0 i = 86 ∨ rl 0 i = 83 ∨ rl 0 i = 65) := by
      rcases (show i = 1 ∨ i = 2 ∨ i = 3 by omega) with rfl | rfl | rfl <;> decide
    have e1 : nI dep + Int32.ofInt 1 = nI (dep + 1) := by rw [zki, nI_add]
    have f55 : ∀ T, (T = [(0, .ref 11), (1, .int (nI p)), (2, .ref 1000010), (3, .int (nI dep))] ∨ ∃ x, T = (6, .int x) :: [(0, .ref 11), (1, .int (nI p)), (2, .ref 1000010), (3, .int (nI dep))]) → ZW 33 (0, 0, 0, 0) 55 ((5, .int (nI (p + i))) :: (4, .int (nI i)) :: T) [] (SH, m) Q := by
      by_cases e : rwO s p 0 dep i
      · have hat := ev_isAt (k := p + i) (c := rl 0 i) (d := dep + 1) hD hN (by omega) hrl.1 (by omega) (fun i hi => ⟨(hb3 i hi).1, (hb3 i hi).2.1⟩) (b := 1) (Or.inl ⟨rfl, e⟩)
        rw [← ec, ← e1] at hat
        have e' := e
        obtain ⟨g1, g2, g3⟩ := e'
        have hread := ev_read hD hs hN g1 (hb3 _ g1).2.2.1 (by rw [g2]; exact hrl.2)
        have f89 : ∀ r, cvR s (p + i) r → ZW 33 (0, 0, 0, 0) 85 [(5, .int (nI (p + i))), (4, .int (nI i)), (0, .ref 11), (1, .int (nI p)), (2, .ref 1000010), (3, .int (nI dep))] [.int r] (SH, cvm m (tb s (p + i)) (te s (p + i) - tb s (p + i))) Q := by
          intro r hcv
          have hF : vF m (cvm m (tb s (p + i)) (te s (p + i) - tb s (p + i))) := fun b hb1 hb2 => by
            unfold cvm
            rw [zup_n _ hb1, zup_n _ hb1]
          have h13 : cvm m (tb s (p + i)) (te s (p + i) - tb s (p + i)) 13 = m 13 := rfl
          generalize cvm m (tb s (p + i)) (te s (p + i) - tb s (p + i)) = m1 at *
          by_cases er : r = -1
          · subst er
            have hQ := hQ2 m1 i hF (Nat.le_refl i) (by omega) (fun g => by
              obtain ⟨r, g1, g2⟩ := g.2
              exact g2 (cvR_u g1 hcv))
            refine zgo 20 [] ?_
            repeat' (first
              | (show vp_in _ _; simp (disch := first | omega | decide) only [m11, zcn, zkpl, zki, zki1, zk8, zk16, zo32, zlt0, zle0, zeq0, zgt0, zLe0, nI_ltI, nI_leI, nI_eq, nI_add, nI_clamp, vp_in_nI, zup_s, zup_n, upd_s, upd_n, ne_eq, not_true_eq_false, not_false_eq_true]; done)
              | (intro hc; exfalso; simp (disch := first | omega | decide) only [m11, zcn, zkpl, zki, zki1, zk8, zk16, zo32, zlt0, zle0, zeq0, zgt0, zLe0, nI_ltI, nI_leI, nI_eq, nI_add, nI_clamp, vp_in_nI, zup_s, zup_n, upd_s, upd_n, ne_eq, not_true_eq_false, not_false_eq_true] at hc <;> omega)
              | (intro hc; exact absurd rfl hc)
              | intro hc
              | apply And.intro
              | exact hQ
              | (show Q _ (SH, _); simp (disch := first | omega | decide) only [m11, zcn, zkpl, zki, zki1, zk8, zk16, zo32, zlt0, zle0, zeq0, zgt0, zLe0, nI_ltI, nI_leI, nI_eq, nI_add, nI_clamp, vp_in_nI, zup_s, zup_n, upd_s, upd_n, ne_eq, not_true_eq_false, not_false_eq_true]; exact hQ)
              | exact Or.inl rfl
              | exact Or.inr rfl
              | (show (_ : Int32) = 0 ∨ _ = 1; simp (disch := first | omega | decide) only [m11, zcn, zkpl, zki, zki1, zk8, zk16, zo32, zlt0, zle0, zeq0, zgt0, zLe0, nI_ltI, nI_leI, nI_eq, nI_add, nI_clamp, vp_in_nI, zup_s, zup_n, upd_s, upd_n, ne_eq, not_true_eq_false, not_false_eq_true, zeq1, true_or, or_true]; done))
          · have er' := m1n er
            have e3 : nI i + Int32.ofInt 1 = nI (i + 1) := by rw [zki, nI_add]
            have W := ih (i + 1) (zup m1 13 (p + i) r) ((4, .int (nI (i + 1))) :: (6, .int r) :: (5, .int (nI (p + i))) :: [(0, .ref 11), (1, .int (nI p)), (2, .ref 1000010), (3, .int (nI dep))]) (by omega) (by omega) (hD.cg (fun a ha => by rw [zup_n _ (by omega), hF a (by omega) (by omega)])) (Or.inr ⟨_, _, rfl⟩) (fun m' w1 w2 w3 => hQ1 m' (fun a ha hb => by rw [w1 a ha hb, zup_n _ hb, hF a ha hb]) (fun k hk => by rw [w2 k (by omega), zup_s, upd_n _ (by omega), h13]) (fun i' q1 q2 => by
              by_cases e4 : i' = i
              · subst e4
                have : m' 13 (p + i') = r := by rw [w2 (p + i') (by omega), zup_s, upd_s]
                rw [this]
                exact ⟨e, hcv, er⟩
              · exact w3 i' (by omega) q2)) (fun m' i' w1 w2 w3 w4 => hQ2 m' i' (fun a ha hb => by rw [w1 a ha hb, zup_n _ hb, hF a ha hb]) (by omega) w3 w4)
            rw [← e3] at W
            refine zgo 30 [] ?_
            repeat' (first
              | (exact zcg (by simp (disch := first | omega | decide) only [zcn, zkpl, zki, zki1, zk8, zk16, zo32, zlt0, zle0, zeq0, zgt0, zLe0, nI_ltI, nI_leI, nI_eq, nI_add, nI_clamp, vp_in_nI, zup_s, zup_n, upd_s, upd_n, ne_eq, not_true_eq_false, not_false_eq_true]) W)
              | (show vp_in _ _; simp (disch := first | omega | decide) only [er', zcn, zkpl, zki, zki1, zk8, zk16, zo32, zlt0, zle0, zeq0, zgt0, zLe0, nI_ltI, nI_leI, nI_eq, nI_add, nI_clamp, vp_in_nI, zup_s, zup_n, upd_s, upd_n, ne_eq, not_true_eq_false, not_false_eq_true]; done)
              | (intro hc; exfalso; simp (disch := first | omega | decide) only [er', zcn, zkpl, zki, zki1, zk8, zk16, zo32, zlt0, zle0, zeq0, zgt0, zLe0, nI_ltI, nI_leI, nI_eq, nI_add, nI_clamp, vp_in_nI, zup_s, zup_n, upd_s, upd_n, ne_eq, not_true_eq_false, not_false_eq_true] at hc <;> omega)
              | (intro hc; exact absurd rfl hc)
              | intro hc
              | apply And.intro
              | exact Or.inl rfl
              | exact Or.inr rfl
              | (show (_ : Int32) = 0 ∨ _ = 1; simp (disch := first | omega | decide) only [er', zcn, zkpl, zki, zki1, zk8, zk16, zo32, zlt0, zle0, zeq0, zgt0, zLe0, nI_ltI, nI_leI, nI_eq, nI_add, nI_clamp, vp_in_nI, zup_s, zup_n, upd_s, upd_n, ne_eq, not_true_eq_false, not_false_eq_true, zeq1, true_or, or_true]; done))
        have f73 : ZW 33 (0, 0, 0, 0) 73 [(5, .int (nI (p + i))), (4, .int (nI i)), (0, .ref 11), (1, .int (nI p)), (2, .ref 1000010), (3, .int (nI dep))] [.int 1] (SH, m) Q := by
          refine zgo 10 [] ?_
          repeat' (first
            | (exact hread _ (fun r hr => f89 r hr))
            | (show vp_in _ _; simp (disch := first | omega | decide) only [z10, zcn, zkpl, zki, zki1, zk8, zk16, zo32, zlt0, zle0, zeq0, zgt0, zLe0, nI_ltI, nI_leI, nI_eq, nI_add, nI_clamp, vp_in_nI, zup_s, zup_n, upd_s, upd_n, ne_eq, not_true_eq_false, not_false_eq_true]; done)
            | (intro hc; exfalso; simp (disch := first | omega | decide) only [z10, zcn, zkpl, zki, zki1, zk8, zk16, zo32, zlt0, zle0, zeq0, zgt0, zLe0, nI_ltI, nI_leI, nI_eq, nI_add, nI_clamp, vp_in_nI, zup_s, zup_n, upd_s, upd_n, ne_eq, not_true_eq_false, not_false_eq_true] at hc <;> omega)
            | (intro hc; exact absurd rfl hc)
            | intro hc
            | apply And.intro
            | exact Or.inl rfl
            | exact Or.inr rfl
            | (show (_ : Int32) = 0 ∨ _ = 1; simp (disch := first | omega | decide) only [z10, zcn, zkpl, zki, zki1, zk8, zk16, zo32, zlt0, zle0, zeq0, zgt0, zLe0, nI_ltI, nI_leI, nI_eq, nI_add, nI_clamp, vp_in_nI, zup_s, zup_n, upd_s, upd_n, ne_eq, not_true_eq_false, not_false_eq_true, zeq1, true_or, or_true]; done))
        have f89x : ∀ x r, cvR s (p + i) r → ZW 33 (0, 0, 0, 0) 85 [(5, .int (nI (p + i))), (4, .int (nI i)), (6, .int x), (0, .ref 11), (1, .int (nI p)), (2, .ref 1000010), (3, .int (nI dep))] [.int r] (SH, cvm m (tb s (p + i)) (te s (p + i) - tb s (p + i))) Q := by
          intro x r hcv
          have hF : vF m (cvm m (tb s (p + i)) (te s (p + i) - tb s (p + i))) := fun b hb1 hb2 => by
            unfold cvm
            rw [zup_n _ hb1, zup_n _ hb1]
          have h13 : cvm m (tb s (p + i)) (te s (p + i) - tb s (p + i)) 13 = m 13 := rfl
          generalize cvm m (tb s (p + i)) (te s (p + i) - tb s (p + i)) = m1 at *
          by_cases er : r = -1
          · subst er
            have hQ := hQ2 m1 i hF (Nat.le_refl i) (by omega) (fun g => by
              obtain ⟨r, g1, g2⟩ := g.2
              exact g2 (cvR_u g1 hcv))
            refine zgo 20 [] ?_
            repeat' (first
              | (show vp_in _ _; simp (disch := first | omega | decide) only [m11, zcn, zkpl, zki, zki1, zk8, zk16, zo32, zlt0, zle0, zeq0, zgt0, zLe0, nI_ltI, nI_leI, nI_eq, nI_add, nI_clamp, vp_in_nI, zup_s, zup_n, upd_s, upd_n, ne_eq, not_true_eq_false, not_false_eq_true]; done)
              | (intro hc; exfalso; simp (disch := first | omega | decide) only [m11, zcn, zkpl, zki, zki1, zk8, zk16, zo32, zlt0, zle0, zeq0, zgt0, zLe0, nI_ltI, nI_leI, nI_eq, nI_add, nI_clamp, vp_in_nI, zup_s, zup_n, upd_s, upd_n, ne_eq, not_true_eq_false, not_false_eq_true] at hc <;> omega)
              | (intro hc; exact absurd rfl hc)
              | intro hc
              | apply And.intro
              | exact hQ
              | (show Q _ (SH, _); simp (disch := first | omega | decide) only [m11, zcn, zkpl, zki, zki1, zk8, zk16, zo32, zlt0, zle0, zeq0, zgt0, zLe0, nI_ltI, nI_leI, nI_eq, nI_add, nI_clamp, vp_in_nI, zup_s, zup_n, upd_s, upd_n, ne_eq, not_true_eq_false, not_false_eq_true]; exact hQ)
              | exact Or.inl rfl
              | exact Or.inr rfl
              | (show (_ : Int32) = 0 ∨ _ = 1; simp (disch := first | omega | decide) only [m11, zcn, zkpl, zki, zki1, zk8, zk16, zo32, zlt0, zle0, zeq0, zgt0, zLe0, nI_ltI, nI_leI, nI_eq, nI_add, nI_clamp, vp_in_nI, zup_s, zup_n, upd_s, upd_n, ne_eq, not_true_eq_false, not_false_eq_true, zeq1, true_or, or_true]; done))
          · have er' := m1n er
            have e3 : nI i + Int32.ofInt 1 = nI (i + 1) := by rw [zki, nI_add]
            have W := ih (i + 1) (zup m1 13 (p + i) r) ((4, .int (nI (i + 1))) :: (6, .int r) :: (5, .int (nI (p + i))) :: [(0, .ref 11), (1, .int (nI p)), (2, .ref 1000010), (3, .int (nI dep))]) (by omega) (by omega) (hD.cg (fun a ha => by rw [zup_n _ (by omega), hF a (by omega) (by omega)])) (Or.inr ⟨_, _, rfl⟩) (fun m' w1 w2 w3 => hQ1 m' (fun a ha hb => by rw [w1 a ha hb, zup_n _ hb, hF a ha hb]) (fun k hk => by rw [w2 k (by omega), zup_s, upd_n _ (by omega), h13]) (fun i' q1 q2 => by
              by_cases e4 : i' = i
              · subst e4
                have : m' 13 (p + i') = r := by rw [w2 (p + i') (by omega), zup_s, upd_s]
                rw [this]
                exact ⟨e, hcv, er⟩
              · exact w3 i' (by omega) q2)) (fun m' i' w1 w2 w3 w4 => hQ2 m' i' (fun a ha hb => by rw [w1 a ha hb, zup_n _ hb, hF a ha hb]) (by omega) w3 w4)
            rw [← e3] at W
            refine zgo 30 [] ?_
            repeat' (first
              | (exact zcg (by simp (disch := first | omega | decide) only [zcn, zkpl, zki, zki1, zk8, zk16, zo32, zlt0, zle0, zeq0, zgt0, zLe0, nI_ltI, nI_leI, nI_eq, nI_add, nI_clamp, vp_in_nI, zup_s, zup_n, upd_s, upd_n, ne_eq, not_true_eq_false, not_false_eq_true]) W)
              | (show vp_in _ _; simp (disch := first | omega | decide) only [er', zcn, zkpl, zki, zki1, zk8, zk16, zo32, zlt0, zle0, zeq0, zgt0, zLe0, nI_ltI, nI_leI, nI_eq, nI_add, nI_clamp, vp_in_nI, zup_s, zup_n, upd_s, upd_n, ne_eq, not_true_eq_false, not_false_eq_true]; done)
              | (intro hc; exfalso; simp (disch := first | omega | decide) only [er', zcn, zkpl, zki, zki1, zk8, zk16, zo32, zlt0, zle0, zeq0, zgt0, zLe0, nI_ltI, nI_leI, nI_eq, nI_add, nI_clamp, vp_in_nI, zup_s, zup_n, upd_s, upd_n, ne_eq, not_true_eq_false, not_false_eq_true] at hc <;> omega)
              | (intro hc; exact absurd rfl hc)
              | intro hc
              | apply And.intro
              | exact Or.inl rfl
              | exact Or.inr rfl
              | (show (_ : Int32) = 0 ∨ _ = 1; simp (disch := first | omega | decide) only [er', zcn, zkpl, zki, zki1, zk8, zk16, zo32, zlt0, zle0, zeq0, zgt0, zLe0, nI_ltI, nI_leI, nI_eq, nI_add, nI_clamp, vp_in_nI, zup_s, zup_n, upd_s, upd_n, ne_eq, not_true_eq_false, not_false_eq_true, zeq1, true_or, or_true]; done))
        have f73x : ∀ x, ZW 33 (0, 0, 0, 0) 73 [(5, .int (nI (p + i))), (4, .int (nI i)), (6, .int x), (0, .ref 11), (1, .int (nI p)), (2, .ref 1000010), (3, .int (nI dep))] [.int 1] (SH, m) Q := by
          intro x
          refine zgo 10 [] ?_
          repeat' (first
            | (exact hread _ (fun r hr => f89x x r hr))
            | (show vp_in _ _; simp (disch := first | omega | decide) only [z10, zcn, zkpl, zki, zki1, zk8, zk16, zo32, zlt0, zle0, zeq0, zgt0, zLe0, nI_ltI, nI_leI, nI_eq, nI_add, nI_clamp, vp_in_nI, zup_s, zup_n, upd_s, upd_n, ne_eq, not_true_eq_false, not_false_eq_true]; done)
            | (intro hc; exfalso; simp (disch := first | omega | decide) only [z10, zcn, zkpl, zki, zki1, zk8, zk16, zo32, zlt0, zle0, zeq0, zgt0, zLe0, nI_ltI, nI_leI, nI_eq, nI_add, nI_clamp, vp_in_nI, zup_s, zup_n, upd_s, upd_n, ne_eq, not_true_eq_false, not_false_eq_true] at hc <;> omega)
            | (intro hc; exact absurd rfl hc)
            | intro hc
            | apply And.intro
            | exact Or.inl rfl
            | exact Or.inr rfl
            | (show (_ : Int32) = 0 ∨ _ = 1; simp (disch := first | omega | decide) only [z10, zcn, zkpl, zki, zki1, zk8, zk16, zo32, zlt0, zle0, zeq0, zgt0, zLe0, nI_ltI, nI_leI, nI_eq, nI_add, nI_clamp, vp_in_nI, zup_s, zup_n, upd_s, upd_n, ne_eq, not_true_eq_false, not_false_eq_true, zeq1, true_or, or_true]; done))
        intro T hT
        rcases hT with rfl | ⟨x, rfl⟩
        · refine zgo 20 [] ?_
          repeat' (first
            | (exact hat.use f73)
            | (show vp_in _ _; simp (disch := first | omega | decide) only [hln, zcn, zkpl, zki, zki1, zk8, zk16, zo32, zlt0, zle0, zeq0, zgt0, zLe0, nI_ltI, nI_leI, nI_eq, nI_add, nI_clamp, vp_in_nI, zup_s, zup_n, upd_s, upd_n, ne_eq, not_true_eq_false, not_false_eq_true]; done)
            | (intro hc; exfalso; simp (disch := first | omega | decide) only [hln, zcn, zkpl, zki, zki1, zk8, zk16, zo32, zlt0, zle0, zeq0, zgt0, zLe0, nI_ltI, nI_leI, nI_eq, nI_add, nI_clamp, vp_in_nI, zup_s, zup_n, upd_s, upd_n, ne_eq, not_true_eq_false, not_false_eq_true] at hc <;> omega)
            | (intro hc; exact absurd rfl hc)
            | intro hc
            | apply And.intro
            | exact Or.inl rfl
            | exact Or.inr rfl
            | (show (_ : Int32) = 0 ∨ _ = 1; simp (disch := first | omega | decide) only [hln, zcn, zkpl, zki, zki1, zk8, zk16, zo32, zlt0, zle0, zeq0, zgt0, zLe0, nI_ltI, nI_leI, nI_eq, nI_add, nI_clamp, vp_in_nI, zup_s, zup_n, upd_s, upd_n, ne_eq, not_true_eq_false, not_false_eq_true, zeq1, true_or, or_true]; done))
        · refine zgo 20 [] ?_
          repeat' (first
            | (exact hat.use (f73x x))
            | (show vp_in _ _; simp (disch := first | omega | decide) only [hln, zcn, zkpl, zki, zki1, zk8, zk16, zo32, zlt0, zle0, zeq0, zgt0, zLe0, nI_ltI, nI_leI, nI_eq, nI_add, nI_clamp, vp_in_nI, zup_s, zup_n, upd_s, upd_n, ne_eq, not_true_eq_false, not_false_eq_true]; done)
            | (intro hc; exfalso; simp (disch := first | omega | decide) only [hln, zcn, zkpl, zki, zki1, zk8, zk16, zo32, zlt0, zle0, zeq0, zgt0, zLe0, nI_ltI, nI_leI, nI_eq, nI_add, nI_clamp, vp_in_nI, zup_s, zup_n, upd_s, upd_n, ne_eq, not_true_eq_false, not_false_eq_true] at hc <;> omega)
            | (intro hc; exact absurd rfl hc)
            | intro hc
            | apply And.intro
            | exact Or.inl rfl
            | exact Or.inr rfl
            | (show (_ : Int32) = 0 ∨ _ = 1; simp (disch := first | omega | decide) only [hln, zcn, zkpl, zki, zki1, zk8, zk16, zo32, zlt0, zle0, zeq0, zgt0, zLe0, nI_ltI, nI_leI, nI_eq, nI_add, nI_clamp, vp_in_nI, zup_s, zup_n, upd_s, upd_n, ne_eq, not_true_eq_false, not_false_eq_true, zeq1, true_or, or_true]; done))
      · have hat := ev_isAt (k := p + i) (c := rl 0 i) (d := dep + 1) hD hN (by omega) hrl.1 (by omega) (fun i hi => ⟨(hb3 i hi).1, (hb3 i hi).2.1⟩) (b := 0) (Or.inr ⟨rfl, e⟩)
        rw [← ec, ← e1] at hat
        have hQ := hQ2 m i (fun _ _ _ => rfl) (Nat.le_refl i) (by omega) (fun g => e g.1)
        intro T hT
        rcases hT with rfl | ⟨x, rfl⟩
        · have f73 : ZW 33 (0, 0, 0, 0) 73 [(5, .int (nI (p + i))), (4, .int (nI i)), (0, .ref 11), (1, .int (nI p)), (2, .ref 1000010), (3, .int (nI dep))] [.int 0] (SH, m) Q := by
            refine zgo 20 [] ?_
            repeat' (first
              | (show vp_in _ _; simp (disch := first | omega | decide) only [m11, zcn, zkpl, zki, zki1, zk8, zk16, zo32, zlt0, zle0, zeq0, zgt0, zLe0, nI_ltI, nI_leI, nI_eq, nI_add, nI_clamp, vp_in_nI, zup_s, zup_n, upd_s, upd_n, ne_eq, not_true_eq_false, not_false_eq_true]; done)
              | (intro hc; exfalso; simp (disch := first | omega | decide) only [m11, zcn, zkpl, zki, zki1, zk8, zk16, zo32, zlt0, zle0, zeq0, zgt0, zLe0, nI_ltI, nI_leI, nI_eq, nI_add, nI_clamp, vp_in_nI, zup_s, zup_n, upd_s, upd_n, ne_eq, not_true_eq_false, not_false_eq_true] at hc <;> omega)
              | (intro hc; exact absurd rfl hc)
              | intro hc
              | apply And.intro
              | exact hQ
              | (show Q _ (SH, _); simp (disch := first | omega | decide) only [m11, zcn, zkpl, zki, zki1, zk8, zk16, zo32, zlt0, zle0, zeq0, zgt0, zLe0, nI_ltI, nI_leI, nI_eq, nI_add, nI_clamp, vp_in_nI, zup_s, zup_n, upd_s, upd_n, ne_eq, not_true_eq_false, not_false_eq_true]; exact hQ)
              | exact Or.inl rfl
              | exact Or.inr rfl
              | (show (_ : Int32) = 0 ∨ _ = 1; simp (disch := first | omega | decide) only [m11, zcn, zkpl, zki, zki1, zk8, zk16, zo32, zlt0, zle0, zeq0, zgt0, zLe0, nI_ltI, nI_leI, nI_eq, nI_add, nI_clamp, vp_in_nI, zup_s, zup_n, upd_s, upd_n, ne_eq, not_true_eq_false, not_false_eq_true, zeq1, true_or, or_true]; done))
          refine zgo 20 [] ?_
          repeat' (first
            | (exact hat.use f73)
            | (show vp_in _ _; simp (disch := first | omega | decide) only [hln, zcn, zkpl, zki, zki1, zk8, zk16, zo32, zlt0, zle0, zeq0, zgt0, zLe0, nI_ltI, nI_leI, nI_eq, nI_add, nI_clamp, vp_in_nI, zup_s, zup_n, upd_s, upd_n, ne_eq, not_true_eq_false, not_false_eq_true]; done)
            | (intro hc; exfalso; simp (disch := first | omega | decide) only [hln, zcn, zkpl, zki, zki1, zk8, zk16, zo32, zlt0, zle0, zeq0, zgt0, zLe0, nI_ltI, nI_leI, nI_eq, nI_add, nI_clamp, vp_in_nI, zup_s, zup_n, upd_s, upd_n, ne_eq, not_true_eq_false, not_false_eq_true] at hc <;> omega)
            | (intro hc; exact absurd rfl hc)
            | intro hc
            | apply And.intro
            | exact Or.inl rfl
            | exact Or.inr rfl
            | (show (_ : Int32) = 0 ∨ _ = 1; simp (disch := first | omega | decide) only [hln, zcn, zkpl, zki, zki1, zk8, zk16, zo32, zlt0, zle0, zeq0, zgt0, zLe0, nI_ltI, nI_leI, nI_eq, nI_add, nI_clamp, vp_in_nI, zup_s, zup_n, upd_s, upd_n, ne_eq, not_true_eq_false, not_false_eq_true, zeq1, true_or, or_true]; done))
        · have f73 : ZW 33 (0, 0, 0, 0) 73 [(5, .int (nI (p + i))), (4, .int (nI i)), (6, .int x), (0, .ref 11), (1, .int (nI p)), (2, .ref 1000010), (3, .int (nI dep))] [.int 0] (SH, m) Q := by
            refine zgo 20 [] ?_
            repeat' (first
              | (show vp_in _ _; simp (disch := first | omega | decide) only [m11, zcn, zkpl, zki, zki1, zk8, zk16, zo32, zlt0, zle0, zeq0, zgt0, zLe0, nI_ltI, nI_leI, nI_eq, nI_add, nI_clamp, vp_in_nI, zup_s, zup_n, upd_s, upd_n, ne_eq, not_true_eq_false, not_false_eq_true]; done)
              | (intro hc; exfalso; simp (disch := first | omega | decide) only [m11, zcn, zkpl, zki, zki1, zk8, zk16, zo32, zlt0, zle0, zeq0, zgt0, zLe0, nI_ltI, nI_leI, nI_eq, nI_add, nI_clamp, vp_in_nI, zup_s, zup_n, upd_s, upd_n, ne_eq, not_true_eq_false, not_false_eq_true] at hc <;> omega)
              | (intro hc; exact absurd rfl hc)
              | intro hc
              | apply And.intro
              | exact hQ
              | (show Q _ (SH, _); simp (disch := first | omega | decide) only [m11, zcn, zkpl, zki, zki1, zk8, zk16, zo32, zlt0, zle0, zeq0, zgt0, zLe0, nI_ltI, nI_leI, nI_eq, nI_add, nI_clamp, vp_in_nI, zup_s, zup_n, upd_s, upd_n, ne_eq, not_true_eq_false, not_false_eq_true]; exact hQ)
              | exact Or.inl rfl
              | exact Or.inr rfl
              | (show (_ : Int32) = 0 ∨ _ = 1; simp (disch := first | omega | decide) only [m11, zcn, zkpl, zki, zki1, zk8, zk16, zo32, zlt0, zle0, zeq0, zgt0, zLe0, nI_ltI, nI_leI, nI_eq, nI_add, nI_clamp, vp_in_nI, zup_s, zup_n, upd_s, upd_n, ne_eq, not_true_eq_false, not_false_eq_true, zeq1, true_or, or_true]; done))
          refine zgo 20 [] ?_
          repeat' (first
            | (exact hat.use f73)
            | (show vp_in _ _; simp (disch := first | omega | decide) only [hln, zcn, zkpl, zki, zki1, zk8, zk16, zo32, zlt0, zle0, zeq0, zgt0, zLe0, nI_ltI, nI_leI, nI_eq, nI_add, nI_clamp, vp_in_nI, zup_s, zup_n, upd_s, upd_n, ne_eq, not_true_eq_false, not_false_eq_true]; done)
            | (intro hc; exfalso; simp (disch := first | omega | decide) only [hln, zcn, zkpl, zki, zki1, zk8, zk16, zo32, zlt0, zle0, zeq0, zgt0, zLe0, nI_ltI, nI_leI, nI_eq, nI_add, nI_clamp, vp_in_nI, zup_s, zup_n, upd_s, upd_n, ne_eq, not_true_eq_false, not_false_eq_true] at hc <;> omega)
            | (intro hc; exact absurd rfl hc)
            | intro hc
            | apply And.intro
            | exact Or.inl rfl
            | exact Or.inr rfl
            | (show (_ : Int32) = 0 ∨ _ = 1; simp (disch := first | omega | decide) only [hln, zcn, zkpl, zki, zki1, zk8, zk16, zo32, zlt0, zle0, zeq0, zgt0, zLe0, nI_ltI, nI_leI, nI_eq, nI_add, nI_clamp, vp_in_nI, zup_s, zup_n, upd_s, upd_n, ne_eq, not_true_eq_false, not_false_eq_true, zeq1, true_or, or_true]; done))
    rw [← e5] at f55
    rcases hR with rfl | ⟨x, y, rfl⟩
    · have f := f55 _ (Or.inl rfl)
      refine zgo 8 [] ?_
      repeat' (first
        | (exact f)
        | (show vp_in _ _; simp (disch := first | omega | decide) only [hln, zcn, zkpl, zki, zki1, zk8, zk16, zo32, zlt0, zle0, zeq0, zgt0, zLe0, nI_ltI, nI_leI, nI_eq, nI_add, nI_clamp, vp_in_nI, zup_s, zup_n, upd_s, upd_n, ne_eq, not_true_eq_false, not_false_eq_true]; done)
        | (intro hc; exfalso; simp (disch := first | omega | decide) only [hln, zcn, zkpl, zki, zki1, zk8, zk16, zo32, zlt0, zle0, zeq0, zgt0, zLe0, nI_ltI, nI_leI, nI_eq, nI_add, nI_clamp, vp_in_nI, zup_s, zup_n, upd_s, upd_n, ne_eq, not_true_eq_false, not_false_eq_true] at hc <;> omega)
        | (intro hc; exact absurd rfl hc)
        | intro hc
        | apply And.intro
        | exact Or.inl rfl
        | exact Or.inr rfl
        | (show (_ : Int32) = 0 ∨ _ = 1; simp (disch := first | omega | decide) only [hln, zcn, zkpl, zki, zki1, zk8, zk16, zo32, zlt0, zle0, zeq0, zgt0, zLe0, nI_ltI, nI_leI, nI_eq, nI_add, nI_clamp, vp_in_nI, zup_s, zup_n, upd_s, upd_n, ne_eq, not_true_eq_false, not_false_eq_true, zeq1, true_or, or_true]; done))
    · have f := f55 _ (Or.inr ⟨x, rfl⟩)
      refine zgo 8 [] ?_
      repeat' (first
        | (exact f)
        | (show vp_in _ _; simp (disch := first | omega | decide) only [hln, zcn, zkpl, zki, zki1, zk8, zk16, zo32, zlt0, zle0, zeq0, zgt0, zLe0, nI_ltI, nI_leI, nI_eq, nI_add, nI_clamp, vp_in_nI, zup_s, zup_n, upd_s, upd_n, ne_eq, not_true_eq_false, not_false_eq_true]; done)
        | (intro hc; exfalso; simp (disch := first | omega | decide) only [hln, zcn, zkpl, zki, zki1, zk8, zk16, zo32, zlt0, zle0, zeq0, zgt0, zLe0, nI_ltI, nI_leI, nI_eq, nI_add, nI_clamp, vp_in_nI, zup_s, zup_n, upd_s, upd_n, ne_eq, not_true_eq_false, not_false_eq_true] at hc <;> omega)
        | (intro hc; exact absurd rfl hc)
        | intro hc
        | apply And.intro
        | exact Or.inl rfl
        | exact Or.inr rfl
        | (show (_ : Int32) = 0 ∨ _ = 1; simp (disch := first | omega | decide) only [hln, zcn, zkpl, zki, zki1, zk8, zk16, zo32, zlt0, zle0, zeq0, zgt0, zLe0, nI_ltI, nI_leI, nI_eq, nI_add, nI_clamp, vp_in_nI, zup_s, zup_n, upd_s, upd_n, ne_eq, not_true_eq_false, not_false_eq_true, zeq1, true_or, or_true]; done))
theorem tk_row0 {s : pS} (hr : rdy s) {p dep : Nat} (hp : p + 4 ≤ 19) (hdp : dep ≤ 3) {m : zM} (hD : tD m s) (Q : zQ) (hQ1 : ∀ m', vF m m' → (∀ k, k ≤ p → m' 13 k = m 13 k) → trO s p 0 dep → (∀ i', 1 ≤ i' → i' < 4 → cvR s (p + i') (m' 13 (p + i')) ∧ m' 13 (p + i') ≠ -1) → Q (some (.int 1)) (SH, m')) (hQ2 : ∀ m', vF m m' → ¬ trO s p 0 dep → Q (some (.int 0)) (SH, m')) : ZM 33 0 0 [.ref 11, .int (nI p), .ref 1000010, .int (nI dep)] (SH, m) Q := by
  have hr0 := hr
  obtain ⟨hs, hN, hb3⟩ := hr
  by_cases e : p < s 0 1 ∧ s 2 p = rl 0 0 ∧ s 3 p = dep
  · have hat := ev_isAt (k := p) (c := rl 0 0) (d := dep) hD hN (by omega) (by decide) (by omega) (fun i hi => ⟨(hb3 i hi).1, (hb3 i hi).2.1⟩) (b := 1) (Or.inl ⟨rfl, e⟩)
    by_cases e6 : s 6 p = 0
    · have hbl := ev_blanks hD hN e.1 (hb3 p e.1).2.2.2 (b := 1) (Or.inl ⟨rfl, e6⟩)
      have W := tw_loop0 hr0 hp hdp Q 3 1 m _ (by omega) (by omega) hD (Or.inl rfl) (fun m' w1 w2 w3 => hQ1 m' w1 (fun k hk => w2 k (by omega)) ⟨⟨e.1, e.2.1, e.2.2, e6⟩, fun i g1 g2 => ⟨(w3 i g1 g2).1, ⟨_, (w3 i g1 g2).2⟩⟩⟩ (fun i' g1 g2 => (w3 i' g1 g2).2)) (fun m' i' w1 w2 w3 w4 => hQ2 m' w1 (fun g => w4 (g.2 i' w2 w3)))
      have f32 : ZW 33 (0, 0, 0, 0) 32 [(0, .ref 11), (1, .int (nI p)), (2, .ref 1000010), (3, .int (nI dep))] [.int 1] (SH, m) Q := by
        refine zgo 10 [] ?_
        repeat' (first
          | (exact W)
          | (show vp_in _ _; simp (disch := first | omega | decide) only [z10, zcn, zkpl, zki, zki1, zk8, zk16, zo32, zlt0, zle0, zeq0, zgt0, zLe0, nI_ltI, nI_leI, nI_eq, nI_add, nI_clamp, vp_in_nI, zup_s, zup_n, upd_s, upd_n, ne_eq, not_true_eq_false, not_false_eq_true]; done)
          | (intro hc; exfalso; simp (disch := first | omega | decide) only [z10, zcn, zkpl, zki, zki1, zk8, zk16, zo32, zlt0, zle0, zeq0, zgt0, zLe0, nI_ltI, nI_leI, nI_eq, nI_add, nI_clamp, vp_in_nI, zup_s, zup_n, upd_s, upd_n, ne_eq, not_true_eq_false, not_false_eq_true] at hc <;> omega)
          | (intro hc; exact absurd rfl hc)
          | intro hc
          | apply And.intro
          | exact Or.inl rfl
          | exact Or.inr rfl
          | (show (_ : Int32) = 0 ∨ _ = 1; simp (disch := first | omega | decide) only [z10, zcn, zkpl, zki, zki1, zk8, zk16, zo32, zlt0, zle0, zeq0, zgt0, zLe0, nI_ltI, nI_leI, nI_eq, nI_add, nI_clamp, vp_in_nI, zup_s, zup_n, upd_s, upd_n, ne_eq, not_true_eq_false, not_false_eq_true, zeq1, true_or, or_true]; done))
      have f21 : ZW 33 (0, 0, 0, 0) 21 [(0, .ref 11), (1, .int (nI p)), (2, .ref 1000010), (3, .int (nI dep))] [.int 1] (SH, m) Q := by
        refine zgo 10 [] ?_
        repeat' (first
          | (exact hbl.use f32)
          | (show vp_in _ _; simp (disch := first | omega | decide) only [z10, zcn, zkpl, zki, zki1, zk8, zk16, zo32, zlt0, zle0, zeq0, zgt0, zLe0, nI_ltI, nI_leI, nI_eq, nI_add, nI_clamp, vp_in_nI, zup_s, zup_n, upd_s, upd_n, ne_eq, not_true_eq_false, not_false_eq_true]; done)
          | (intro hc; exfalso; simp (disch := first | omega | decide) only [z10, zcn, zkpl, zki, zki1, zk8, zk16, zo32, zlt0, zle0, zeq0, zgt0, zLe0, nI_ltI, nI_leI, nI_eq, nI_add, nI_clamp, vp_in_nI, zup_s, zup_n, upd_s, upd_n, ne_eq, not_true_eq_false, not_false_eq_true] at hc <;> omega)
          | (intro hc; exact absurd rfl hc)
          | intro hc
          | apply And.intro
          | exact Or.inl rfl
          | exact Or.inr rfl
          | (show (_ : Int32) = 0 ∨ _ = 1; simp (disch := first | omega | decide) only [z10, zcn, zkpl, zki, zki1, zk8, zk16, zo32, zlt0, zle0, zeq0, zgt0, zLe0, nI_ltI, nI_leI, nI_eq, nI_add, nI_clamp, vp_in_nI, zup_s, zup_n, upd_s, upd_n, ne_eq, not_true_eq_false, not_false_eq_true, zeq1, true_or, or_true]; done))
      refine zgo 20 [] ?_
      repeat' (first
        | (exact hat.use f21)
        | (show vp_in _ _; simp (disch := first | omega | decide) only [zcn, zkpl, zki, zki1, zk8, zk16, zo32, zlt0, zle0, zeq0, zgt0, zLe0, nI_ltI, nI_leI, nI_eq, nI_add, nI_clamp, vp_in_nI, zup_s, zup_n, upd_s, upd_n, ne_eq, not_true_eq_false, not_false_eq_true]; done)
        | (intro hc; exfalso; simp (disch := first | omega | decide) only [zcn, zkpl, zki, zki1, zk8, zk16, zo32, zlt0, zle0, zeq0, zgt0, zLe0, nI_ltI, nI_leI, nI_eq, nI_add, nI_clamp, vp_in_nI, zup_s, zup_n, upd_s, upd_n, ne_eq, not_true_eq_false, not_false_eq_true] at hc <;> omega)
        | (intro hc; exact absurd rfl hc)
        | intro hc
        | apply And.intro
        | exact Or.inl rfl
        | exact Or.inr rfl
        | (show (_ : Int32) = 0 ∨ _ = 1; simp (disch := first | omega | decide) only [zcn, zkpl, zki, zki1, zk8, zk16, zo32, zlt0, zle0, zeq0, zgt0, zLe0, nI_ltI, nI_leI, nI_eq, nI_add, nI_clamp, vp_in_nI, zup_s, zup_n, upd_s, upd_n, ne_eq, not_true_eq_false, not_false_eq_true, zeq1, true_or, or_true]; done))
    · have hbl := ev_blanks hD hN e.1 (hb3 p e.1).2.2.2 (b := 0) (Or.inr ⟨rfl, e6⟩)
      have hQ := hQ2 m (fun _ _ _ => rfl) (fun g => e6 g.1.2.2.2)
      have f32 : ZW 33 (0, 0, 0, 0) 32 [(0, .ref 11), (1, .int (nI p)), (2, .ref 1000010), (3, .int (nI dep))] [.int 0] (SH, m) Q := by
        refine zgo 10 [] ?_
        repeat' (first
          | (show vp_in _ _; simp (disch := first | omega | decide) only [z10, zcn, zkpl, zki, zki1, zk8, zk16, zo32, zlt0, zle0, zeq0, zgt0, zLe0, nI_ltI, nI_leI, nI_eq, nI_add, nI_clamp, vp_in_nI, zup_s, zup_n, upd_s, upd_n, ne_eq, not_true_eq_false, not_false_eq_true]; done)
          | (intro hc; exfalso; simp (disch := first | omega | decide) only [z10, zcn, zkpl, zki, zki1, zk8, zk16, zo32, zlt0, zle0, zeq0, zgt0, zLe0, nI_ltI, nI_leI, nI_eq, nI_add, nI_clamp, vp_in_nI, zup_s, zup_n, upd_s, upd_n, ne_eq, not_true_eq_false, not_false_eq_true] at hc <;> omega)
          | (intro hc; exact absurd rfl hc)
          | intro hc
          | apply And.intro
          | exact hQ
          | (show Q _ (SH, _); simp (disch := first | omega | decide) only [z10, zcn, zkpl, zki, zki1, zk8, zk16, zo32, zlt0, zle0, zeq0, zgt0, zLe0, nI_ltI, nI_leI, nI_eq, nI_add, nI_clamp, vp_in_nI, zup_s, zup_n, upd_s, upd_n, ne_eq, not_true_eq_false, not_false_eq_true]; exact hQ)
          | exact Or.inl rfl
          | exact Or.inr rfl
          | (show (_ : Int32) = 0 ∨ _ = 1; simp (disch := first | omega | decide) only [z10, zcn, zkpl, zki, zki1, zk8, zk16, zo32, zlt0, zle0, zeq0, zgt0, zLe0, nI_ltI, nI_leI, nI_eq, nI_add, nI_clamp, vp_in_nI, zup_s, zup_n, upd_s, upd_n, ne_eq, not_true_eq_false, not_false_eq_true, zeq1, true_or, or_true]; done))
      have f21 : ZW 33 (0, 0, 0, 0) 21 [(0, .ref 11), (1, .int (nI p)), (2, .ref 1000010), (3, .int (nI dep))] [.int 1] (SH, m) Q := by
        refine zgo 10 [] ?_
        repeat' (first
          | (exact hbl.use f32)
          | (show vp_in _ _; simp (disch := first | omega | decide) only [z10, zcn, zkpl, zki, zki1, zk8, zk16, zo32, zlt0, zle0, zeq0, zgt0, zLe0, nI_ltI, nI_leI, nI_eq, nI_add, nI_clamp, vp_in_nI, zup_s, zup_n, upd_s, upd_n, ne_eq, not_true_eq_false, not_false_eq_true]; done)
          | (intro hc; exfalso; simp (disch := first | omega | decide) only [z10, zcn, zkpl, zki, zki1, zk8, zk16, zo32, zlt0, zle0, zeq0, zgt0, zLe0, nI_ltI, nI_leI, nI_eq, nI_add, nI_clamp, vp_in_nI, zup_s, zup_n, upd_s, upd_n, ne_eq, not_true_eq_false, not_false_eq_true] at hc <;> omega)
          | (intro hc; exact absurd rfl hc)
          | intro hc
          | apply And.intro
          | exact Or.inl rfl
          | exact Or.inr rfl
          | (show (_ : Int32) = 0 ∨ _ = 1; simp (disch := first | omega | decide) only [z10, zcn, zkpl, zki, zki1, zk8, zk16, zo32, zlt0, zle0, zeq0, zgt0, zLe0, nI_ltI, nI_leI, nI_eq, nI_add, nI_clamp, vp_in_nI, zup_s, zup_n, upd_s, upd_n, ne_eq, not_true_eq_false, not_false_eq_true, zeq1, true_or, or_true]; done))
      refine zgo 20 [] ?_
      repeat' (first
        | (exact hat.use f21)
        | (show vp_in _ _; simp (disch := first | omega | decide) only [zcn, zkpl, zki, zki1, zk8, zk16, zo32, zlt0, zle0, zeq0, zgt0, zLe0, nI_ltI, nI_leI, nI_eq, nI_add, nI_clamp, vp_in_nI, zup_s, zup_n, upd_s, upd_n, ne_eq, not_true_eq_false, not_false_eq_true]; done)
        | (intro hc; exfalso; simp (disch := first | omega | decide) only [zcn, zkpl, zki, zki1, zk8, zk16, zo32, zlt0, zle0, zeq0, zgt0, zLe0, nI_ltI, nI_leI, nI_eq, nI_add, nI_clamp, vp_in_nI, zup_s, zup_n, upd_s, upd_n, ne_eq, not_true_eq_false, not_false_eq_true] at hc <;> omega)
        | (intro hc; exact absurd rfl hc)
        | intro hc
        | apply And.intro
        | exact Or.inl rfl
        | exact Or.inr rfl
        | (show (_ : Int32) = 0 ∨ _ = 1; simp (disch := first | omega | decide) only [zcn, zkpl, zki, zki1, zk8, zk16, zo32, zlt0, zle0, zeq0, zgt0, zLe0, nI_ltI, nI_leI, nI_eq, nI_add, nI_clamp, vp_in_nI, zup_s, zup_n, upd_s, upd_n, ne_eq, not_true_eq_false, not_false_eq_true, zeq1, true_or, or_true]; done))
  · have hat := ev_isAt (k := p) (c := rl 0 0) (d := dep) hD hN (by omega) (by decide) (by omega) (fun i hi => ⟨(hb3 i hi).1, (hb3 i hi).2.1⟩) (b := 0) (Or.inr ⟨rfl, e⟩)
    have hQ := hQ2 m (fun _ _ _ => rfl) (fun g => e ⟨g.1.1, g.1.2.1, g.1.2.2.1⟩)
    have f21 : ZW 33 (0, 0, 0, 0) 21 [(0, .ref 11), (1, .int (nI p)), (2, .ref 1000010), (3, .int (nI dep))] [.int 0] (SH, m) Q := by
      refine zgo 10 [] ?_
      repeat' (first
        | (show vp_in _ _; simp (disch := first | omega | decide) only [z10, zcn, zkpl, zki, zki1, zk8, zk16, zo32, zlt0, zle0, zeq0, zgt0, zLe0, nI_ltI, nI_leI, nI_eq, nI_add, nI_clamp, vp_in_nI, zup_s, zup_n, upd_s, upd_n, ne_eq, not_true_eq_false, not_false_eq_true]; done)
        | (intro hc; exfalso; simp (disch := first | omega | decide) only [z10, zcn, zkpl, zki, zki1, zk8, zk16, zo32, zlt0, zle0, zeq0, zgt0, zLe0, nI_ltI, nI_leI, nI_eq, nI_add, nI_clamp, vp_in_nI, zup_s, zup_n, upd_s, upd_n, ne_eq, not_true_eq_false, not_false_eq_true] at hc <;> omega)
        | (intro hc; exact absurd rfl hc)
        | intro hc
        | apply And.intro
        | exact hQ
        | (show Q _ (SH, _); simp (disch := first | omega | decide) only [z10, zcn, zkpl, zki, zki1, zk8, zk16, zo32, zlt0, zle0, zeq0, zgt0, zLe0, nI_ltI, nI_leI, nI_eq, nI_add, nI_clamp, vp_in_nI, zup_s, zup_n, upd_s, upd_n, ne_eq, not_true_eq_false, not_false_eq_true]; exact hQ)
        | exact Or.inl rfl
        | exact Or.inr rfl
        | (show (_ : Int32) = 0 ∨ _ = 1; simp (disch := first | omega | decide) only [z10, zcn, zkpl, zki, zki1, zk8, zk16, zo32, zlt0, zle0, zeq0, zgt0, zLe0, nI_ltI, nI_leI, nI_eq, nI_add, nI_clamp, vp_in_nI, zup_s, zup_n, upd_s, upd_n, ne_eq, not_true_eq_false, not_false_eq_true, zeq1, true_or, or_true]; done))
    refine zgo 20 [] ?_
    repeat' (first
      | (exact hat.use f21)
      | (show vp_in _ _; simp (disch := first | omega | decide) only [zcn, zkpl, zki, zki1, zk8, zk16, zo32, zlt0, zle0, zeq0, zgt0, zLe0, nI_ltI, nI_leI, nI_eq, nI_add, nI_clamp, vp_in_nI, zup_s, zup_n, upd_s, upd_n, ne_eq, not_true_eq_false, not_false_eq_true]; done)
      | (intro hc; exfalso; simp (disch := first | omega | decide) only [zcn, zkpl, zki, zki1, zk8, zk16, zo32, zlt0, zle0, zeq0, zgt0, zLe0, nI_ltI, nI_leI, nI_eq, nI_add, nI_clamp, vp_in_nI, zup_s, zup_n, upd_s, upd_n, ne_eq, not_true_eq_false, not_false_eq_true] at hc <;> omega)
      | (intro hc; exact absurd rfl hc)
      | intro hc
      | apply And.intro
      | exact Or.inl rfl
      | exact Or.inr rfl
      | (show (_ : Int32) = 0 ∨ _ = 1; simp (disch := first | omega | decide) only [zcn, zkpl, zki, zki1, zk8, zk16, zo32, zlt0, zle0, zeq0, zgt0, zLe0, nI_ltI, nI_leI, nI_eq, nI_add, nI_clamp, vp_in_nI, zup_s, zup_n, upd_s, upd_n, ne_eq, not_true_eq_false, not_false_eq_true, zeq1, true_or, or_true]; done))
theorem tw_loop1 {s : pS} (hr : rdy s) {p dep : Nat} (hp : p + 5 ≤ 19) (hdp : dep ≤ 3) (Q : zQ) : ∀ (n i : Nat) (m : zM) (R : zLs), 1 ≤ i → i + n = 5 → tD m s → twL p i [(0, .ref 11), (1, .int (nI p)), (2, .ref 1000011), (3, .int (nI dep))] R → (∀ m', vF m m' → (∀ k, k < p + i → m' 13 k = m 13 k) → (∀ i', i ≤ i' → i' < 5 → rwO s p 1 dep i' ∧ cvR s (p + i') (m' 13 (p + i')) ∧ m' 13 (p + i') ≠ -1) → Q (some (.int 1)) (SH, m')) → (∀ m' i', vF m m' → i ≤ i' → i' < 5 → ¬ (rwO s p 1 dep i' ∧ gV s (p + i')) → Q (some (.int 0)) (SH, m')) → ZW 33 (0, 0, 0, 0) 40 R [] (SH, m) Q := by
  obtain ⟨hs, hN, hb3⟩ := hr
  intro n
  induction n with
  | zero =>
    intro i m R h1 hi hD hR hQ1 _
    have hQ := hQ1 m (fun _ _ _ => rfl) (fun _ _ => rfl) (fun i' g1 g2 => by omega)
    obtain rfl : i = 5 := by omega
    rcases hR with rfl | ⟨x, y, rfl⟩
    · refine zgo 20 [] ?_
      repeat' (first
        | (show vp_in _ _; simp (disch := first | omega | decide) only [zcn, zkpl, zki, zki1, zk8, zk16, zo32, zlt0, zle0, zeq0, zgt0, zLe0, nI_ltI, nI_leI, nI_eq, nI_add, nI_clamp, vp_in_nI, zup_s, zup_n, upd_s, upd_n, ne_eq, not_true_eq_false, not_false_eq_true]; done)
        | (intro hc; exfalso; simp (disch := first | omega | decide) only [zcn, zkpl, zki, zki1, zk8, zk16, zo32, zlt0, zle0, zeq0, zgt0, zLe0, nI_ltI, nI_leI, nI_eq, nI_add, nI_clamp, vp_in_nI, zup_s, zup_n, upd_s, upd_n, ne_eq, not_true_eq_false, not_false_eq_true] at hc <;> omega)
        | (intro hc; exact absurd rfl hc)
        | intro hc
        | apply And.intro
        | exact hQ
        | (show Q _ (SH, _); simp (disch := first | omega | decide) only [zcn, zkpl, zki, zki1, zk8, zk16, zo32, zlt0, zle0, zeq0, zgt0, zLe0, nI_ltI, nI_leI, nI_eq, nI_add, nI_clamp, vp_in_nI, zup_s, zup_n, upd_s, upd_n, ne_eq, not_true_eq_false, not_false_eq_true]; exact hQ)
        | exact Or.inl rfl
        | exact Or.inr rfl
        | (show (_ : Int32) = 0 ∨ _ = 1; simp (disch := first | omega | decide) only [zcn, zkpl, zki, zki1, zk8, zk16, zo32, zlt0, zle0, zeq0, zgt0, zLe0, nI_ltI, nI_leI, nI_eq, nI_add, nI_clamp, vp_in_nI, zup_s, zup_n, upd_s, upd_n, ne_eq, not_true_eq_false, not_false_eq_true, zeq1, true_or, or_true]; done))
    · refine zgo 20 [] ?_
      repeat' (first
        | (show vp_in _ _; simp (disch := first | omega | decide) only [zcn, zkpl, zki, zki1, zk8, zk16, zo32, zlt0, zle0, zeq0, zgt0, zLe0, nI_ltI, nI_leI, nI_eq, nI_add, nI_clamp, vp_in_nI, zup_s, zup_n, upd_s, upd_n, ne_eq, not_true_eq_false, not_false_eq_true]; done)
        | (intro hc; exfalso; simp (disch := first | omega | decide) only [zcn, zkpl, zki, zki1, zk8, zk16, zo32, zlt0, zle0, zeq0, zgt0, zLe0, nI_ltI, nI_leI, nI_eq, nI_add, nI_clamp, vp_in_nI, zup_s, zup_n, upd_s, upd_n, ne_eq, not_true_eq_false, not_false_eq_true] at hc <;> omega)
        | (intro hc; exact absurd rfl hc)
        | intro hc
        | apply And.intro
        | exact hQ
        | (show Q _ (SH, _); simp (disch := first | omega | decide) only [zcn, zkpl, zki, zki1, zk8, zk16, zo32, zlt0, zle0, zeq0, zgt0, zLe0, nI_ltI, nI_leI, nI_eq, nI_add, nI_clamp, vp_in_nI, zup_s, zup_n, upd_s, upd_n, ne_eq, not_true_eq_false, not_false_eq_true]; exact hQ)
        | exact Or.inl rfl
        | exact Or.inr rfl
        | (show (_ : Int32) = 0 ∨ _ = 1; simp (disch := first | omega | decide) only [zcn, zkpl, zki, zki1, zk8, zk16, zo32, zlt0, zle0, zeq0, zgt0, zLe0, nI_ltI, nI_leI, nI_eq, nI_add, nI_clamp, vp_in_nI, zup_s, zup_n, upd_s, upd_n, ne_eq, not_true_eq_false, not_false_eq_true, zeq1, true_or, or_true]; done))
  | succ n ih =>
    intro i m R h1 hi hD hR hQ1 hQ2
    have e5 : nI p + nI i = nI (p + i) := nI_add p i
    have hln : (zSS.getD (1000011 - 1000010) []).length = 5 := rfl
    have ec : zSc 1000011 (nI i).toNatClampNeg = nI (rl 1 i) := by
      rw [nI_clamp (by omega)]
      rfl
    have hrl : rl 1 i ≤ 126 ∧ (rl 1 i = 73 ∨ rl 1 i = 69 ∨ rl 1 i = 79 ∨ rl 1 i = 78 ∨ rl 1 i = 68 ∨ rl 1 i = 67 ∨ rl 1 i = 86 ∨ rl 1 i = 83 ∨ rl 1 i = 65) := by
      rcases (show i = 1 ∨ i = 2 ∨ i = 3 ∨ i = 4 by omega) with rfl | rfl | rfl | rfl <;> decide
    have e1 : nI dep + Int32.ofInt 1 = nI (dep + 1) := by rw [zki, nI_add]
    have f55 : ∀ T, (T = [(0, .ref 11), (1, .int (nI p)), (2, .ref 1000011), (3, .int (nI dep))] ∨ ∃ x, T = (6, .int x) :: [(0, .ref 11), (1, .int (nI p)), (2, .ref 1000011), (3, .int (nI dep))]) → ZW 33 (0, 0, 0, 0) 55 ((5, .int (nI (p + i))) :: (4, .int (nI i)) :: T) [] (SH, m) Q := by
      by_cases e : rwO s p 1 dep i
      · have hat := ev_isAt (k := p + i) (c := rl 1 i) (d := dep + 1) hD hN (by omega) hrl.1 (by omega) (fun i hi => ⟨(hb3 i hi).1, (hb3 i hi).2.1⟩) (b := 1) (Or.inl ⟨rfl, e⟩)
        rw [← ec, ← e1] at hat
        have e' := e
        obtain ⟨g1, g2, g3⟩ := e'
        have hread := ev_read hD hs hN g1 (hb3 _ g1).2.2.1 (by rw [g2]; exact hrl.2)
        have f89 : ∀ r, cvR s (p + i) r → ZW 33 (0, 0, 0, 0) 85 [(5, .int (nI (p + i))), (4, .int (nI i)), (0, .ref 11), (1, .int (nI p)), (2, .ref 1000011), (3, .int (nI dep))] [.int r] (SH, cvm m (tb s (p + i)) (te s (p + i) - tb s (p + i))) Q := by
          intro r hcv
          have hF : vF m (cvm m (tb s (p + i)) (te s (p + i) - tb s (p + i))) := fun b hb1 hb2 => by
            unfold cvm
            rw [zup_n _ hb1, zup_n _ hb1]
          have h13 : cvm m (tb s (p + i)) (te s (p + i) - tb s (p + i)) 13 = m 13 := rfl
          generalize cvm m (tb s (p + i)) (te s (p + i) - tb s (p + i)) = m1 at *
          by_cases er : r = -1
          · subst er
            have hQ := hQ2 m1 i hF (Nat.le_refl i) (by omega) (fun g => by
              obtain ⟨r, g1, g2⟩ := g.2
              exact g2 (cvR_u g1 hcv))
            refine zgo 20 [] ?_
            repeat' (first
              | (show vp_in _ _; simp (disch := first | omega | decide) only [m11, zcn, zkpl, zki, zki1, zk8, zk16, zo32, zlt0, zle0, zeq0, zgt0, zLe0, nI_ltI, nI_leI, nI_eq, nI_add, nI_clamp, vp_in_nI, zup_s, zup_n, upd_s, upd_n, ne_eq, not_true_eq_false, not_false_eq_true]; done)
              | (intro hc; exfalso; simp (disch := first | omega | decide) only [m11, zcn, zkpl, zki, zki1, zk8, zk16, zo32, zlt0, zle0, zeq0, zgt0, zLe0, nI_ltI, nI_leI, nI_eq, nI_add, nI_clamp, vp_in_nI, zup_s, zup_n, upd_s, upd_n, ne_eq, not_true_eq_false, not_false_eq_true] at hc <;> omega)
              | (intro hc; exact absurd rfl hc)
              | intro hc
              | apply And.intro
              | exact hQ
              | (show Q _ (SH, _); simp (disch := first | omega | decide) only [m11, zcn, zkpl, zki, zki1, zk8, zk16, zo32, zlt0, zle0, zeq0, zgt0, zLe0, nI_ltI, nI_leI, nI_eq, nI_add, nI_clamp, vp_in_nI, zup_s, zup_n, upd_s, upd_n, ne_eq, not_true_eq_false, not_false_eq_true]; exact hQ)
              | exact Or.inl rfl
              | exact Or.inr rfl
              | (show (_ : Int32) = 0 ∨ _ = 1; simp (disch := first | omega | decide) only [m11, zcn, zkpl, zki, zki1, zk8, zk16, zo32, zlt0, zle0, zeq0, zgt0, zLe0, nI_ltI, nI_leI, nI_eq, nI_add, nI_clamp, vp_in_nI, zup_s, zup_n, upd_s, upd_n, ne_eq, not_true_eq_false, not_false_eq_true, zeq1, true_or, or_true]; done))
          · have er' := m1n er
            have e3 : nI i + Int32.ofInt 1 = nI (i + 1) := by rw [zki, nI_add]
            have W := ih (i + 1) (zup m1 13 (p + i) r) ((4, .int (nI (i + 1))) :: (6, .int r) :: (5, .int (nI (p + i))) :: [(0, .ref 11), (1, .int (nI p)), (2, .ref 1000011), (3, .int (nI dep))]) (by omega) (by omega) (hD.cg (fun a ha => by rw [zup_n _ (by omega), hF a (by omega) (by omega)])) (Or.inr ⟨_, _, rfl⟩) (fun m' w1 w2 w3 => hQ1 m' (fun a ha hb => by rw [w1 a ha hb, zup_n _ hb, hF a ha hb]) (fun k hk => by rw [w2 k (by omega), zup_s, upd_n _ (by omega), h13]) (fun i' q1 q2 => by
              by_cases e4 : i' = i
              · subst e4
                have : m' 13 (p + i') = r := by rw [w2 (p + i') (by omega), zup_s, upd_s]
                rw [this]
                exact ⟨e, hcv, er⟩
              · exact w3 i' (by omega) q2)) (fun m' i' w1 w2 w3 w4 => hQ2 m' i' (fun a ha hb => by rw [w1 a ha hb, zup_n _ hb, hF a ha hb]) (by omega) w3 w4)
            rw [← e3] at W
            refine zgo 30 [] ?_
            repeat' (first
              | (exact zcg (by simp (disch := first | omega | decide) only [zcn, zkpl, zki, zki1, zk8, zk16, zo32, zlt0, zle0, zeq0, zgt0, zLe0, nI_ltI, nI_leI, nI_eq, nI_add, nI_clamp, vp_in_nI, zup_s, zup_n, upd_s, upd_n, ne_eq, not_true_eq_false, not_false_eq_true]) W)
              | (show vp_in _ _; simp (disch := first | omega | decide) only [er', zcn, zkpl, zki, zki1, zk8, zk16, zo32, zlt0, zle0, zeq0, zgt0, zLe0, nI_ltI, nI_leI, nI_eq, nI_add, nI_clamp, vp_in_nI, zup_s, zup_n, upd_s, upd_n, ne_eq, not_true_eq_false, not_false_eq_true]; done)
              | (intro hc; exfalso; simp (disch := first | omega | decide) only [er', zcn, zkpl, zki, zki1, zk8, zk16, zo32, zlt0, zle0, zeq0, zgt0, zLe0, nI_ltI, nI_leI, nI_eq, nI_add, nI_clamp, vp_in_nI, zup_s, zup_n, upd_s, upd_n, ne_eq, not_true_eq_false, not_false_eq_true] at hc <;> omega)
              | (intro hc; exact absurd rfl hc)
              | intro hc
              | apply And.intro
              | exact Or.inl rfl
              | exact Or.inr rfl
              | (show (_ : Int32) = 0 ∨ _ = 1; simp (disch := first | omega | decide) only [er', zcn, zkpl, zki, zki1, zk8, zk16, zo32, zlt0, zle0, zeq0, zgt0, zLe0, nI_ltI, nI_leI, nI_eq, nI_add, nI_clamp, vp_in_nI, zup_s, zup_n, upd_s, upd_n, ne_eq, not_true_eq_false, not_false_eq_true, zeq1, true_or, or_true]; done))
        have f73 : ZW 33 (0, 0, 0, 0) 73 [(5, .int (nI (p + i))), (4, .int (nI i)), (0, .ref 11), (1, .int (nI p)), (2, .ref 1000011), (3, .int (nI dep))] [.int 1] (SH, m) Q := by
          refine zgo 10 [] ?_
          repeat' (first
            | (exact hread _ (fun r hr => f89 r hr))
            | (show vp_in _ _; simp (disch := first | omega | decide) only [z10, zcn, zkpl, zki, zki1, zk8, zk16, zo32, zlt0, zle0, zeq0, zgt0, zLe0, nI_ltI, nI_leI, nI_eq, nI_add, nI_clamp, vp_in_nI, zup_s, zup_n, upd_s, upd_n, ne_eq, not_true_eq_false, not_false_eq_true]; done)
            | (intro hc; exfalso; simp (disch := first | omega | decide) only [z10, zcn, zkpl, zki, zki1, zk8, zk16, zo32, zlt0, zle0, zeq0, zgt0, zLe0, nI_ltI, nI_leI, nI_eq, nI_add, nI_clamp, vp_in_nI, zup_s, zup_n, upd_s, upd_n, ne_eq, not_true_eq_false, not_false_eq_true] at hc <;> omega)
            | (intro hc; exact absurd rfl hc)
            | intro hc
            | apply And.intro
            | exact Or.inl rfl
            | exact Or.inr rfl
            | (show (_ : Int32) = 0 ∨ _ = 1; simp (disch := first | omega | decide) only [z10, zcn, zkpl, zki, zki1, zk8, zk16, zo32, zlt0, zle0, zeq0, zgt0, zLe0, nI_ltI, nI_leI, nI_eq, nI_add, nI_clamp, vp_in_nI, zup_s, zup_n, upd_s, upd_n, ne_eq, not_true_eq_false, not_false_eq_true, zeq1, true_or, or_true]; done))
        have f89x : ∀ x r, cvR s (p + i) r → ZW 33 (0, 0, 0, 0) 85 [(5, .int (nI (p + i))), (4, .int (nI i)), (6, .int x), (0, .ref 11), (1, .int (nI p)), (2, .ref 1000011), (3, .int (nI dep))] [.int r] (SH, cvm m (tb s (p + i)) (te s (p + i) - tb s (p + i))) Q := by
          intro x r hcv
          have hF : vF m (cvm m (tb s (p + i)) (te s (p + i) - tb s (p + i))) := fun b hb1 hb2 => by
            unfold cvm
            rw [zup_n _ hb1, zup_n _ hb1]
          have h13 : cvm m (tb s (p + i)) (te s (p + i) - tb s (p + i)) 13 = m 13 := rfl
          generalize cvm m (tb s (p + i)) (te s (p + i) - tb s (p + i)) = m1 at *
          by_cases er : r = -1
          · subst er
            have hQ := hQ2 m1 i hF (Nat.le_refl i) (by omega) (fun g => by
              obtain ⟨r, g1, g2⟩ := g.2
              exact g2 (cvR_u g1 hcv))
            refine zgo 20 [] ?_
            repeat' (first
              | (show vp_in _ _; simp (disch := first | omega | decide) only [m11, zcn, zkpl, zki, zki1, zk8, zk16, zo32, zlt0, zle0, zeq0, zgt0, zLe0, nI_ltI, nI_leI, nI_eq, nI_add, nI_clamp, vp_in_nI, zup_s, zup_n, upd_s, upd_n, ne_eq, not_true_eq_false, not_false_eq_true]; done)
              | (intro hc; exfalso; simp (disch := first | omega | decide) only [m11, zcn, zkpl, zki, zki1, zk8, zk16, zo32, zlt0, zle0, zeq0, zgt0, zLe0, nI_ltI, nI_leI, nI_eq, nI_add, nI_clamp, vp_in_nI, zup_s, zup_n, upd_s, upd_n, ne_eq, not_true_eq_false, not_false_eq_true] at hc <;> omega)
              | (intro hc; exact absurd rfl hc)
              | intro hc
              | apply And.intro
              | exact hQ
              | (show Q _ (SH, _); simp (disch := first | omega | decide) only [m11, zcn, zkpl, zki, zki1, zk8, zk16, zo32, zlt0, zle0, zeq0, zgt0, zLe0, nI_ltI, nI_leI, nI_eq, nI_add, nI_clamp, vp_in_nI, zup_s, zup_n, upd_s, upd_n, ne_eq, not_true_eq_false, not_false_eq_true]; exact hQ)
              | exact Or.inl rfl
              | exact Or.inr rfl
              | (show (_ : Int32) = 0 ∨ _ = 1; simp (disch := first | omega | decide) only [m11, zcn, zkpl, zki, zki1, zk8, zk16, zo32, zlt0, zle0, zeq0, zgt0, zLe0, nI_ltI, nI_leI, nI_eq, nI_add, nI_clamp, vp_in_nI, zup_s, zup_n, upd_s, upd_n, ne_eq, not_true_eq_false, not_false_eq_true, zeq1, true_or, or_true]; done))
          · have er' := m1n er
            have e3 : nI i + Int32.ofInt 1 = nI (i + 1) := by rw [zki, nI_add]
            have W := ih (i + 1) (zup m1 13 (p + i) r) ((4, .int (nI (i + 1))) :: (6, .int r) :: (5, .int (nI (p + i))) :: [(0, .ref 11), (1, .int (nI p)), (2, .ref 1000011), (3, .int (nI dep))]) (by omega) (by omega) (hD.cg (fun a ha => by rw [zup_n _ (by omega), hF a (by omega) (by omega)])) (Or.inr ⟨_, _, rfl⟩) (fun m' w1 w2 w3 => hQ1 m' (fun a ha hb => by rw [w1 a ha hb, zup_n _ hb, hF a ha hb]) (fun k hk => by rw [w2 k (by omega), zup_s, upd_n _ (by omega), h13]) (fun i' q1 q2 => by
              by_cases e4 : i' = i
              · subst e4
                have : m' 13 (p + i') = r := by rw [w2 (p + i') (by omega), zup_s, upd_s]
                rw [this]
                exact ⟨e, hcv, er⟩
              · exact w3 i' (by omega) q2)) (fun m' i' w1 w2 w3 w4 => hQ2 m' i' (fun a ha hb => by rw [w1 a ha hb, zup_n _ hb, hF a ha hb]) (by omega) w3 w4)
            rw [← e3] at W
            refine zgo 30 [] ?_
            repeat' (first
              | (exact zcg (by simp (disch := first | omega | decide) only [zcn, zkpl, zki, zki1, zk8, zk16, zo32, zlt0, zle0, zeq0, zgt0, zLe0, nI_ltI, nI_leI, nI_eq, nI_add, nI_clamp, vp_in_nI, zup_s, zup_n, upd_s, upd_n, ne_eq, not_true_eq_false, not_false_eq_true]) W)
              | (show vp_in _ _; simp (disch := first | omega | decide) only [er', zcn, zkpl, zki, zki1, zk8, zk16, zo32, zlt0, zle0, zeq0, zgt0, zLe0, nI_ltI, nI_leI, nI_eq, nI_add, nI_clamp, vp_in_nI, zup_s, zup_n, upd_s, upd_n, ne_eq, not_true_eq_false, not_false_eq_true]; done)
              | (intro hc; exfalso; simp (disch := first | omega | decide) only [er', zcn, zkpl, zki, zki1, zk8, zk16, zo32, zlt0, zle0, zeq0, zgt0, zLe0, nI_ltI, nI_leI, nI_eq, nI_add, nI_clamp, vp_in_nI, zup_s, zup_n, upd_s, upd_n, ne_eq, not_true_eq_false, not_false_eq_true] at hc <;> omega)
              | (intro hc; exact absurd rfl hc)
              | intro hc
              | apply And.intro
              | exact Or.inl rfl
              | exact Or.inr rfl
              | (show (_ : Int32) = 0 ∨ _ = 1; simp (disch := first | omega | decide) only [er', zcn, zkpl, zki, zki1, zk8, zk16, zo32, zlt0, zle0, zeq0, zgt0, zLe0, nI_ltI, nI_leI, nI_eq, nI_add, nI_clamp, vp_in_nI, zup_s, zup_n, upd_s, upd_n, ne_eq, not_true_eq_false, not_false_eq_true, zeq1, true_or, or_true]; done))
        have f73x : ∀ x, ZW 33 (0, 0, 0, 0) 73 [(5, .int (nI (p + i))), (4, .int (nI i)), (6, .int x), (0, .ref 11), (1, .int (nI p)), (2, .ref 1000011), (3, .int (nI dep))] [.int 1] (SH, m) Q := by
          intro x
          refine zgo 10 [] ?_
          repeat' (first
            | (exact hread _ (fun r hr => f89x x r hr))
            | (show vp_in _ _; simp (disch := first | omega | decide) only [z10, zcn, zkpl, zki, zki1, zk8, zk16, zo32, zlt0, zle0, zeq0, zgt0, zLe0, nI_ltI, nI_leI, nI_eq, nI_add, nI_clamp, vp_in_nI, zup_s, zup_n, upd_s, upd_n, ne_eq, not_true_eq_false, not_false_eq_true]; done)
            | (intro hc; exfalso; simp (disch := first | omega | decide) only [z10, zcn, zkpl, zki, zki1, zk8, zk16, zo32, zlt0, zle0, zeq0, zgt0, zLe0, nI_ltI, nI_leI, nI_eq, nI_add, nI_clamp, vp_in_nI, zup_s, zup_n, upd_s, upd_n, ne_eq, not_true_eq_false, not_false_eq_true] at hc <;> omega)
            | (intro hc; exact absurd rfl hc)
            | intro hc
            | apply And.intro
            | exact Or.inl rfl
            | exact Or.inr rfl
            | (show (_ : Int32) = 0 ∨ _ = 1; simp (disch := first | omega | decide) only [z10, zcn, zkpl, zki, zki1, zk8, zk16, zo32, zlt0, zle0, zeq0, zgt0, zLe0, nI_ltI, nI_leI, nI_eq, nI_add, nI_clamp, vp_in_nI, zup_s, zup_n, upd_s, upd_n, ne_eq, not_true_eq_false, not_false_eq_true, zeq1, true_or, or_true]; done))
        intro T hT
        rcases hT with rfl | ⟨x, rfl⟩
        · refine zgo 20 [] ?_
          repeat' (first
            | (exact hat.use f73)
            | (show vp_in _ _; simp (disch := first | omega | decide) only [hln, zcn, zkpl, zki, zki1, zk8, zk16, zo32, zlt0, zle0, zeq0, zgt0, zLe0, nI_ltI, nI_leI, nI_eq, nI_add, nI_clamp, vp_in_nI, zup_s, zup_n, upd_s, upd_n, ne_eq, not_true_eq_false, not_false_eq_true]; done)
            | (intro hc; exfalso; simp (disch := first | omega | decide) only [hln, zcn, zkpl, zki, zki1, zk8, zk16, zo32, zlt0, zle0, zeq0, zgt0, zLe0, nI_ltI, nI_leI, nI_eq, nI_add, nI_clamp, vp_in_nI, zup_s, zup_n, upd_s, upd_n, ne_eq, not_true_eq_false, not_false_eq_true] at hc <;> omega)
            | (intro hc; exact absurd rfl hc)
            | intro hc
            | apply And.intro
            | exact Or.inl rfl
            | exact Or.inr rfl
            | (show (_ : Int32) = 0 ∨ _ = 1; simp (disch := first | omega | decide) only [hln, zcn, zkpl, zki, zki1, zk8, zk16, zo32, zlt0, zle0, zeq0, zgt0, zLe0, nI_ltI, nI_leI, nI_eq, nI_add, nI_clamp, vp_in_nI, zup_s, zup_n, upd_s, upd_n, ne_eq, not_true_eq_false, not_false_eq_true, zeq1, true_or, or_true]; done))
        · refine zgo 20 [] ?_
          repeat' (first
            | (exact hat.use (f73x x))
            | (show vp_in _ _; simp (disch := first | omega | decide) only [hln, zcn, zkpl, zki, zki1, zk8, zk16, zo32, zlt0, zle0, zeq0, zgt0, zLe0, nI_ltI, nI_leI, nI_eq, nI_add, nI_clamp, vp_in_nI, zup_s, zup_n, upd_s, upd_n, ne_eq, not_true_eq_false, not_false_eq_true]; done)
            | (intro hc; exfalso; simp (disch := first | omega | decide) only [hln, zcn, zkpl, zki, zki1, zk8, zk16, zo32, zlt0, zle0, zeq0, zgt0, zLe0, nI_ltI, nI_leI, nI_eq, nI_add, nI_clamp, vp_in_nI, zup_s, zup_n, upd_s, upd_n, ne_eq, not_true_eq_false, not_false_eq_true] at hc <;> omega)
            | (intro hc; exact absurd rfl hc)
            | intro hc
            | apply And.intro
            | exact Or.inl rfl
            | exact Or.inr rfl
            | (show (_ : Int32) = 0 ∨ _ = 1; simp (disch := first | omega | decide) only [hln, zcn, zkpl, zki, zki1, zk8, zk16, zo32, zlt0, zle0, zeq0, zgt0, zLe0, nI_ltI, nI_leI, nI_eq, nI_add, nI_clamp, vp_in_nI, zup_s, zup_n, upd_s, upd_n, ne_eq, not_true_eq_false, not_false_eq_true, zeq1, true_or, or_true]; done))
      · have hat := ev_isAt (k := p + i) (c := rl 1 i) (d := dep + 1) hD hN (by omega) hrl.1 (by omega) (fun i hi => ⟨(hb3 i hi).1, (hb3 i hi).2.1⟩) (b := 0) (Or.inr ⟨rfl, e⟩)
        rw [← ec, ← e1] at hat
        have hQ := hQ2 m i (fun _ _ _ => rfl) (Nat.le_refl i) (by omega) (fun g => e g.1)
        intro T hT
        rcases hT with rfl | ⟨x, rfl⟩
        · have f73 : ZW 33 (0, 0, 0, 0) 73 [(5, .int (nI (p + i))), (4, .int (nI i)), (0, .ref 11), (1, .int (nI p)), (2, .ref 1000011), (3, .int (nI dep))] [.int 0] (SH, m) Q := by
            refine zgo 20 [] ?_
            repeat' (first
              | (show vp_in _ _; simp (disch := first | omega | decide) only [m11, zcn, zkpl, zki, zki1, zk8, zk16, zo32, zlt0, zle0, zeq0, zgt0, zLe0, nI_ltI, nI_leI, nI_eq, nI_add, nI_clamp, vp_in_nI, zup_s, zup_n, upd_s, upd_n, ne_eq, not_true_eq_false, not_false_eq_true]; done)
              | (intro hc; exfalso; simp (disch := first | omega | decide) only [m11, zcn, zkpl, zki, zki1, zk8, zk16, zo32, zlt0, zle0, zeq0, zgt0, zLe0, nI_ltI, nI_leI, nI_eq, nI_add, nI_clamp, vp_in_nI, zup_s, zup_n, upd_s, upd_n, ne_eq, not_true_eq_false, not_false_eq_true] at hc <;> omega)
              | (intro hc; exact absurd rfl hc)
              | intro hc
              | apply And.intro
              | exact hQ
              | (show Q _ (SH, _); simp (disch := first | omega | decide) only [m11, zcn, zkpl, zki, zki1, zk8, zk16, zo32, zlt0, zle0, zeq0, zgt0, zLe0, nI_ltI, nI_leI, nI_eq, nI_add, nI_clamp, vp_in_nI, zup_s, zup_n, upd_s, upd_n, ne_eq, not_true_eq_false, not_false_eq_true]; exact hQ)
              | exact Or.inl rfl
              | exact Or.inr rfl
              | (show (_ : Int32) = 0 ∨ _ = 1; simp (disch := first | omega | decide) only [m11, zcn, zkpl, zki, zki1, zk8, zk16, zo32, zlt0, zle0, zeq0, zgt0, zLe0, nI_ltI, nI_leI, nI_eq, nI_add, nI_clamp, vp_in_nI, zup_s, zup_n, upd_s, upd_n, ne_eq, not_true_eq_false, not_false_eq_true, zeq1, true_or, or_true]; done))
          refine zgo 20 [] ?_
          repeat' (first
            | (exact hat.use f73)
            | (show vp_in _ _; simp (disch := first | omega | decide) only [hln, zcn, zkpl, zki, zki1, zk8, zk16, zo32, zlt0, zle0, zeq0, zgt0, zLe0, nI_ltI, nI_leI, nI_eq, nI_add, nI_clamp, vp_in_nI, zup_s, zup_n, upd_s, upd_n, ne_eq, not_true_eq_false, not_false_eq_true]; done)
            | (intro hc; exfalso; simp (disch := first | omega | decide) only [hln, zcn, zkpl, zki, zki1, zk8, zk16, zo32, zlt0, zle0, zeq0, zgt0, zLe0, nI_ltI, nI_leI, nI_eq, nI_add, nI_clamp, vp_in_nI, zup_s, zup_n, upd_s, upd_n, ne_eq, not_true_eq_false, not_false_eq_true] at hc <;> omega)
            | (intro hc; exact absurd rfl hc)
            | intro hc
            | apply And.intro
            | exact Or.inl rfl
            | exact Or.inr rfl
            | (show (_ : Int32) = 0 ∨ _ = 1; simp (disch := first | omega | decide) only [hln, zcn, zkpl, zki, zki1, zk8, zk16, zo32, zlt0, zle0, zeq0, zgt0, zLe0, nI_ltI, nI_leI, nI_eq, nI_add, nI_clamp, vp_in_nI, zup_s, zup_n, upd_s, upd_n, ne_eq, not_true_eq_false, not_false_eq_true, zeq1, true_or, or_true]; done))
        · have f73 : ZW 33 (0, 0, 0, 0) 73 [(5, .int (nI (p + i))), (4, .int (nI i)), (6, .int x), (0, .ref 11), (1, .int (nI p)), (2, .ref 1000011), (3, .int (nI dep))] [.int 0] (SH, m) Q := by
            refine zgo 20 [] ?_
            repeat' (first
              | (show vp_in _ _; simp (disch := first | omega | decide) only [m11, zcn, zkpl, zki, zki1, zk8, zk16, zo32, zlt0, zle0, zeq0, zgt0, zLe0, nI_ltI, nI_leI, nI_eq, nI_add, nI_clamp, vp_in_nI, zup_s, zup_n, upd_s, upd_n, ne_eq, not_true_eq_false, not_false_eq_true]; done)
              | (intro hc; exfalso; simp (disch := first | omega | decide) only [m11, zcn, zkpl, zki, zki1, zk8, zk16, zo32, zlt0, zle0, zeq0, zgt0, zLe0, nI_ltI, nI_leI, nI_eq, nI_add, nI_clamp, vp_in_nI, zup_s, zup_n, upd_s, upd_n, ne_eq, not_true_eq_false, not_false_eq_true] at hc <;> omega)
              | (intro hc; exact absurd rfl hc)
              | intro hc
              | apply And.intro
              | exact hQ
              | (show Q _ (SH, _); simp (disch := first | omega | decide) only [m11, zcn, zkpl, zki, zki1, zk8, zk16, zo32, zlt0, zle0, zeq0, zgt0, zLe0, nI_ltI, nI_leI, nI_eq, nI_add, nI_clamp, vp_in_nI, zup_s, zup_n, upd_s, upd_n, ne_eq, not_true_eq_false, not_false_eq_true]; exact hQ)
              | exact Or.inl rfl
              | exact Or.inr rfl
              | (show (_ : Int32) = 0 ∨ _ = 1; simp (disch := first | omega | decide) only [m11, zcn, zkpl, zki, zki1, zk8, zk16, zo32, zlt0, zle0, zeq0, zgt0, zLe0, nI_ltI, nI_leI, nI_eq, nI_add, nI_clamp, vp_in_nI, zup_s, zup_n, upd_s, upd_n, ne_eq, not_true_eq_false, not_false_eq_true, zeq1, true_or, or_true]; done))
          refine zgo 20 [] ?_
          repeat' (first
            | (exact hat.use f73)
            | (show vp_in _ _; simp (disch := first | omega | decide) only [hln, zcn, zkpl, zki, zki1, zk8, zk16, zo32, zlt0, zle0, zeq0, zgt0, zLe0, nI_ltI, nI_leI, nI_eq, nI_add, nI_clamp, vp_in_nI, zup_s, zup_n, upd_s, upd_n, ne_eq, not_true_eq_false, not_false_eq_true]; done)
            | (intro hc; exfalso; simp (disch := first | omega | decide) only [hln, zcn, zkpl, zki, zki1, zk8, zk16, zo32, zlt0, zle0, zeq0, zgt0, zLe0, nI_ltI, nI_leI, nI_eq, nI_add, nI_clamp, vp_in_nI, zup_s, zup_n, upd_s, upd_n, ne_eq, not_true_eq_false, not_false_eq_true] at hc <;> omega)
            | (intro hc; exact absurd rfl hc)
            | intro hc
            | apply And.intro
            | exact Or.inl rfl
            | exact Or.inr rfl
            | (show (_ : Int32) = 0 ∨ _ = 1; simp (disch := first | omega | decide) only [hln, zcn, zkpl, zki, zki1, zk8, zk16, zo32, zlt0, zle0, zeq0, zgt0, zLe0, nI_ltI, nI_leI, nI_eq, nI_add, nI_clamp, vp_in_nI, zup_s, zup_n, upd_s, upd_n, ne_eq, not_true_eq_false, not_false_eq_true, zeq1, true_or, or_true]; done))
    rw [← e5] at f55
    rcases hR with rfl | ⟨x, y, rfl⟩
    · have f := f55 _ (Or.inl rfl)
      refine zgo 8 [] ?_
      repeat' (first
        | (exact f)
        | (show vp_in _ _; simp (disch := first | omega | decide) only [hln, zcn, zkpl, zki, zki1, zk8, zk16, zo32, zlt0, zle0, zeq0, zgt0, zLe0, nI_ltI, nI_leI, nI_eq, nI_add, nI_clamp, vp_in_nI, zup_s, zup_n, upd_s, upd_n, ne_eq, not_true_eq_false, not_false_eq_true]; done)
        | (intro hc; exfalso; simp (disch := first | omega | decide) only [hln, zcn, zkpl, zki, zki1, zk8, zk16, zo32, zlt0, zle0, zeq0, zgt0, zLe0, nI_ltI, nI_leI, nI_eq, nI_add, nI_clamp, vp_in_nI, zup_s, zup_n, upd_s, upd_n, ne_eq, not_true_eq_false, not_false_eq_true] at hc <;> omega)
        | (intro hc; exact absurd rfl hc)
        | intro hc
        | apply And.intro
        | exact Or.inl rfl
        | exact Or.inr rfl
        | (show (_ : Int32) = 0 ∨ _ = 1; simp (disch := first | omega | decide) only [hln, zcn, zkpl, zki, zki1, zk8, zk16, zo32, zlt0, zle0, zeq0, zgt0, zLe0, nI_ltI, nI_leI, nI_eq, nI_add, nI_clamp, vp_in_nI, zup_s, zup_n, upd_s, upd_n, ne_eq, not_true_eq_false, not_false_eq_true, zeq1, true_or, or_true]; done))
    · have f := f55 _ (Or.inr ⟨x, rfl⟩)
      refine zgo 8 [] ?_
      repeat' (first
        | (exact f)
        | (show vp_in _ _; simp (disch := first | omega | decide) only [hln, zcn, zkpl, zki, zki1, zk8, zk16, zo32, zlt0, zle0, zeq0, zgt0, zLe0, nI_ltI, nI_leI, nI_eq, nI_add, nI_clamp, vp_in_nI, zup_s, zup_n, upd_s, upd_n, ne_eq, not_true_eq_false, not_false_eq_true]; done)
        | (intro hc; exfalso; simp (disch := first | omega | decide) only [hln, zcn, zkpl, zki, zki1, zk8, zk16, zo32, zlt0, zle0, zeq0, zgt0, zLe0, nI_ltI, nI_leI, nI_eq, nI_add, nI_clamp, vp_in_nI, zup_s, zup_n, upd_s, upd_n, ne_eq, not_true_eq_false, not_false_eq_true] at hc <;> omega)
        | (intro hc; exact absurd rfl hc)
        | intro hc
        | apply And.intro
        | exact Or.inl rfl
        | exact Or.inr rfl
        | (show (_ : Int32) = 0 ∨ _ = 1; simp (disch := first | omega | decide) only [hln, zcn, zkpl, zki, zki1, zk8, zk16, zo32, zlt0, zle0, zeq0, zgt0, zLe0, nI_ltI, nI_leI, nI_eq, nI_add, nI_clamp, vp_in_nI, zup_s, zup_n, upd_s, upd_n, ne_eq, not_true_eq_false, not_false_eq_true, zeq1, true_or, or_true]; done))
theorem tk_row1 {s : pS} (hr : rdy s) {p dep : Nat} (hp : p + 5 ≤ 19) (hdp : dep ≤ 3) {m : zM} (hD : tD m s) (Q : zQ) (hQ1 : ∀ m', vF m m' → (∀ k, k ≤ p → m' 13 k = m 13 k) → trO s p 1 dep → (∀ i', 1 ≤ i' → i' < 5 → cvR s (p + i') (m' 13 (p + i')) ∧ m' 13 (p + i') ≠ -1) → Q (some (.int 1)) (SH, m')) (hQ2 : ∀ m', vF m m' → ¬ trO s p 1 dep → Q (some (.int 0)) (SH, m')) : ZM 33 0 0 [.ref 11, .int (nI p), .ref 1000011, .int (nI dep)] (SH, m) Q := by
  have hr0 := hr
  obtain ⟨hs, hN, hb3⟩ := hr
  by_cases e : p < s 0 1 ∧ s 2 p = rl 1 0 ∧ s 3 p = dep
  · have hat := ev_isAt (k := p) (c := rl 1 0) (d := dep) hD hN (by omega) (by decide) (by omega) (fun i hi => ⟨(hb3 i hi).1, (hb3 i hi).2.1⟩) (b := 1) (Or.inl ⟨rfl, e⟩)
    by_cases e6 : s 6 p = 0
    · have hbl := ev_blanks hD hN e.1 (hb3 p e.1).2.2.2 (b := 1) (Or.inl ⟨rfl, e6⟩)
      have W := tw_loop1 hr0 hp hdp Q 4 1 m _ (by omega) (by omega) hD (Or.inl rfl) (fun m' w1 w2 w3 => hQ1 m' w1 (fun k hk => w2 k (by omega)) ⟨⟨e.1, e.2.1, e.2.2, e6⟩, fun i g1 g2 => ⟨(w3 i g1 g2).1, ⟨_, (w3 i g1 g2).2⟩⟩⟩ (fun i' g1 g2 => (w3 i' g1 g2).2)) (fun m' i' w1 w2 w3 w4 => hQ2 m' w1 (fun g => w4 (g.2 i' w2 w3)))
      have f32 : ZW 33 (0, 0, 0, 0) 32 [(0, .ref 11), (1, .int (nI p)), (2, .ref 1000011), (3, .int (nI dep))] [.int 1] (SH, m) Q := by
        refine zgo 10 [] ?_
        repeat' (first
          | (exact W)
          | (show vp_in _ _; simp (disch := first | omega | decide) only [z10, zcn, zkpl, zki, zki1, zk8, zk16, zo32, zlt0, zle0, zeq0, zgt0, zLe0, nI_ltI, nI_leI, nI_eq, nI_add, nI_clamp, vp_in_nI, zup_s, zup_n, upd_s, upd_n, ne_eq, not_true_eq_false, not_false_eq_true]; done)
          | (intro hc; exfalso; simp (disch := first | omega | decide) only [z10, zcn, zkpl, zki, zki1, zk8, zk16, zo32, zlt0, zle0, zeq0, zgt0, zLe0, nI_ltI, nI_leI, nI_eq, nI_add, nI_clamp, vp_in_nI, zup_s, zup_n, upd_s, upd_n, ne_eq, not_true_eq_false, not_false_eq_true] at hc <;> omega)
          | (intro hc; exact absurd rfl hc)
          | intro hc
          | apply And.intro
          | exact Or.inl rfl
          | exact Or.inr rfl
          | (show (_ : Int32) = 0 ∨ _ = 1; simp (disch := first | omega | decide) only [z10, zcn, zkpl, zki, zki1, zk8, zk16, zo32, zlt0, zle0, zeq0, zgt0, zLe0, nI_ltI, nI_leI, nI_eq, nI_add, nI_clamp, vp_in_nI, zup_s, zup_n, upd_s, upd_n, ne_eq, not_true_eq_false, not_false_eq_true, zeq1, true_or, or_true]; done))
      have f21 : ZW 33 (0, 0, 0, 0) 21 [(0, .ref 11), (1, .int (nI p)), (2, .ref 1000011), (3, .int (nI dep))] [.int 1] (SH, m) Q := by
        refine zgo 10 [] ?_
        repeat' (first
          | (exact hbl.use f32)
          | (show vp_in _ _; simp (disch := first | omega | decide) only [z10, zcn, zkpl, zki, zki1, zk8, zk16, zo32, zlt0, zle0, zeq0, zgt0, zLe0, nI_ltI, nI_leI, nI_eq, nI_add, nI_clamp, vp_in_nI, zup_s, zup_n, upd_s, upd_n, ne_eq, not_true_eq_false, not_false_eq_true]; done)
          | (intro hc; exfalso; simp (disch := first | omega | decide) only [z10, zcn, zkpl, zki, zki1, zk8, zk16, zo32, zlt0, zle0, zeq0, zgt0, zLe0, nI_ltI, nI_leI, nI_eq, nI_add, nI_clamp, vp_in_nI, zup_s, zup_n, upd_s, upd_n, ne_eq, not_true_eq_false, not_false_eq_true] at hc <;> omega)
          | (intro hc; exact absurd rfl hc)
          | intro hc
          | apply And.intro
          | exact Or.inl rfl
          | exact Or.inr rfl
          | (show (_ : Int32) = 0 ∨ _ = 1; simp (disch := first | omega | decide) only [z10, zcn, zkpl, zki, zki1, zk8, zk16, zo32, zlt0, zle0, zeq0, zgt0, zLe0, nI_ltI, nI_leI, nI_eq, nI_add, nI_clamp, vp_in_nI, zup_s, zup_n, upd_s, upd_n, ne_eq, not_true_eq_false, not_false_eq_true, zeq1, true_or, or_true]; done))
      refine zgo 20 [] ?_
      repeat' (first
        | (exact hat.use f21)
        | (show vp_in _ _; simp (disch := first | omega | decide) only [zcn, zkpl, zki, zki1, zk8, zk16, zo32, zlt0, zle0, zeq0, zgt0, zLe0, nI_ltI, nI_leI, nI_eq, nI_add, nI_clamp, vp_in_nI, zup_s, zup_n, upd_s, upd_n, ne_eq, not_true_eq_false, not_false_eq_true]; done)
        | (intro hc; exfalso; simp (disch := first | omega | decide) only [zcn, zkpl, zki, zki1, zk8, zk16, zo32, zlt0, zle0, zeq0, zgt0, zLe0, nI_ltI, nI_leI, nI_eq, nI_add, nI_clamp, vp_in_nI, zup_s, zup_n, upd_s, upd_n, ne_eq, not_true_eq_false, not_false_eq_true] at hc <;> omega)
        | (intro hc; exact absurd rfl hc)
        | intro hc
        | apply And.intro
        | exact Or.inl rfl
        | exact Or.inr rfl
        | (show (_ : Int32) = 0 ∨ _ = 1; simp (disch := first | omega | decide) only [zcn, zkpl, zki, zki1, zk8, zk16, zo32, zlt0, zle0, zeq0, zgt0, zLe0, nI_ltI, nI_leI, nI_eq, nI_add, nI_clamp, vp_in_nI, zup_s, zup_n, upd_s, upd_n, ne_eq, not_true_eq_false, not_false_eq_true, zeq1, true_or, or_true]; done))
    · have hbl := ev_blanks hD hN e.1 (hb3 p e.1).2.2.2 (b := 0) (Or.inr ⟨rfl, e6⟩)
      have hQ := hQ2 m (fun _ _ _ => rfl) (fun g => e6 g.1.2.2.2)
      have f32 : ZW 33 (0, 0, 0, 0) 32 [(0, .ref 11), (1, .int (nI p)), (2, .ref 1000011), (3, .int (nI dep))] [.int 0] (SH, m) Q := by
        refine zgo 10 [] ?_
        repeat' (first
          | (show vp_in _ _; simp (disch := first | omega | decide) only [z10, zcn, zkpl, zki, zki1, zk8, zk16, zo32, zlt0, zle0, zeq0, zgt0, zLe0, nI_ltI, nI_leI, nI_eq, nI_add, nI_clamp, vp_in_nI, zup_s, zup_n, upd_s, upd_n, ne_eq, not_true_eq_false, not_false_eq_true]; done)
          | (intro hc; exfalso; simp (disch := first | omega | decide) only [z10, zcn, zkpl, zki, zki1, zk8, zk16, zo32, zlt0, zle0, zeq0, zgt0, zLe0, nI_ltI, nI_leI, nI_eq, nI_add, nI_clamp, vp_in_nI, zup_s, zup_n, upd_s, upd_n, ne_eq, not_true_eq_false, not_false_eq_true] at hc <;> omega)
          | (intro hc; exact absurd rfl hc)
          | intro hc
          | apply And.intro
          | exact hQ
          | (show Q _ (SH, _); simp (disch := first | omega | decide) only [z10, zcn, zkpl, zki, zki1, zk8, zk16, zo32, zlt0, zle0, zeq0, zgt0, zLe0, nI_ltI, nI_leI, nI_eq, nI_add, nI_clamp, vp_in_nI, zup_s, zup_n, upd_s, upd_n, ne_eq, not_true_eq_false, not_false_eq_true]; exact hQ)
          | exact Or.inl rfl
          | exact Or.inr rfl
          | (show (_ : Int32) = 0 ∨ _ = 1; simp (disch := first | omega | decide) only [z10, zcn, zkpl, zki, zki1, zk8, zk16, zo32, zlt0, zle0, zeq0, zgt0, zLe0, nI_ltI, nI_leI, nI_eq, nI_add, nI_clamp, vp_in_nI, zup_s, zup_n, upd_s, upd_n, ne_eq, not_true_eq_false, not_false_eq_true, zeq1, true_or, or_true]; done))
      have f21 : ZW 33 (0, 0, 0, 0) 21 [(0, .ref 11), (1, .int (nI p)), (2, .ref 1000011), (3, .int (nI dep))] [.int 1] (SH, m) Q := by
        refine zgo 10 [] ?_
        repeat' (first
          | (exact hbl.use f32)
          | (show vp_in _ _; simp (disch := first | omega | decide) only [z10, zcn, zkpl, zki, zki1, zk8, zk16, zo32, zlt0, zle0, zeq0, zgt0, zLe0, nI_ltI, nI_leI, nI_eq, nI_add, nI_clamp, vp_in_nI, zup_s, zup_n, upd_s, upd_n, ne_eq, not_true_eq_false, not_false_eq_true]; done)
          | (intro hc; exfalso; simp (disch := first | omega | decide) only [z10, zcn, zkpl, zki, zki1, zk8, zk16, zo32, zlt0, zle0, zeq0, zgt0, zLe0, nI_ltI, nI_leI, nI_eq, nI_add, nI_clamp, vp_in_nI, zup_s, zup_n, upd_s, upd_n, ne_eq, not_true_eq_false, not_false_eq_true] at hc <;> omega)
          | (intro hc; exact absurd rfl hc)
          | intro hc
          | apply And.intro
          | exact Or.inl rfl
          | exact Or.inr rfl
          | (show (_ : Int32) = 0 ∨ _ = 1; simp (disch := first | omega | decide) only [z10, zcn, zkpl, zki, zki1, zk8, zk16, zo32, zlt0, zle0, zeq0, zgt0, zLe0, nI_ltI, nI_leI, nI_eq, nI_add, nI_clamp, vp_in_nI, zup_s, zup_n, upd_s, upd_n, ne_eq, not_true_eq_false, not_false_eq_true, zeq1, true_or, or_true]; done))
      refine zgo 20 [] ?_
      repeat' (first
        | (exact hat.use f21)
        | (show vp_in _ _; simp (disch := first | omega | decide) only [zcn, zkpl, zki, zki1, zk8, zk16, zo32, zlt0, zle0, zeq0, zgt0, zLe0, nI_ltI, nI_leI, nI_eq, nI_add, nI_clamp, vp_in_nI, zup_s, zup_n, upd_s, upd_n, ne_eq, not_true_eq_false, not_false_eq_true]; done)
        | (intro hc; exfalso; simp (disch := first | omega | decide) only [zcn, zkpl, zki, zki1, zk8, zk16, zo32, zlt0, zle0, zeq0, zgt0, zLe0, nI_ltI, nI_leI, nI_eq, nI_add, nI_clamp, vp_in_nI, zup_s, zup_n, upd_s, upd_n, ne_eq, not_true_eq_false, not_false_eq_true] at hc <;> omega)
        | (intro hc; exact absurd rfl hc)
        | intro hc
        | apply And.intro
        | exact Or.inl rfl
        | exact Or.inr rfl
        | (show (_ : Int32) = 0 ∨ _ = 1; simp (disch := first | omega | decide) only [zcn, zkpl, zki, zki1, zk8, zk16, zo32, zlt0, zle0, zeq0, zgt0, zLe0, nI_ltI, nI_leI, nI_eq, nI_add, nI_clamp, vp_in_nI, zup_s, zup_n, upd_s, upd_n, ne_eq, not_true_eq_false, not_false_eq_true, zeq1, true_or, or_true]; done))
  · have hat := ev_isAt (k := p) (c := rl 1 0) (d := dep) hD hN (by omega) (by decide) (by omega) (fun i hi => ⟨(hb3 i hi).1, (hb3 i hi).2.1⟩) (b := 0) (Or.inr ⟨rfl, e⟩)
    have hQ := hQ2 m (fun _ _ _ => rfl) (fun g => e ⟨g.1.1, g.1.2.1, g.1.2.2.1⟩)
    have f21 : ZW 33 (0, 0, 0, 0) 21 [(0, .ref 11), (1, .int (nI p)), (2, .ref 1000011), (3, .int (nI dep))] [.int 0] (SH, m) Q := by
      refine zgo 10 [] ?_
      repeat' (first
        | (show vp_in _ _; simp (disch := first | omega | decide) only [z10, zcn, zkpl, zki, zki1, zk8, zk16, zo32, zlt0, zle0, zeq0, zgt0, zLe0, nI_ltI, nI_leI, nI_eq, nI_add, nI_clamp, vp_in_nI, zup_s, zup_n, upd_s, upd_n, ne_eq, not_true_eq_false, not_false_eq_true]; done)
        | (intro hc; exfalso; simp (disch := first | omega | decide) only [z10, zcn, zkpl, zki, zki1, zk8, zk16, zo32, zlt0, zle0, zeq0, zgt0, zLe0, nI_ltI, nI_leI, nI_eq, nI_add, nI_clamp, vp_in_nI, zup_s, zup_n, upd_s, upd_n, ne_eq, not_true_eq_false, not_false_eq_true] at hc <;> omega)
        | (intro hc; exact absurd rfl hc)
        | intro hc
        | apply And.intro
        | exact hQ
        | (show Q _ (SH, _); simp (disch := first | omega | decide) only [z10, zcn, zkpl, zki, zki1, zk8, zk16, zo32, zlt0, zle0, zeq0, zgt0, zLe0, nI_ltI, nI_leI, nI_eq, nI_add, nI_clamp, vp_in_nI, zup_s, zup_n, upd_s, upd_n, ne_eq, not_true_eq_false, not_false_eq_true]; exact hQ)
        | exact Or.inl rfl
        | exact Or.inr rfl
        | (show (_ : Int32) = 0 ∨ _ = 1; simp (disch := first | omega | decide) only [z10, zcn, zkpl, zki, zki1, zk8, zk16, zo32, zlt0, zle0, zeq0, zgt0, zLe0, nI_ltI, nI_leI, nI_eq, nI_add, nI_clamp, vp_in_nI, zup_s, zup_n, upd_s, upd_n, ne_eq, not_true_eq_false, not_false_eq_true, zeq1, true_or, or_true]; done))
    refine zgo 20 [] ?_
    repeat' (first
      | (exact hat.use f21)
      | (show vp_in _ _; simp (disch := first | omega | decide) only [zcn, zkpl, zki, zki1, zk8, zk16, zo32, zlt0, zle0, zeq0, zgt0, zLe0, nI_ltI, nI_leI, nI_eq, nI_add, nI_clamp, vp_in_nI, zup_s, zup_n, upd_s, upd_n, ne_eq, not_true_eq_false, not_false_eq_true]; done)
      | (intro hc; exfalso; simp (disch := first | omega | decide) only [zcn, zkpl, zki, zki1, zk8, zk16, zo32, zlt0, zle0, zeq0, zgt0, zLe0, nI_ltI, nI_leI, nI_eq, nI_add, nI_clamp, vp_in_nI, zup_s, zup_n, upd_s, upd_n, ne_eq, not_true_eq_false, not_false_eq_true] at hc <;> omega)
      | (intro hc; exact absurd rfl hc)
      | intro hc
      | apply And.intro
      | exact Or.inl rfl
      | exact Or.inr rfl
      | (show (_ : Int32) = 0 ∨ _ = 1; simp (disch := first | omega | decide) only [zcn, zkpl, zki, zki1, zk8, zk16, zo32, zlt0, zle0, zeq0, zgt0, zLe0, nI_ltI, nI_leI, nI_eq, nI_add, nI_clamp, vp_in_nI, zup_s, zup_n, upd_s, upd_n, ne_eq, not_true_eq_false, not_false_eq_true, zeq1, true_or, or_true]; done))
theorem tw_loop2 {s : pS} (hr : rdy s) {p dep : Nat} (hp : p + 4 ≤ 19) (hdp : dep ≤ 3) (Q : zQ) : ∀ (n i : Nat) (m : zM) (R : zLs), 1 ≤ i → i + n = 4 → tD m s → twL p i [(0, .ref 11), (1, .int (nI p)), (2, .ref 1000012), (3, .int (nI dep))] R → (∀ m', vF m m' → (∀ k, k < p + i → m' 13 k = m 13 k) → (∀ i', i ≤ i' → i' < 4 → rwO s p 2 dep i' ∧ cvR s (p + i') (m' 13 (p + i')) ∧ m' 13 (p + i') ≠ -1) → Q (some (.int 1)) (SH, m')) → (∀ m' i', vF m m' → i ≤ i' → i' < 4 → ¬ (rwO s p 2 dep i' ∧ gV s (p + i')) → Q (some (.int 0)) (SH, m')) → ZW 33 (0, 0, 0, 0) 40 R [] (SH, m) Q := by
  obtain ⟨hs, hN, hb3⟩ := hr
  intro n
  induction n with
  | zero =>
    intro i m R h1 hi hD hR hQ1 _
    have hQ := hQ1 m (fun _ _ _ => rfl) (fun _ _ => rfl) (fun i' g1 g2 => by omega)
    obtain rfl : i = 4 := by omega
    rcases hR with rfl | ⟨x, y, rfl⟩
    · refine zgo 20 [] ?_
      repeat' (first
        | (show vp_in _ _; simp (disch := first | omega | decide) only [zcn, zkpl, zki, zki1, zk8, zk16, zo32, zlt0, zle0, zeq0, zgt0, zLe0, nI_ltI, nI_leI, nI_eq, nI_add, nI_clamp, vp_in_nI, zup_s, zup_n, upd_s, upd_n, ne_eq, not_true_eq_false, not_false_eq_true]; done)
        | (intro hc; exfalso; simp (disch := first | omega | decide) only [zcn, zkpl, zki, zki1, zk8, zk16, zo32, zlt0, zle0, zeq0, zgt0, zLe0, nI_ltI, nI_leI, nI_eq, nI_add, nI_clamp, vp_in_nI, zup_s, zup_n, upd_s, upd_n, ne_eq, not_true_eq_false, not_false_eq_true] at hc <;> omega)
        | (intro hc; exact absurd rfl hc)
        | intro hc
        | apply And.intro
        | exact hQ
        | (show Q _ (SH, _); simp (disch := first | omega | decide) only [zcn, zkpl, zki, zki1, zk8, zk16, zo32, zlt0, zle0, zeq0, zgt0, zLe0, nI_ltI, nI_leI, nI_eq, nI_add, nI_clamp, vp_in_nI, zup_s, zup_n, upd_s, upd_n, ne_eq, not_true_eq_false, not_false_eq_true]; exact hQ)
        | exact Or.inl rfl
        | exact Or.inr rfl
        | (show (_ : Int32) = 0 ∨ _ = 1; simp (disch := first | omega | decide) only [zcn, zkpl, zki, zki1, zk8, zk16, zo32, zlt0, zle0, zeq0, zgt0, zLe0, nI_ltI, nI_leI, nI_eq, nI_add, nI_clamp, vp_in_nI, zup_s, zup_n, upd_s, upd_n, ne_eq, not_true_eq_false, not_false_eq_true, zeq1, true_or, or_true]; done))
    · refine zgo 20 [] ?_
      repeat' (first
        | (show vp_in _ _; simp (disch := first | omega | decide) only [zcn, zkpl, zki, zki1, zk8, zk16, zo32, zlt0, zle0, zeq0, zgt0, zLe0, nI_ltI, nI_leI, nI_eq, nI_add, nI_clamp, vp_in_nI, zup_s, zup_n, upd_s, upd_n, ne_eq, not_true_eq_false, not_false_eq_true]; done)
        | (intro hc; exfalso; simp (disch := first | omega | decide) only [zcn, zkpl, zki, zki1, zk8, zk16, zo32, zlt0, zle0, zeq0, zgt0, zLe0, nI_ltI, nI_leI, nI_eq, nI_add, nI_clamp, vp_in_nI, zup_s, zup_n, upd_s, upd_n, ne_eq, not_true_eq_false, not_false_eq_true] at hc <;> omega)
        | (intro hc; exact absurd rfl hc)
        | intro hc
        | apply And.intro
        | exact hQ
        | (show Q _ (SH, _); simp (disch := first | omega | decide) only [zcn, zkpl, zki, zki1, zk8, zk16, zo32, zlt0, zle0, zeq0, zgt0, zLe0, nI_ltI, nI_leI, nI_eq, nI_add, nI_clamp, vp_in_nI, zup_s, zup_n, upd_s, upd_n, ne_eq, not_true_eq_false, not_false_eq_true]; exact hQ)
        | exact Or.inl rfl
        | exact Or.inr rfl
        | (show (_ : Int32) = 0 ∨ _ = 1; simp (disch := first | omega | decide) only [zcn, zkpl, zki, zki1, zk8, zk16, zo32, zlt0, zle0, zeq0, zgt0, zLe0, nI_ltI, nI_leI, nI_eq, nI_add, nI_clamp, vp_in_nI, zup_s, zup_n, upd_s, upd_n, ne_eq, not_true_eq_false, not_false_eq_true, zeq1, true_or, or_true]; done))
  | succ n ih =>
    intro i m R h1 hi hD hR hQ1 hQ2
    have e5 : nI p + nI i = nI (p + i) := nI_add p i
    have hln : (zSS.getD (1000012 - 1000010) []).length = 4 := rfl
    have ec : zSc 1000012 (nI i).toNatClampNeg = nI (rl 2 i) := by
      rw [nI_clamp (by omega)]
      rfl
    have hrl : rl 2 i ≤ 126 ∧ (rl 2 i = 73 ∨ rl 2 i = 69 ∨ rl 2 i = 79 ∨ rl 2 i = 78 ∨ rl 2 i = 68 ∨ rl 2 i = 67 ∨ rl 2 i = 86 ∨ rl 2 i = 83 ∨ rl 2 i = 65) := by
      rcases (show i = 1 ∨ i = 2 ∨ i = 3 by omega) with rfl | rfl | rfl <;> decide
    have e1 : nI dep + Int32.ofInt 1 = nI (dep + 1) := by rw [zki, nI_add]
    have f55 : ∀ T, (T = [(0, .ref 11), (1, .int (nI p)), (2, .ref 1000012), (3, .int (nI dep))] ∨ ∃ x, T = (6, .int x) :: [(0, .ref 11), (1, .int (nI p)), (2, .ref 1000012), (3, .int (nI dep))]) → ZW 33 (0, 0, 0, 0) 55 ((5, .int (nI (p + i))) :: (4, .int (nI i)) :: T) [] (SH, m) Q := by
      by_cases e : rwO s p 2 dep i
      · have hat := ev_isAt (k := p + i) (c := rl 2 i) (d := dep + 1) hD hN (by omega) hrl.1 (by omega) (fun i hi => ⟨(hb3 i hi).1, (hb3 i hi).2.1⟩) (b := 1) (Or.inl ⟨rfl, e⟩)
        rw [← ec, ← e1] at hat
        have e' := e
        obtain ⟨g1, g2, g3⟩ := e'
        have hread := ev_read hD hs hN g1 (hb3 _ g1).2.2.1 (by rw [g2]; exact hrl.2)
        have f89 : ∀ r, cvR s (p + i) r → ZW 33 (0, 0, 0, 0) 85 [(5, .int (nI (p + i))), (4, .int (nI i)), (0, .ref 11), (1, .int (nI p)), (2, .ref 1000012), (3, .int (nI dep))] [.int r] (SH, cvm m (tb s (p + i)) (te s (p + i) - tb s (p + i))) Q := by
          intro r hcv
          have hF : vF m (cvm m (tb s (p + i)) (te s (p + i) - tb s (p + i))) := fun b hb1 hb2 => by
            unfold cvm
            rw [zup_n _ hb1, zup_n _ hb1]
          have h13 : cvm m (tb s (p + i)) (te s (p + i) - tb s (p + i)) 13 = m 13 := rfl
          generalize cvm m (tb s (p + i)) (te s (p + i) - tb s (p + i)) = m1 at *
          by_cases er : r = -1
          · subst er
            have hQ := hQ2 m1 i hF (Nat.le_refl i) (by omega) (fun g => by
              obtain ⟨r, g1, g2⟩ := g.2
              exact g2 (cvR_u g1 hcv))
            refine zgo 20 [] ?_
            repeat' (first
              | (show vp_in _ _; simp (disch := first | omega | decide) only [m11, zcn, zkpl, zki, zki1, zk8, zk16, zo32, zlt0, zle0, zeq0, zgt0, zLe0, nI_ltI, nI_leI, nI_eq, nI_add, nI_clamp, vp_in_nI, zup_s, zup_n, upd_s, upd_n, ne_eq, not_true_eq_false, not_false_eq_true]; done)
              | (intro hc; exfalso; simp (disch := first | omega | decide) only [m11, zcn, zkpl, zki, zki1, zk8, zk16, zo32, zlt0, zle0, zeq0, zgt0, zLe0, nI_ltI, nI_leI, nI_eq, nI_add, nI_clamp, vp_in_nI, zup_s, zup_n, upd_s, upd_n, ne_eq, not_true_eq_false, not_false_eq_true] at hc <;> omega)
              | (intro hc; exact absurd rfl hc)
              | intro hc
              | apply And.intro
              | exact hQ
              | (show Q _ (SH, _); simp (disch := first | omega | decide) only [m11, zcn, zkpl, zki, zki1, zk8, zk16, zo32, zlt0, zle0, zeq0, zgt0, zLe0, nI_ltI, nI_leI, nI_eq, nI_add, nI_clamp, vp_in_nI, zup_s, zup_n, upd_s, upd_n, ne_eq, not_true_eq_false, not_false_eq_true]; exact hQ)
              | exact Or.inl rfl
              | exact Or.inr rfl
              | (show (_ : Int32) = 0 ∨ _ = 1; simp (disch := first | omega | decide) only [m11, zcn, zkpl, zki, zki1, zk8, zk16, zo32, zlt0, zle0, zeq0, zgt0, zLe0, nI_ltI, nI_leI, nI_eq, nI_add, nI_clamp, vp_in_nI, zup_s, zup_n, upd_s, upd_n, ne_eq, not_true_eq_false, not_false_eq_true, zeq1, true_or, or_true]; done))
          · have er' := m1n er
            have e3 : nI i + Int32.ofInt 1 = nI (i + 1) := by rw [zki, nI_add]
            have W := ih (i + 1) (zup m1 13 (p + i) r) ((4, .int (nI (i + 1))) :: (6, .int r) :: (5, .int (nI (p + i))) :: [(0, .ref 11), (1, .int (nI p)), (2, .ref 1000012), (3, .int (nI dep))]) (by omega) (by omega) (hD.cg (fun a ha => by rw [zup_n _ (by omega), hF a (by omega) (by omega)])) (Or.inr ⟨_, _, rfl⟩) (fun m' w1 w2 w3 => hQ1 m' (fun a ha hb => by rw [w1 a ha hb, zup_n _ hb, hF a ha hb]) (fun k hk => by rw [w2 k (by omega), zup_s, upd_n _ (by omega), h13]) (fun i' q1 q2 => by
              by_cases e4 : i' = i
              · subst e4
                have : m' 13 (p + i') = r := by rw [w2 (p + i') (by omega), zup_s, upd_s]
                rw [this]
                exact ⟨e, hcv, er⟩
              · exact w3 i' (by omega) q2)) (fun m' i' w1 w2 w3 w4 => hQ2 m' i' (fun a ha hb => by rw [w1 a ha hb, zup_n _ hb, hF a ha hb]) (by omega) w3 w4)
            rw [← e3] at W
            refine zgo 30 [] ?_
            repeat' (first
              | (exact zcg (by simp (disch := first | omega | decide) only [zcn, zkpl, zki, zki1, zk8, zk16, zo32, zlt0, zle0, zeq0, zgt0, zLe0, nI_ltI, nI_leI, nI_eq, nI_add, nI_clamp, vp_in_nI, zup_s, zup_n, upd_s, upd_n, ne_eq, not_true_eq_false, not_false_eq_true]) W)
              | (show vp_in _ _; simp (disch := first | omega | decide) only [er', zcn, zkpl, zki, zki1, zk8, zk16, zo32, zlt0, zle0, zeq0, zgt0, zLe0, nI_ltI, nI_leI, nI_eq, nI_add, nI_clamp, vp_in_nI, zup_s, zup_n, upd_s, upd_n, ne_eq, not_true_eq_false, not_false_eq_true]; done)
              | (intro hc; exfalso; simp (disch := first | omega | decide) only [er', zcn, zkpl, zki, zki1, zk8, zk16, zo32, zlt0, zle0, zeq0, zgt0, zLe0, nI_ltI, nI_leI, nI_eq, nI_add, nI_clamp, vp_in_nI, zup_s, zup_n, upd_s, upd_n, ne_eq, not_true_eq_false, not_false_eq_true] at hc <;> omega)
              | (intro hc; exact absurd rfl hc)
              | intro hc
              | apply And.intro
              | exact Or.inl rfl
              | exact Or.inr rfl
              | (show (_ : Int32) = 0 ∨ _ = 1; simp (disch := first | omega | decide) only [er', zcn, zkpl, zki, zki1, zk8, zk16, zo32, zlt0, zle0, zeq0, zgt0, zLe0, nI_ltI, nI_leI, nI_eq, nI_add, nI_clamp, vp_in_nI, zup_s, zup_n, upd_s, upd_n, ne_eq, not_true_eq_false, not_false_eq_true, zeq1, true_or, or_true]; done))
        have f73 : ZW 33 (0, 0, 0, 0) 73 [(5, .int (nI (p + i))), (4, .int (nI i)), (0, .ref 11), (1, .int (nI p)), (2, .ref 1000012), (3, .int (nI dep))] [.int 1] (SH, m) Q := by
          refine zgo 10 [] ?_
          repeat' (first
            | (exact hread _ (fun r hr => f89 r hr))
            | (show vp_in _ _; simp (disch := first | omega | decide) only [z10, zcn, zkpl, zki, zki1, zk8, zk16, zo32, zlt0, zle0, zeq0, zgt0, zLe0, nI_ltI, nI_leI, nI_eq, nI_add, nI_clamp, vp_in_nI, zup_s, zup_n, upd_s, upd_n, ne_eq, not_true_eq_false, not_false_eq_true]; done)
            | (intro hc; exfalso; simp (disch := first | omega | decide) only [z10, zcn, zkpl, zki, zki1, zk8, zk16, zo32, zlt0, zle0, zeq0, zgt0, zLe0, nI_ltI, nI_leI, nI_eq, nI_add, nI_clamp, vp_in_nI, zup_s, zup_n, upd_s, upd_n, ne_eq, not_true_eq_false, not_false_eq_true] at hc <;> omega)
            | (intro hc; exact absurd rfl hc)
            | intro hc
            | apply And.intro
            | exact Or.inl rfl
            | exact Or.inr rfl
            | (show (_ : Int32) = 0 ∨ _ = 1; simp (disch := first | omega | decide) only [z10, zcn, zkpl, zki, zki1, zk8, zk16, zo32, zlt0, zle0, zeq0, zgt0, zLe0, nI_ltI, nI_leI, nI_eq, nI_add, nI_clamp, vp_in_nI, zup_s, zup_n, upd_s, upd_n, ne_eq, not_true_eq_false, not_false_eq_true, zeq1, true_or, or_true]; done))
        have f89x : ∀ x r, cvR s (p + i) r → ZW 33 (0, 0, 0, 0) 85 [(5, .int (nI (p + i))), (4, .int (nI i)), (6, .int x), (0, .ref 11), (1, .int (nI p)), (2, .ref 1000012), (3, .int (nI dep))] [.int r] (SH, cvm m (tb s (p + i)) (te s (p + i) - tb s (p + i))) Q := by
          intro x r hcv
          have hF : vF m (cvm m (tb s (p + i)) (te s (p + i) - tb s (p + i))) := fun b hb1 hb2 => by
            unfold cvm
            rw [zup_n _ hb1, zup_n _ hb1]
          have h13 : cvm m (tb s (p + i)) (te s (p + i) - tb s (p + i)) 13 = m 13 := rfl
          generalize cvm m (tb s (p + i)) (te s (p + i) - tb s (p + i)) = m1 at *
          by_cases er : r = -1
          · subst er
            have hQ := hQ2 m1 i hF (Nat.le_refl i) (by omega) (fun g => by
              obtain ⟨r, g1, g2⟩ := g.2
              exact g2 (cvR_u g1 hcv))
            refine zgo 20 [] ?_
            repeat' (first
              | (show vp_in _ _; simp (disch := first | omega | decide) only [m11, zcn, zkpl, zki, zki1, zk8, zk16, zo32, zlt0, zle0, zeq0, zgt0, zLe0, nI_ltI, nI_leI, nI_eq, nI_add, nI_clamp, vp_in_nI, zup_s, zup_n, upd_s, upd_n, ne_eq, not_true_eq_false, not_false_eq_true]; done)
              | (intro hc; exfalso; simp (disch := first | omega | decide) only [m11, zcn, zkpl, zki, zki1, zk8, zk16, zo32, zlt0, zle0, zeq0, zgt0, zLe0, nI_ltI, nI_leI, nI_eq, nI_add, nI_clamp, vp_in_nI, zup_s, zup_n, upd_s, upd_n, ne_eq, not_true_eq_false, not_false_eq_true] at hc <;> omega)
              | (intro hc; exact absurd rfl hc)
              | intro hc
              | apply And.intro
              | exact hQ
              | (show Q _ (SH, _); simp (disch := first | omega | decide) only [m11, zcn, zkpl, zki, zki1, zk8, zk16, zo32, zlt0, zle0, zeq0, zgt0, zLe0, nI_ltI, nI_leI, nI_eq, nI_add, nI_clamp, vp_in_nI, zup_s, zup_n, upd_s, upd_n, ne_eq, not_true_eq_false, not_false_eq_true]; exact hQ)
              | exact Or.inl rfl
              | exact Or.inr rfl
              | (show (_ : Int32) = 0 ∨ _ = 1; simp (disch := first | omega | decide) only [m11, zcn, zkpl, zki, zki1, zk8, zk16, zo32, zlt0, zle0, zeq0, zgt0, zLe0, nI_ltI, nI_leI, nI_eq, nI_add, nI_clamp, vp_in_nI, zup_s, zup_n, upd_s, upd_n, ne_eq, not_true_eq_false, not_false_eq_true, zeq1, true_or, or_true]; done))
          · have er' := m1n er
            have e3 : nI i + Int32.ofInt 1 = nI (i + 1) := by rw [zki, nI_add]
            have W := ih (i + 1) (zup m1 13 (p + i) r) ((4, .int (nI (i + 1))) :: (6, .int r) :: (5, .int (nI (p + i))) :: [(0, .ref 11), (1, .int (nI p)), (2, .ref 1000012), (3, .int (nI dep))]) (by omega) (by omega) (hD.cg (fun a ha => by rw [zup_n _ (by omega), hF a (by omega) (by omega)])) (Or.inr ⟨_, _, rfl⟩) (fun m' w1 w2 w3 => hQ1 m' (fun a ha hb => by rw [w1 a ha hb, zup_n _ hb, hF a ha hb]) (fun k hk => by rw [w2 k (by omega), zup_s, upd_n _ (by omega), h13]) (fun i' q1 q2 => by
              by_cases e4 : i' = i
              · subst e4
                have : m' 13 (p + i') = r := by rw [w2 (p + i') (by omega), zup_s, upd_s]
                rw [this]
                exact ⟨e, hcv, er⟩
              · exact w3 i' (by omega) q2)) (fun m' i' w1 w2 w3 w4 => hQ2 m' i' (fun a ha hb => by rw [w1 a ha hb, zup_n _ hb, hF a ha hb]) (by omega) w3 w4)
            rw [← e3] at W
            refine zgo 30 [] ?_
            repeat' (first
              | (exact zcg (by simp (disch := first | omega | decide) only [zcn, zkpl, zki, zki1, zk8, zk16, zo32, zlt0, zle0, zeq0, zgt0, zLe0, nI_ltI, nI_leI, nI_eq, nI_add, nI_clamp, vp_in_nI, zup_s, zup_n, upd_s, upd_n, ne_eq, not_true_eq_false, not_false_eq_true]) W)
              | (show vp_in _ _; simp (disch := first | omega | decide) only [er', zcn, zkpl, zki, zki1, zk8, zk16, zo32, zlt0, zle0, zeq0, zgt0, zLe0, nI_ltI, nI_leI, nI_eq, nI_add, nI_clamp, vp_in_nI, zup_s, zup_n, upd_s, upd_n, ne_eq, not_true_eq_false, not_false_eq_true]; done)
              | (intro hc; exfalso; simp (disch := first | omega | decide) only [er', zcn, zkpl, zki, zki1, zk8, zk16, zo32, zlt0, zle0, zeq0, zgt0, zLe0, nI_ltI, nI_leI, nI_eq, nI_add, nI_clamp, vp_in_nI, zup_s, zup_n, upd_s, upd_n, ne_eq, not_true_eq_false, not_false_eq_true] at hc <;> omega)
              | (intro hc; exact absurd rfl hc)
              | intro hc
              | apply And.intro
              | exact Or.inl rfl
              | exact Or.inr rfl
              | (show (_ : Int32) = 0 ∨ _ = 1; simp (disch := first | omega | decide) only [er', zcn, zkpl, zki, zki1, zk8, zk16, zo32, zlt0, zle0, zeq0, zgt0, zLe0, nI_ltI, nI_leI, nI_eq, nI_add, nI_clamp, vp_in_nI, zup_s, zup_n, upd_s, upd_n, ne_eq, not_true_eq_false, not_false_eq_true, zeq1, true_or, or_true]; done))
        have f73x : ∀ x, ZW 33 (0, 0, 0, 0) 73 [(5, .int (nI (p + i))), (4, .int (nI i)), (6, .int x), (0, .ref 11), (1, .int (nI p)), (2, .ref 1000012), (3, .int (nI dep))] [.int 1] (SH, m) Q := by
          intro x
          refine zgo 10 [] ?_
          repeat' (first
            | (exact hread _ (fun r hr => f89x x r hr))
            | (show vp_in _ _; simp (disch := first | omega | decide) only [z10, zcn, zkpl, zki, zki1, zk8, zk16, zo32, zlt0, zle0, zeq0, zgt0, zLe0, nI_ltI, nI_leI, nI_eq, nI_add, nI_clamp, vp_in_nI, zup_s, zup_n, upd_s, upd_n, ne_eq, not_true_eq_false, not_false_eq_true]; done)
            | (intro hc; exfalso; simp (disch := first | omega | decide) only [z10, zcn, zkpl, zki, zki1, zk8, zk16, zo32, zlt0, zle0, zeq0, zgt0, zLe0, nI_ltI, nI_leI, nI_eq, nI_add, nI_clamp, vp_in_nI, zup_s, zup_n, upd_s, upd_n, ne_eq, not_true_eq_false, not_false_eq_true] at hc <;> omega)
            | (intro hc; exact absurd rfl hc)
            | intro hc
            | apply And.intro
            | exact Or.inl rfl
            | exact Or.inr rfl
            | (show (_ : Int32) = 0 ∨ _ = 1; simp (disch := first | omega | decide) only [z10, zcn, zkpl, zki, zki1, zk8, zk16, zo32, zlt0, zle0, zeq0, zgt0, zLe0, nI_ltI, nI_leI, nI_eq, nI_add, nI_clamp, vp_in_nI, zup_s, zup_n, upd_s, upd_n, ne_eq, not_true_eq_false, not_false_eq_true, zeq1, true_or, or_true]; done))
        intro T hT
        rcases hT with rfl | ⟨x, rfl⟩
        · refine zgo 20 [] ?_
          repeat' (first
            | (exact hat.use f73)
            | (show vp_in _ _; simp (disch := first | omega | decide) only [hln, zcn, zkpl, zki, zki1, zk8, zk16, zo32, zlt0, zle0, zeq0, zgt0, zLe0, nI_ltI, nI_leI, nI_eq, nI_add, nI_clamp, vp_in_nI, zup_s, zup_n, upd_s, upd_n, ne_eq, not_true_eq_false, not_false_eq_true]; done)
            | (intro hc; exfalso; simp (disch := first | omega | decide) only [hln, zcn, zkpl, zki, zki1, zk8, zk16, zo32, zlt0, zle0, zeq0, zgt0, zLe0, nI_ltI, nI_leI, nI_eq, nI_add, nI_clamp, vp_in_nI, zup_s, zup_n, upd_s, upd_n, ne_eq, not_true_eq_false, not_false_eq_true] at hc <;> omega)
            | (intro hc; exact absurd rfl hc)
            | intro hc
            | apply And.intro
            | exact Or.inl rfl
            | exact Or.inr rfl
            | (show (_ : Int32) = 0 ∨ _ = 1; simp (disch := first | omega | decide) only [hln, zcn, zkpl, zki, zki1, zk8, zk16, zo32, zlt0, zle0, zeq0, zgt0, zLe0, nI_ltI, nI_leI, nI_eq, nI_add, nI_clamp, vp_in_nI, zup_s, zup_n, upd_s, upd_n, ne_eq, not_true_eq_false, not_false_eq_true, zeq1, true_or, or_true]; done))
        · refine zgo 20 [] ?_
          repeat' (first
            | (exact hat.use (f73x x))
            | (show vp_in _ _; simp (disch := first | omega | decide) only [hln, zcn, zkpl, zki, zki1, zk8, zk16, zo32, zlt0, zle0, zeq0, zgt0, zLe0, nI_ltI, nI_leI, nI_eq, nI_add, nI_clamp, vp_in_nI, zup_s, zup_n, upd_s, upd_n, ne_eq, not_true_eq_false, not_false_eq_true]; done)
            | (intro hc; exfalso; simp (disch := first | omega | decide) only [hln, zcn, zkpl, zki, zki1, zk8, zk16, zo32, zlt0, zle0, zeq0, zgt0, zLe0, nI_ltI, nI_leI, nI_eq, nI_add, nI_clamp, vp_in_nI, zup_s, zup_n, upd_s, upd_n, ne_eq, not_true_eq_false, not_false_eq_true] at hc <;> omega)
            | (intro hc; exact absurd rfl hc)
            | intro hc
            | apply And.intro
            | exact Or.inl rfl
            | exact Or.inr rfl
            | (show (_ : Int32) = 0 ∨ _ = 1; simp (disch := first | omega | decide) only [hln, zcn, zkpl, zki, zki1, zk8, zk16, zo32, zlt0, zle0, zeq0, zgt0, zLe0, nI_ltI, nI_leI, nI_eq, nI_add, nI_clamp, vp_in_nI, zup_s, zup_n, upd_s, upd_n, ne_eq, not_true_eq_false, not_false_eq_true, zeq1, true_or, or_true]; done))
      · have hat := ev_isAt (k := p + i) (c := rl 2 i) (d := dep + 1) hD hN (by omega) hrl.1 (by omega) (fun i hi => ⟨(hb3 i hi).1, (hb3 i hi).2.1⟩) (b := 0) (Or.inr ⟨rfl, e⟩)
        rw [← ec, ← e1] at hat
        have hQ := hQ2 m i (fun _ _ _ => rfl) (Nat.le_refl i) (by omega) (fun g => e g.1)
        intro T hT
        rcases hT with rfl | ⟨x, rfl⟩
        · have f73 : ZW 33 (0, 0, 0, 0) 73 [(5, .int (nI (p + i))), (4, .int (nI i)), (0, .ref 11), (1, .int (nI p)), (2, .ref 1000012), (3, .int (nI dep))] [.int 0] (SH, m) Q := by
            refine zgo 20 [] ?_
            repeat' (first
              | (show vp_in _ _; simp (disch := first | omega | decide) only [m11, zcn, zkpl, zki, zki1, zk8, zk16, zo32, zlt0, zle0, zeq0, zgt0, zLe0, nI_ltI, nI_leI, nI_eq, nI_add, nI_clamp, vp_in_nI, zup_s, zup_n, upd_s, upd_n, ne_eq, not_true_eq_false, not_false_eq_true]; done)
              | (intro hc; exfalso; simp (disch := first | omega | decide) only [m11, zcn, zkpl, zki, zki1, zk8, zk16, zo32, zlt0, zle0, zeq0, zgt0, zLe0, nI_ltI, nI_leI, nI_eq, nI_add, nI_clamp, vp_in_nI, zup_s, zup_n, upd_s, upd_n, ne_eq, not_true_eq_false, not_false_eq_true] at hc <;> omega)
              | (intro hc; exact absurd rfl hc)
              | intro hc
              | apply And.intro
              | exact hQ
              | (show Q _ (SH, _); simp (disch := first | omega | decide) only [m11, zcn, zkpl, zki, zki1, zk8, zk16, zo32, zlt0, zle0, zeq0, zgt0, zLe0, nI_ltI, nI_leI, nI_eq, nI_add, nI_clamp, vp_in_nI, zup_s, zup_n, upd_s, upd_n, ne_eq, not_true_eq_false, not_false_eq_true]; exact hQ)
              | exact Or.inl rfl
              | exact Or.inr rfl
              | (show (_ : Int32) = 0 ∨ _ = 1; simp (disch := first | omega | decide) only [m11, zcn, zkpl, zki, zki1, zk8, zk16, zo32, zlt0, zle0, zeq0, zgt0, zLe0, nI_ltI, nI_leI, nI_eq, nI_add, nI_clamp, vp_in_nI, zup_s, zup_n, upd_s, upd_n, ne_eq, not_true_eq_false, not_false_eq_true, zeq1, true_or, or_true]; done))
          refine zgo 20 [] ?_
          repeat' (first
            | (exact hat.use f73)
            | (show vp_in _ _; simp (disch := first | omega | decide) only [hln, zcn, zkpl, zki, zki1, zk8, zk16, zo32, zlt0, zle0, zeq0, zgt0, zLe0, nI_ltI, nI_leI, nI_eq, nI_add, nI_clamp, vp_in_nI, zup_s, zup_n, upd_s, upd_n, ne_eq, not_true_eq_false, not_false_eq_true]; done)
            | (intro hc; exfalso; simp (disch := first | omega | decide) only [hln, zcn, zkpl, zki, zki1, zk8, zk16, zo32, zlt0, zle0, zeq0, zgt0, zLe0, nI_ltI, nI_leI, nI_eq, nI_add, nI_clamp, vp_in_nI, zup_s, zup_n, upd_s, upd_n, ne_eq, not_true_eq_false, not_false_eq_true] at hc <;> omega)
            | (intro hc; exact absurd rfl hc)
            | intro hc
            | apply And.intro
            | exact Or.inl rfl
            | exact Or.inr rfl
            | (show (_ : Int32) = 0 ∨ _ = 1; simp (disch := first | omega | decide) only [hln, zcn, zkpl, zki, zki1, zk8, zk16, zo32, zlt0, zle0, zeq0, zgt0, zLe0, nI_ltI, nI_leI, nI_eq, nI_add, nI_clamp, vp_in_nI, zup_s, zup_n, upd_s, upd_n, ne_eq, not_true_eq_false, not_false_eq_true, zeq1, true_or, or_true]; done))
        · have f73 : ZW 33 (0, 0, 0, 0) 73 [(5, .int (nI (p + i))), (4, .int (nI i)), (6, .int x), (0, .ref 11), (1, .int (nI p)), (2, .ref 1000012), (3, .int (nI dep))] [.int 0] (SH, m) Q := by
            refine zgo 20 [] ?_
            repeat' (first
              | (show vp_in _ _; simp (disch := first | omega | decide) only [m11, zcn, zkpl, zki, zki1, zk8, zk16, zo32, zlt0, zle0, zeq0, zgt0, zLe0, nI_ltI, nI_leI, nI_eq, nI_add, nI_clamp, vp_in_nI, zup_s, zup_n, upd_s, upd_n, ne_eq, not_true_eq_false, not_false_eq_true]; done)
              | (intro hc; exfalso; simp (disch := first | omega | decide) only [m11, zcn, zkpl, zki, zki1, zk8, zk16, zo32, zlt0, zle0, zeq0, zgt0, zLe0, nI_ltI, nI_leI, nI_eq, nI_add, nI_clamp, vp_in_nI, zup_s, zup_n, upd_s, upd_n, ne_eq, not_true_eq_false, not_false_eq_true] at hc <;> omega)
              | (intro hc; exact absurd rfl hc)
              | intro hc
              | apply And.intro
              | exact hQ
              | (show Q _ (SH, _); simp (disch := first | omega | decide) only [m11, zcn, zkpl, zki, zki1, zk8, zk16, zo32, zlt0, zle0, zeq0, zgt0, zLe0, nI_ltI, nI_leI, nI_eq, nI_add, nI_clamp, vp_in_nI, zup_s, zup_n, upd_s, upd_n, ne_eq, not_true_eq_false, not_false_eq_true]; exact hQ)
              | exact Or.inl rfl
              | exact Or.inr rfl
              | (show (_ : Int32) = 0 ∨ _ = 1; simp (disch := first | omega | decide) only [m11, zcn, zkpl, zki, zki1, zk8, zk16, zo32, zlt0, zle0, zeq0, zgt0, zLe0, nI_ltI, nI_leI, nI_eq, nI_add, nI_clamp, vp_in_nI, zup_s, zup_n, upd_s, upd_n, ne_eq, not_true_eq_false, not_false_eq_true, zeq1, true_or, or_true]; done))
          refine zgo 20 [] ?_
          repeat' (first
            | (exact hat.use f73)
            | (show vp_in _ _; simp (disch := first | omega | decide) only [hln, zcn, zkpl, zki, zki1, zk8, zk16, zo32, zlt0, zle0, zeq0, zgt0, zLe0, nI_ltI, nI_leI, nI_eq, nI_add, nI_clamp, vp_in_nI, zup_s, zup_n, upd_s, upd_n, ne_eq, not_true_eq_false, not_false_eq_true]; done)
            | (intro hc; exfalso; simp (disch := first | omega | decide) only [hln, zcn, zkpl, zki, zki1, zk8, zk16, zo32, zlt0, zle0, zeq0, zgt0, zLe0, nI_ltI, nI_leI, nI_eq, nI_add, nI_clamp, vp_in_nI, zup_s, zup_n, upd_s, upd_n, ne_eq, not_true_eq_false, not_false_eq_true] at hc <;> omega)
            | (intro hc; exact absurd rfl hc)
            | intro hc
            | apply And.intro
            | exact Or.inl rfl
            | exact Or.inr rfl
            | (show (_ : Int32) = 0 ∨ _ = 1; simp (disch := first | omega | decide) only [hln, zcn, zkpl, zki, zki1, zk8, zk16, zo32, zlt0, zle0, zeq0, zgt0, zLe0, nI_ltI, nI_leI, nI_eq, nI_add, nI_clamp, vp_in_nI, zup_s, zup_n, upd_s, upd_n, ne_eq, not_true_eq_false, not_false_eq_true, zeq1, true_or, or_true]; done))
    rw [← e5] at f55
    rcases hR with rfl | ⟨x, y, rfl⟩
    · have f := f55 _ (Or.inl rfl)
      refine zgo 8 [] ?_
      repeat' (first
        | (exact f)
        | (show vp_in _ _; simp (disch := first | omega | decide) only [hln, zcn, zkpl, zki, zki1, zk8, zk16, zo32, zlt0, zle0, zeq0, zgt0, zLe0, nI_ltI, nI_leI, nI_eq, nI_add, nI_clamp, vp_in_nI, zup_s, zup_n, upd_s, upd_n, ne_eq, not_true_eq_false, not_false_eq_true]; done)
        | (intro hc; exfalso; simp (disch := first | omega | decide) only [hln, zcn, zkpl, zki, zki1, zk8, zk16, zo32, zlt0, zle0, zeq0, zgt0, zLe0, nI_ltI, nI_leI, nI_eq, nI_add, nI_clamp, vp_in_nI, zup_s, zup_n, upd_s, upd_n, ne_eq, not_true_eq_false, not_false_eq_true] at hc <;> omega)
        | (intro hc; exact absurd rfl hc)
        | intro hc
        | apply And.intro
        | exact Or.inl rfl
        | exact Or.inr rfl
        | (show (_ : Int32) = 0 ∨ _ = 1; simp (disch := first | omega | decide) only [hln, zcn, zkpl, zki, zki1, zk8, zk16, zo32, zlt0, zle0, zeq0, zgt0, zLe0, nI_ltI, nI_leI, nI_eq, nI_add, nI_clamp, vp_in_nI, zup_s, zup_n, upd_s, upd_n, ne_eq, not_true_eq_false, not_false_eq_true, zeq1, true_or, or_true]; done))
    · have f := f55 _ (Or.inr ⟨x, rfl⟩)
      refine zgo 8 [] ?_
      repeat' (first
        | (exact f)
        | (show vp_in _ _; simp (disch := first | omega | decide) only [hln, zcn, zkpl, zki, zki1, zk8, zk16, zo32, zlt0, zle0, zeq0, zgt0, zLe0, nI_ltI, nI_leI, nI_eq, nI_add, nI_clamp, vp_in_nI, zup_s, zup_n, upd_s, upd_n, ne_eq, not_true_eq_false, not_false_eq_true]; done)
        | (intro hc; exfalso; simp (disch := first | omega | decide) only [hln, zcn, zkpl, zki, zki1, zk8, zk16, zo32, zlt0, zle0, zeq0, zgt0, zLe0, nI_ltI, nI_leI, nI_eq, nI_add, nI_clamp, vp_in_nI, zup_s, zup_n, upd_s, upd_n, ne_eq, not_true_eq_false, not_false_eq_true] at hc <;> omega)
        | (intro hc; exact absurd rfl hc)
        | intro hc
        | apply And.intro
        | exact Or.inl rfl
        | exact Or.inr rfl
        | (show (_ : Int32) = 0 ∨ _ = 1; simp (disch := first | omega | decide) only [hln, zcn, zkpl, zki, zki1, zk8, zk16, zo32, zlt0, zle0, zeq0, zgt0, zLe0, nI_ltI, nI_leI, nI_eq, nI_add, nI_clamp, vp_in_nI, zup_s, zup_n, upd_s, upd_n, ne_eq, not_true_eq_false, not_false_eq_true, zeq1, true_or, or_true]; done))
theorem tk_row2 {s : pS} (hr : rdy s) {p dep : Nat} (hp : p + 4 ≤ 19) (hdp : dep ≤ 3) {m : zM} (hD : tD m s) (Q : zQ) (hQ1 : ∀ m', vF m m' → (∀ k, k ≤ p → m' 13 k = m 13 k) → trO s p 2 dep → (∀ i', 1 ≤ i' → i' < 4 → cvR s (p + i') (m' 13 (p + i')) ∧ m' 13 (p + i') ≠ -1) → Q (some (.int 1)) (SH, m')) (hQ2 : ∀ m', vF m m' → ¬ trO s p 2 dep → Q (some (.int 0)) (SH, m')) : ZM 33 0 0 [.ref 11, .int (nI p), .ref 1000012, .int (nI dep)] (SH, m) Q := by
  have hr0 := hr
  obtain ⟨hs, hN, hb3⟩ := hr
  by_cases e : p < s 0 1 ∧ s 2 p = rl 2 0 ∧ s 3 p = dep
  · have hat := ev_isAt (k := p) (c := rl 2 0) (d := dep) hD hN (by omega) (by decide) (by omega) (fun i hi => ⟨(hb3 i hi).1, (hb3 i hi).2.1⟩) (b := 1) (Or.inl ⟨rfl, e⟩)
    by_cases e6 : s 6 p = 0
    · have hbl := ev_blanks hD hN e.1 (hb3 p e.1).2.2.2 (b := 1) (Or.inl ⟨rfl, e6⟩)
      have W := tw_loop2 hr0 hp hdp Q 3 1 m _ (by omega) (by omega) hD (Or.inl rfl) (fun m' w1 w2 w3 => hQ1 m' w1 (fun k hk => w2 k (by omega)) ⟨⟨e.1, e.2.1, e.2.2, e6⟩, fun i g1 g2 => ⟨(w3 i g1 g2).1, ⟨_, (w3 i g1 g2).2⟩⟩⟩ (fun i' g1 g2 => (w3 i' g1 g2).2)) (fun m' i' w1 w2 w3 w4 => hQ2 m' w1 (fun g => w4 (g.2 i' w2 w3)))
      have f32 : ZW 33 (0, 0, 0, 0) 32 [(0, .ref 11), (1, .int (nI p)), (2, .ref 1000012), (3, .int (nI dep))] [.int 1] (SH, m) Q := by
        refine zgo 10 [] ?_
        repeat' (first
          | (exact W)
          | (show vp_in _ _; simp (disch := first | omega | decide) only [z10, zcn, zkpl, zki, zki1, zk8, zk16, zo32, zlt0, zle0, zeq0, zgt0, zLe0, nI_ltI, nI_leI, nI_eq, nI_add, nI_clamp, vp_in_nI, zup_s, zup_n, upd_s, upd_n, ne_eq, not_true_eq_false, not_false_eq_true]; done)
          | (intro hc; exfalso; simp (disch := first | omega | decide) only [z10, zcn, zkpl, zki, zki1, zk8, zk16, zo32, zlt0, zle0, zeq0, zgt0, zLe0, nI_ltI, nI_leI, nI_eq, nI_add, nI_clamp, vp_in_nI, zup_s, zup_n, upd_s, upd_n, ne_eq, not_true_eq_false, not_false_eq_true] at hc <;> omega)
          | (intro hc; exact absurd rfl hc)
          | intro hc
          | apply And.intro
          | exact Or.inl rfl
          | exact Or.inr rfl
          | (show (_ : Int32) = 0 ∨ _ = 1; simp (disch := first | omega | decide) only [z10, zcn, zkpl, zki, zki1, zk8, zk16, zo32, zlt0, zle0, zeq0, zgt0, zLe0, nI_ltI, nI_leI, nI_eq, nI_add, nI_clamp, vp_in_nI, zup_s, zup_n, upd_s, upd_n, ne_eq, not_true_eq_false, not_false_eq_true, zeq1, true_or, or_true]; done))
      have f21 : ZW 33 (0, 0, 0, 0) 21 [(0, .ref 11), (1, .int (nI p)), (2, .ref 1000012), (3, .int (nI dep))] [.int 1] (SH, m) Q := by
        refine zgo 10 [] ?_
        repeat' (first
          | (exact hbl.use f32)
          | (show vp_in _ _; simp (disch := first | omega | decide) only [z10, zcn, zkpl, zki, zki1, zk8, zk16, zo32, zlt0, zle0, zeq0, zgt0, zLe0, nI_ltI, nI_leI, nI_eq, nI_add, nI_clamp, vp_in_nI, zup_s, zup_n, upd_s, upd_n, ne_eq, not_true_eq_false, not_false_eq_true]; done)
          | (intro hc; exfalso; simp (disch := first | omega | decide) only [z10, zcn, zkpl, zki, zki1, zk8, zk16, zo32, zlt0, zle0, zeq0, zgt0, zLe0, nI_ltI, nI_leI, nI_eq, nI_add, nI_clamp, vp_in_nI, zup_s, zup_n, upd_s, upd_n, ne_eq, not_true_eq_false, not_false_eq_true] at hc <;> omega)
          | (intro hc; exact absurd rfl hc)
          | intro hc
          | apply And.intro
          | exact Or.inl rfl
          | exact Or.inr rfl
          | (show (_ : Int32) = 0 ∨ _ = 1; simp (disch := first | omega | decide) only [z10, zcn, zkpl, zki, zki1, zk8, zk16, zo32, zlt0, zle0, zeq0, zgt0, zLe0, nI_ltI, nI_leI, nI_eq, nI_add, nI_clamp, vp_in_nI, zup_s, zup_n, upd_s, upd_n, ne_eq, not_true_eq_false, not_false_eq_true, zeq1, true_or, or_true]; done))
      refine zgo 20 [] ?_
      repeat' (first
        | (exact hat.use f21)
        | (show vp_in _ _; simp (disch := first | omega | decide) only [zcn, zkpl, zki, zki1, zk8, zk16, zo32, zlt0, zle0, zeq0, zgt0, zLe0, nI_ltI, nI_leI, nI_eq, nI_add, nI_clamp, vp_in_nI, zup_s, zup_n, upd_s, upd_n, ne_eq, not_true_eq_false, not_false_eq_true]; done)
        | (intro hc; exfalso; simp (disch := first | omega | decide) only [zcn, zkpl, zki, zki1, zk8, zk16, zo32, zlt0, zle0, zeq0, zgt0, zLe0, nI_ltI, nI_leI, nI_eq, nI_add, nI_clamp, vp_in_nI, zup_s, zup_n, upd_s, upd_n, ne_eq, not_true_eq_false, not_false_eq_true] at hc <;> omega)
        | (intro hc; exact absurd rfl hc)
        | intro hc
        | apply And.intro
        | exact Or.inl rfl
        | exact Or.inr rfl
        | (show (_ : Int32) = 0 ∨ _ = 1; simp (disch := first | omega | decide) only [zcn, zkpl, zki, zki1, zk8, zk16, zo32, zlt0, zle0, zeq0, zgt0, zLe0, nI_ltI, nI_leI, nI_eq, nI_add, nI_clamp, vp_in_nI, zup_s, zup_n, upd_s, upd_n, ne_eq, not_true_eq_false, not_false_eq_true, zeq1, true_or, or_true]; done))
    · have hbl := ev_blanks hD hN e.1 (hb3 p e.1).2.2.2 (b := 0) (Or.inr ⟨rfl, e6⟩)
      have hQ := hQ2 m (fun _ _ _ => rfl) (fun g => e6 g.1.2.2.2)
      have f32 : ZW 33 (0, 0, 0, 0) 32 [(0, .ref 11), (1, .int (nI p)), (2, .ref 1000012), (3, .int (nI dep))] [.int 0] (SH, m) Q := by
        refine zgo 10 [] ?_
        repeat' (first
          | (show vp_in _ _; simp (disch := first | omega | decide) only [z10, zcn, zkpl, zki, zki1, zk8, zk16, zo32, zlt0, zle0, zeq0, zgt0, zLe0, nI_ltI, nI_leI, nI_eq, nI_add, nI_clamp, vp_in_nI, zup_s, zup_n, upd_s, upd_n, ne_eq, not_true_eq_false, not_false_eq_true]; done)
          | (intro hc; exfalso; simp (disch := first | omega | decide) only [z10, zcn, zkpl, zki, zki1, zk8, zk16, zo32, zlt0, zle0, zeq0, zgt0, zLe0, nI_ltI, nI_leI, nI_eq, nI_add, nI_clamp, vp_in_nI, zup_s, zup_n, upd_s, upd_n, ne_eq, not_true_eq_false, not_false_eq_true] at hc <;> omega)
          | (intro hc; exact absurd rfl hc)
          | intro hc
          | apply And.intro
          | exact hQ
          | (show Q _ (SH, _); simp (disch := first | omega | decide) only [z10, zcn, zkpl, zki, zki1, zk8, zk16, zo32, zlt0, zle0, zeq0, zgt0, zLe0, nI_ltI, nI_leI, nI_eq, nI_add, nI_clamp, vp_in_nI, zup_s, zup_n, upd_s, upd_n, ne_eq, not_true_eq_false, not_false_eq_true]; exact hQ)
          | exact Or.inl rfl
          | exact Or.inr rfl
          | (show (_ : Int32) = 0 ∨ _ = 1; simp (disch := first | omega | decide) only [z10, zcn, zkpl, zki, zki1, zk8, zk16, zo32, zlt0, zle0, zeq0, zgt0, zLe0, nI_ltI, nI_leI, nI_eq, nI_add, nI_clamp, vp_in_nI, zup_s, zup_n, upd_s, upd_n, ne_eq, not_true_eq_false, not_false_eq_true, zeq1, true_or, or_true]; done))
      have f21 : ZW 33 (0, 0, 0, 0) 21 [(0, .ref 11), (1, .int (nI p)), (2, .ref 1000012), (3, .int (nI dep))] [.int 1] (SH, m) Q := by
        refine zgo 10 [] ?_
        repeat' (first
          | (exact hbl.use f32)
          | (show vp_in _ _; simp (disch := first | omega | decide) only [z10, zcn, zkpl, zki, zki1, zk8, zk16, zo32, zlt0, zle0, zeq0, zgt0, zLe0, nI_ltI, nI_leI, nI_eq, nI_add, nI_clamp, vp_in_nI, zup_s, zup_n, upd_s, upd_n, ne_eq, not_true_eq_false, not_false_eq_true]; done)
          | (intro hc; exfalso; simp (disch := first | omega | decide) only [z10, zcn, zkpl, zki, zki1, zk8, zk16, zo32, zlt0, zle0, zeq0, zgt0, zLe0, nI_ltI, nI_leI, nI_eq, nI_add, nI_clamp, vp_in_nI, zup_s, zup_n, upd_s, upd_n, ne_eq, not_true_eq_false, not_false_eq_true] at hc <;> omega)
          | (intro hc; exact absurd rfl hc)
          | intro hc
          | apply And.intro
          | exact Or.inl rfl
          | exact Or.inr rfl
          | (show (_ : Int32) = 0 ∨ _ = 1; simp (disch := first | omega | decide) only [z10, zcn, zkpl, zki, zki1, zk8, zk16, zo32, zlt0, zle0, zeq0, zgt0, zLe0, nI_ltI, nI_leI, nI_eq, nI_add, nI_clamp, vp_in_nI, zup_s, zup_n, upd_s, upd_n, ne_eq, not_true_eq_false, not_false_eq_true, zeq1, true_or, or_true]; done))
      refine zgo 20 [] ?_
      repeat' (first
        | (exact hat.use f21)
        | (show vp_in _ _; simp (disch := first | omega | decide) only [zcn, zkpl, zki, zki1, zk8, zk16, zo32, zlt0, zle0, zeq0, zgt0, zLe0, nI_ltI, nI_leI, nI_eq, nI_add, nI_clamp, vp_in_nI, zup_s, zup_n, upd_s, upd_n, ne_eq, not_true_eq_false, not_false_eq_true]; done)
        | (intro hc; exfalso; simp (disch := first | omega | decide) only [zcn, zkpl, zki, zki1, zk8, zk16, zo32, zlt0, zle0, zeq0, zgt0, zLe0, nI_ltI, nI_leI, nI_eq, nI_add, nI_clamp, vp_in_nI, zup_s, zup_n, upd_s, upd_n, ne_eq, not_true_eq_false, not_false_eq_true] at hc <;> omega)
        | (intro hc; exact absurd rfl hc)
        | intro hc
        | apply And.intro
        | exact Or.inl rfl
        | exact Or.inr rfl
        | (show (_ : Int32) = 0 ∨ _ = 1; simp (disch := first | omega | decide) only [zcn, zkpl, zki, zki1, zk8, zk16, zo32, zlt0, zle0, zeq0, zgt0, zLe0, nI_ltI, nI_leI, nI_eq, nI_add, nI_clamp, vp_in_nI, zup_s, zup_n, upd_s, upd_n, ne_eq, not_true_eq_false, not_false_eq_true, zeq1, true_or, or_true]; done))
  · have hat := ev_isAt (k := p) (c := rl 2 0) (d := dep) hD hN (by omega) (by decide) (by omega) (fun i hi => ⟨(hb3 i hi).1, (hb3 i hi).2.1⟩) (b := 0) (Or.inr ⟨rfl, e⟩)
    have hQ := hQ2 m (fun _ _ _ => rfl) (fun g => e ⟨g.1.1, g.1.2.1, g.1.2.2.1⟩)
    have f21 : ZW 33 (0, 0, 0, 0) 21 [(0, .ref 11), (1, .int (nI p)), (2, .ref 1000012), (3, .int (nI dep))] [.int 0] (SH, m) Q := by
      refine zgo 10 [] ?_
      repeat' (first
        | (show vp_in _ _; simp (disch := first | omega | decide) only [z10, zcn, zkpl, zki, zki1, zk8, zk16, zo32, zlt0, zle0, zeq0, zgt0, zLe0, nI_ltI, nI_leI, nI_eq, nI_add, nI_clamp, vp_in_nI, zup_s, zup_n, upd_s, upd_n, ne_eq, not_true_eq_false, not_false_eq_true]; done)
        | (intro hc; exfalso; simp (disch := first | omega | decide) only [z10, zcn, zkpl, zki, zki1, zk8, zk16, zo32, zlt0, zle0, zeq0, zgt0, zLe0, nI_ltI, nI_leI, nI_eq, nI_add, nI_clamp, vp_in_nI, zup_s, zup_n, upd_s, upd_n, ne_eq, not_true_eq_false, not_false_eq_true] at hc <;> omega)
        | (intro hc; exact absurd rfl hc)
        | intro hc
        | apply And.intro
        | exact hQ
        | (show Q _ (SH, _); simp (disch := first | omega | decide) only [z10, zcn, zkpl, zki, zki1, zk8, zk16, zo32, zlt0, zle0, zeq0, zgt0, zLe0, nI_ltI, nI_leI, nI_eq, nI_add, nI_clamp, vp_in_nI, zup_s, zup_n, upd_s, upd_n, ne_eq, not_true_eq_false, not_false_eq_true]; exact hQ)
        | exact Or.inl rfl
        | exact Or.inr rfl
        | (show (_ : Int32) = 0 ∨ _ = 1; simp (disch := first | omega | decide) only [z10, zcn, zkpl, zki, zki1, zk8, zk16, zo32, zlt0, zle0, zeq0, zgt0, zLe0, nI_ltI, nI_leI, nI_eq, nI_add, nI_clamp, vp_in_nI, zup_s, zup_n, upd_s, upd_n, ne_eq, not_true_eq_false, not_false_eq_true, zeq1, true_or, or_true]; done))
    refine zgo 20 [] ?_
    repeat' (first
      | (exact hat.use f21)
      | (show vp_in _ _; simp (disch := first | omega | decide) only [zcn, zkpl, zki, zki1, zk8, zk16, zo32, zlt0, zle0, zeq0, zgt0, zLe0, nI_ltI, nI_leI, nI_eq, nI_add, nI_clamp, vp_in_nI, zup_s, zup_n, upd_s, upd_n, ne_eq, not_true_eq_false, not_false_eq_true]; done)
      | (intro hc; exfalso; simp (disch := first | omega | decide) only [zcn, zkpl, zki, zki1, zk8, zk16, zo32, zlt0, zle0, zeq0, zgt0, zLe0, nI_ltI, nI_leI, nI_eq, nI_add, nI_clamp, vp_in_nI, zup_s, zup_n, upd_s, upd_n, ne_eq, not_true_eq_false, not_false_eq_true] at hc <;> omega)
      | (intro hc; exact absurd rfl hc)
      | intro hc
      | apply And.intro
      | exact Or.inl rfl
      | exact Or.inr rfl
      | (show (_ : Int32) = 0 ∨ _ = 1; simp (disch := first | omega | decide) only [zcn, zkpl, zki, zki1, zk8, zk16, zo32, zlt0, zle0, zeq0, zgt0, zLe0, nI_ltI, nI_leI, nI_eq, nI_add, nI_clamp, vp_in_nI, zup_s, zup_n, upd_s, upd_n, ne_eq, not_true_eq_false, not_false_eq_true, zeq1, true_or, or_true]; done))
theorem tw_loop3 {s : pS} (hr : rdy s) {p dep : Nat} (hp : p + 4 ≤ 19) (hdp : dep ≤ 3) (Q : zQ) : ∀ (n i : Nat) (m : zM) (R : zLs), 1 ≤ i → i + n = 4 → tD m s → twL p i [(0, .ref 11), (1, .int (nI p)), (2, .ref 1000013), (3, .int (nI dep))] R → (∀ m', vF m m' → (∀ k, k < p + i → m' 13 k = m 13 k) → (∀ i', i ≤ i' → i' < 4 → rwO s p 3 dep i' ∧ cvR s (p + i') (m' 13 (p + i')) ∧ m' 13 (p + i') ≠ -1) → Q (some (.int 1)) (SH, m')) → (∀ m' i', vF m m' → i ≤ i' → i' < 4 → ¬ (rwO s p 3 dep i' ∧ gV s (p + i')) → Q (some (.int 0)) (SH, m')) → ZW 33 (0, 0, 0, 0) 40 R [] (SH, m) Q := by
  obtain ⟨hs, hN, hb3⟩ := hr
  intro n
  induction n with
  | zero =>
    intro i m R h1 hi hD hR hQ1 _
    have hQ := hQ1 m (fun _ _ _ => rfl) (fun _ _ => rfl) (fun i' g1 g2 => by omega)
    obtain rfl : i = 4 := by omega
    rcases hR with rfl | ⟨x, y, rfl⟩
    · refine zgo 20 [] ?_
      repeat' (first
        | (show vp_in _ _; simp (disch := first | omega | decide) only [zcn, zkpl, zki, zki1, zk8, zk16, zo32, zlt0, zle0, zeq0, zgt0, zLe0, nI_ltI, nI_leI, nI_eq, nI_add, nI_clamp, vp_in_nI, zup_s, zup_n, upd_s, upd_n, ne_eq, not_true_eq_false, not_false_eq_true]; done)
        | (intro hc; exfalso; simp (disch := first | omega | decide) only [zcn, zkpl, zki, zki1, zk8, zk16, zo32, zlt0, zle0, zeq0, zgt0, zLe0, nI_ltI, nI_leI, nI_eq, nI_add, nI_clamp, vp_in_nI, zup_s, zup_n, upd_s, upd_n, ne_eq, not_true_eq_false, not_false_eq_true] at hc <;> omega)
        | (intro hc; exact absurd rfl hc)
        | intro hc
        | apply And.intro
        | exact hQ
        | (show Q _ (SH, _); simp (disch := first | omega | decide) only [zcn, zkpl, zki, zki1, zk8, zk16, zo32, zlt0, zle0, zeq0, zgt0, zLe0, nI_ltI, nI_leI, nI_eq, nI_add, nI_clamp, vp_in_nI, zup_s, zup_n, upd_s, upd_n, ne_eq, not_true_eq_false, not_false_eq_true]; exact hQ)
        | exact Or.inl rfl
        | exact Or.inr rfl
        | (show (_ : Int32) = 0 ∨ _ = 1; simp (disch := first | omega | decide) only [zcn, zkpl, zki, zki1, zk8, zk16, zo32, zlt0, zle0, zeq0, zgt0, zLe0, nI_ltI, nI_leI, nI_eq, nI_add, nI_clamp, vp_in_nI, zup_s, zup_n, upd_s, upd_n, ne_eq, not_true_eq_false, not_false_eq_true, zeq1, true_or, or_true]; done))
    · refine zgo 20 [] ?_
      repeat' (first
        | (show vp_in _ _; simp (disch := first | omega | decide) only [zcn, zkpl, zki, zki1, zk8, zk16, zo32, zlt0, zle0, zeq0, zgt0, zLe0, nI_ltI, nI_leI, nI_eq, nI_add, nI_clamp, vp_in_nI, zup_s, zup_n, upd_s, upd_n, ne_eq, not_true_eq_false, not_false_eq_true]; done)
        | (intro hc; exfalso; simp (disch := first | omega | decide) only [zcn, zkpl, zki, zki1, zk8, zk16, zo32, zlt0, zle0, zeq0, zgt0, zLe0, nI_ltI, nI_leI, nI_eq, nI_add, nI_clamp, vp_in_nI, zup_s, zup_n, upd_s, upd_n, ne_eq, not_true_eq_false, not_false_eq_true] at hc <;> omega)
        | (intro hc; exact absurd rfl hc)
        | intro hc
        | apply And.intro
        | exact hQ
        | (show Q _ (SH, _); simp (disch := first | omega | decide) only [zcn, zkpl, zki, zki1, zk8, zk16, zo32, zlt0, zle0, zeq0, zgt0, zLe0, nI_ltI, nI_leI, nI_eq, nI_add, nI_clamp, vp_in_nI, zup_s, zup_n, upd_s, upd_n, ne_eq, not_true_eq_false, not_false_eq_true]; exact hQ)
        | exact Or.inl rfl
        | exact Or.inr rfl
        | (show (_ : Int32) = 0 ∨ _ = 1; simp (disch := first | omega | decide) only [zcn, zkpl, zki, zki1, zk8, zk16, zo32, zlt0, zle0, zeq0, zgt0, zLe0, nI_ltI, nI_leI, nI_eq, nI_add, nI_clamp, vp_in_nI, zup_s, zup_n, upd_s, upd_n, ne_eq, not_true_eq_false, not_false_eq_true, zeq1, true_or, or_true]; done))
  | succ n ih =>
    intro i m R h1 hi hD hR hQ1 hQ2
    have e5 : nI p + nI i = nI (p + i) := nI_add p i
    have hln : (zSS.getD (1000013 - 1000010) []).length = 4 := rfl
    have ec : zSc 1000013 (nI i).toNatClampNeg = nI (rl 3 i) := by
      rw [nI_clamp (by omega)]
      rfl
    have hrl : rl 3 i ≤ 126 ∧ (rl 3 i = 73 ∨ rl 3 i = 69 ∨ rl 3 i = 79 ∨ rl 3 i = 78 ∨ rl 3 i = 68 ∨ rl 3 i = 67 ∨ rl 3 i = 86 ∨ rl 3 i = 83 ∨ rl 3 i = 65) := by
      rcases (show i = 1 ∨ i = 2 ∨ i = 3 by omega) with rfl | rfl | rfl <;> decide
    have e1 : nI dep + Int32.ofInt 1 = nI (dep + 1) := by rw [zki, nI_add]
    have f55 : ∀ T, (T = [(0, .ref 11), (1, .int (nI p)), (2, .ref 1000013), (3, .int (nI dep))] ∨ ∃ x, T = (6, .int x) :: [(0, .ref 11), (1, .int (nI p)), (2, .ref 1000013), (3, .int (nI dep))]) → ZW 33 (0, 0, 0, 0) 55 ((5, .int (nI (p + i))) :: (4, .int (nI i)) :: T) [] (SH, m) Q := by
      by_cases e : rwO s p 3 dep i
      · have hat := ev_isAt (k := p + i) (c := rl 3 i) (d := dep + 1) hD hN (by omega) hrl.1 (by omega) (fun i hi => ⟨(hb3 i hi).1, (hb3 i hi).2.1⟩) (b := 1) (Or.inl ⟨rfl, e⟩)
        rw [← ec, ← e1] at hat
        have e' := e
        obtain ⟨g1, g2, g3⟩ := e'
        have hread := ev_read hD hs hN g1 (hb3 _ g1).2.2.1 (by rw [g2]; exact hrl.2)
        have f89 : ∀ r, cvR s (p + i) r → ZW 33 (0, 0, 0, 0) 85 [(5, .int (nI (p + i))), (4, .int (nI i)), (0, .ref 11), (1, .int (nI p)), (2, .ref 1000013), (3, .int (nI dep))] [.int r] (SH, cvm m (tb s (p + i)) (te s (p + i) - tb s (p + i))) Q := by
          intro r hcv
          have hF : vF m (cvm m (tb s (p + i)) (te s (p + i) - tb s (p + i))) := fun b hb1 hb2 => by
            unfold cvm
            rw [zup_n _ hb1, zup_n _ hb1]
          have h13 : cvm m (tb s (p + i)) (te s (p + i) - tb s (p + i)) 13 = m 13 := rfl
          generalize cvm m (tb s (p + i)) (te s (p + i) - tb s (p + i)) = m1 at *
          by_cases er : r = -1
          · subst er
            have hQ := hQ2 m1 i hF (Nat.le_refl i) (by omega) (fun g => by
              obtain ⟨r, g1, g2⟩ := g.2
              exact g2 (cvR_u g1 hcv))
            refine zgo 20 [] ?_
            repeat' (first
              | (show vp_in _ _; simp (disch := first | omega | decide) only [m11, zcn, zkpl, zki, zki1, zk8, zk16, zo32, zlt0, zle0, zeq0, zgt0, zLe0, nI_ltI, nI_leI, nI_eq, nI_add, nI_clamp, vp_in_nI, zup_s, zup_n, upd_s, upd_n, ne_eq, not_true_eq_false, not_false_eq_true]; done)
              | (intro hc; exfalso; simp (disch := first | omega | decide) only [m11, zcn, zkpl, zki, zki1, zk8, zk16, zo32, zlt0, zle0, zeq0, zgt0, zLe0, nI_ltI, nI_leI, nI_eq, nI_add, nI_clamp, vp_in_nI, zup_s, zup_n, upd_s, upd_n, ne_eq, not_true_eq_false, not_false_eq_true] at hc <;> omega)
              | (intro hc; exact absurd rfl hc)
              | intro hc
              | apply And.intro
              | exact hQ
              | (show Q _ (SH, _); simp (disch := first | omega | decide) only [m11, zcn, zkpl, zki, zki1, zk8, zk16, zo32, zlt0, zle0, zeq0, zgt0, zLe0, nI_ltI, nI_leI, nI_eq, nI_add, nI_clamp, vp_in_nI, zup_s, zup_n, upd_s, upd_n, ne_eq, not_true_eq_false, not_false_eq_true]; exact hQ)
              | exact Or.inl rfl
              | exact Or.inr rfl
              | (show (_ : Int32) = 0 ∨ _ = 1; simp (disch := first | omega | decide) only [m11, zcn, zkpl, zki, zki1, zk8, zk16, zo32, zlt0, zle0, zeq0, zgt0, zLe0, nI_ltI, nI_leI, nI_eq, nI_add, nI_clamp, vp_in_nI, zup_s, zup_n, upd_s, upd_n, ne_eq, not_true_eq_false, not_false_eq_true, zeq1, true_or, or_true]; done))
          · have er' := m1n er
            have e3 : nI i + Int32.ofInt 1 = nI (i + 1) := by rw [zki, nI_add]
            have W := ih (i + 1) (zup m1 13 (p + i) r) ((4, .int (nI (i + 1))) :: (6, .int r) :: (5, .int (nI (p + i))) :: [(0, .ref 11), (1, .int (nI p)), (2, .ref 1000013), (3, .int (nI dep))]) (by omega) (by omega) (hD.cg (fun a ha => by rw [zup_n _ (by omega), hF a (by omega) (by omega)])) (Or.inr ⟨_, _, rfl⟩) (fun m' w1 w2 w3 => hQ1 m' (fun a ha hb => by rw [w1 a ha hb, zup_n _ hb, hF a ha hb]) (fun k hk => by rw [w2 k (by omega), zup_s, upd_n _ (by omega), h13]) (fun i' q1 q2 => by
              by_cases e4 : i' = i
              · subst e4
                have : m' 13 (p + i') = r := by rw [w2 (p + i') (by omega), zup_s, upd_s]
                rw [this]
                exact ⟨e, hcv, er⟩
              · exact w3 i' (by omega) q2)) (fun m' i' w1 w2 w3 w4 => hQ2 m' i' (fun a ha hb => by rw [w1 a ha hb, zup_n _ hb, hF a ha hb]) (by omega) w3 w4)
            rw [← e3] at W
            refine zgo 30 [] ?_
            repeat' (first
              | (exact zcg (by simp (disch := first | omega | decide) only [zcn, zkpl, zki, zki1, zk8, zk16, zo32, zlt0, zle0, zeq0, zgt0, zLe0, nI_ltI, nI_leI, nI_eq, nI_add, nI_clamp, vp_in_nI, zup_s, zup_n, upd_s, upd_n, ne_eq, not_true_eq_false, not_false_eq_true]) W)
              | (show vp_in _ _; simp (disch := first | omega | decide) only [er', zcn, zkpl, zki, zki1, zk8, zk16, zo32, zlt0, zle0, zeq0, zgt0, zLe0, nI_ltI, nI_leI, nI_eq, nI_add, nI_clamp, vp_in_nI, zup_s, zup_n, upd_s, upd_n, ne_eq, not_true_eq_false, not_false_eq_true]; done)
              | (intro hc; exfalso; simp (disch := first | omega | decide) only [er', zcn, zkpl, zki, zki1, zk8, zk16, zo32, zlt0, zle0, zeq0, zgt0, zLe0, nI_ltI, nI_leI, nI_eq, nI_add, nI_clamp, vp_in_nI, zup_s, zup_n, upd_s, upd_n, ne_eq, not_true_eq_false, not_false_eq_true] at hc <;> omega)
              | (intro hc; exact absurd rfl hc)
              | intro hc
              | apply And.intro
              | exact Or.inl rfl
              | exact Or.inr rfl
              | (show (_ : Int32) = 0 ∨ _ = 1; simp (disch := first | omega | decide) only [er', zcn, zkpl, zki, zki1, zk8, zk16, zo32, zlt0, zle0, zeq0, zgt0, zLe0, nI_ltI, nI_leI, nI_eq, nI_add, nI_clamp, vp_in_nI, zup_s, zup_n, upd_s, upd_n, ne_eq, not_true_eq_false, not_false_eq_true, zeq1, true_or, or_true]; done))
        have f73 : ZW 33 (0, 0, 0, 0) 73 [(5, .int (nI (p + i))), (4, .int (nI i)), (0, .ref 11), (1, .int (nI p)), (2, .ref 1000013), (3, .int (nI dep))] [.int 1] (SH, m) Q := by
          refine zgo 10 [] ?_
          repeat' (first
            | (exact hread _ (fun r hr => f89 r hr))
            | (show vp_in _ _; simp (disch := first | omega | decide) only [z10, zcn, zkpl, zki, zki1, zk8, zk16, zo32, zlt0, zle0, zeq0, zgt0, zLe0, nI_ltI, nI_leI, nI_eq, nI_add, nI_clamp, vp_in_nI, zup_s, zup_n, upd_s, upd_n, ne_eq, not_true_eq_false, not_false_eq_true]; done)
            | (intro hc; exfalso; simp (disch := first | omega | decide) only [z10, zcn, zkpl, zki, zki1, zk8, zk16, zo32, zlt0, zle0, zeq0, zgt0, zLe0, nI_ltI, nI_leI, nI_eq, nI_add, nI_clamp, vp_in_nI, zup_s, zup_n, upd_s, upd_n, ne_eq, not_true_eq_false, not_false_eq_true] at hc <;> omega)
            | (intro hc; exact absurd rfl hc)
            | intro hc
            | apply And.intro
            | exact Or.inl rfl
            | exact Or.inr rfl
            | (show (_ : Int32) = 0 ∨ _ = 1; simp (disch := first | omega | decide) only [z10, zcn, zkpl, zki, zki1, zk8, zk16, zo32, zlt0, zle0, zeq0, zgt0, zLe0, nI_ltI, nI_leI, nI_eq, nI_add, nI_clamp, vp_in_nI, zup_s, zup_n, upd_s, upd_n, ne_eq, not_true_eq_false, not_false_eq_true, zeq1, true_or, or_true]; done))
        have f89x : ∀ x r, cvR s (p + i) r → ZW 33 (0, 0, 0, 0) 85 [(5, .int (nI (p + i))), (4, .int (nI i)), (6, .int x), (0, .ref 11), (1, .int (nI p)), (2, .ref 1000013), (3, .int (nI dep))] [.int r] (SH, cvm m (tb s (p + i)) (te s (p + i) - tb s (p + i))) Q := by
          intro x r hcv
          have hF : vF m (cvm m (tb s (p + i)) (te s (p + i) - tb s (p + i))) := fun b hb1 hb2 => by
            unfold cvm
            rw [zup_n _ hb1, zup_n _ hb1]
          have h13 : cvm m (tb s (p + i)) (te s (p + i) - tb s (p + i)) 13 = m 13 := rfl
          generalize cvm m (tb s (p + i)) (te s (p + i) - tb s (p + i)) = m1 at *
          by_cases er : r = -1
          · subst er
            have hQ := hQ2 m1 i hF (Nat.le_refl i) (by omega) (fun g => by
              obtain ⟨r, g1, g2⟩ := g.2
              exact g2 (cvR_u g1 hcv))
            refine zgo 20 [] ?_
            repeat' (first
              | (show vp_in _ _; simp (disch := first | omega | decide) only [m11, zcn, zkpl, zki, zki1, zk8, zk16, zo32, zlt0, zle0, zeq0, zgt0, zLe0, nI_ltI, nI_leI, nI_eq, nI_add, nI_clamp, vp_in_nI, zup_s, zup_n, upd_s, upd_n, ne_eq, not_true_eq_false, not_false_eq_true]; done)
              | (intro hc; exfalso; simp (disch := first | omega | decide) only [m11, zcn, zkpl, zki, zki1, zk8, zk16, zo32, zlt0, zle0, zeq0, zgt0, zLe0, nI_ltI, nI_leI, nI_eq, nI_add, nI_clamp, vp_in_nI, zup_s, zup_n, upd_s, upd_n, ne_eq, not_true_eq_false, not_false_eq_true] at hc <;> omega)
              | (intro hc; exact absurd rfl hc)
              | intro hc
              | apply And.intro
              | exact hQ
              | (show Q _ (SH, _); simp (disch := first | omega | decide) only [m11, zcn, zkpl, zki, zki1, zk8, zk16, zo32, zlt0, zle0, zeq0, zgt0, zLe0, nI_ltI, nI_leI, nI_eq, nI_add, nI_clamp, vp_in_nI, zup_s, zup_n, upd_s, upd_n, ne_eq, not_true_eq_false, not_false_eq_true]; exact hQ)
              | exact Or.inl rfl
              | exact Or.inr rfl
              | (show (_ : Int32) = 0 ∨ _ = 1; simp (disch := first | omega | decide) only [m11, zcn, zkpl, zki, zki1, zk8, zk16, zo32, zlt0, zle0, zeq0, zgt0, zLe0, nI_ltI, nI_leI, nI_eq, nI_add, nI_clamp, vp_in_nI, zup_s, zup_n, upd_s, upd_n, ne_eq, not_true_eq_false, not_false_eq_true, zeq1, true_or, or_true]; done))
          · have er' := m1n er
            have e3 : nI i + Int32.ofInt 1 = nI (i + 1) := by rw [zki, nI_add]
            have W := ih (i + 1) (zup m1 13 (p + i) r) ((4, .int (nI (i + 1))) :: (6, .int r) :: (5, .int (nI (p + i))) :: [(0, .ref 11), (1, .int (nI p)), (2, .ref 1000013), (3, .int (nI dep))]) (by omega) (by omega) (hD.cg (fun a ha => by rw [zup_n _ (by omega), hF a (by omega) (by omega)])) (Or.inr ⟨_, _, rfl⟩) (fun m' w1 w2 w3 => hQ1 m' (fun a ha hb => by rw [w1 a ha hb, zup_n _ hb, hF a ha hb]) (fun k hk => by rw [w2 k (by omega), zup_s, upd_n _ (by omega), h13]) (fun i' q1 q2 => by
              by_cases e4 : i' = i
              · subst e4
                have : m' 13 (p + i') = r := by rw [w2 (p + i') (by omega), zup_s, upd_s]
                rw [this]
                exact ⟨e, hcv, er⟩
              · exact w3 i' (by omega) q2)) (fun m' i' w1 w2 w3 w4 => hQ2 m' i' (fun a ha hb => by rw [w1 a ha hb, zup_n _ hb, hF a ha hb]) (by omega) w3 w4)
            rw [← e3] at W
            refine zgo 30 [] ?_
            repeat' (first
              | (exact zcg (by simp (disch := first | omega | decide) only [zcn, zkpl, zki, zki1, zk8, zk16, zo32, zlt0, zle0, zeq0, zgt0, zLe0, nI_ltI, nI_leI, nI_eq, nI_add, nI_clamp, vp_in_nI, zup_s, zup_n, upd_s, upd_n, ne_eq, not_true_eq_false, not_false_eq_true]) W)
              | (show vp_in _ _; simp (disch := first | omega | decide) only [er', zcn, zkpl, zki, zki1, zk8, zk16, zo32, zlt0, zle0, zeq0, zgt0, zLe0, nI_ltI, nI_leI, nI_eq, nI_add, nI_clamp, vp_in_nI, zup_s, zup_n, upd_s, upd_n, ne_eq, not_true_eq_false, not_false_eq_true]; done)
              | (intro hc; exfalso; simp (disch := first | omega | decide) only [er', zcn, zkpl, zki, zki1, zk8, zk16, zo32, zlt0, zle0, zeq0, zgt0, zLe0, nI_ltI, nI_leI, nI_eq, nI_add, nI_clamp, vp_in_nI, zup_s, zup_n, upd_s, upd_n, ne_eq, not_true_eq_false, not_false_eq_true] at hc <;> omega)
              | (intro hc; exact absurd rfl hc)
              | intro hc
              | apply And.intro
              | exact Or.inl rfl
              | exact Or.inr rfl
              | (show (_ : Int32) = 0 ∨ _ = 1; simp (disch := first | omega | decide) only [er', zcn, zkpl, zki, zki1, zk8, zk16, zo32, zlt0, zle0, zeq0, zgt0, zLe0, nI_ltI, nI_leI, nI_eq, nI_add, nI_clamp, vp_in_nI, zup_s, zup_n, upd_s, upd_n, ne_eq, not_true_eq_false, not_false_eq_true, zeq1, true_or, or_true]; done))
        have f73x : ∀ x, ZW 33 (0, 0, 0, 0) 73 [(5, .int (nI (p + i))), (4, .int (nI i)), (6, .int x), (0, .ref 11), (1, .int (nI p)), (2, .ref 1000013), (3, .int (nI dep))] [.int 1] (SH, m) Q := by
          intro x
          refine zgo 10 [] ?_
          repeat' (first
            | (exact hread _ (fun r hr => f89x x r hr))
            | (show vp_in _ _; simp (disch := first | omega | decide) only [z10, zcn, zkpl, zki, zki1, zk8, zk16, zo32, zlt0, zle0, zeq0, zgt0, zLe0, nI_ltI, nI_leI, nI_eq, nI_add, nI_clamp, vp_in_nI, zup_s, zup_n, upd_s, upd_n, ne_eq, not_true_eq_false, not_false_eq_true]; done)
            | (intro hc; exfalso; simp (disch := first | omega | decide) only [z10, zcn, zkpl, zki, zki1, zk8, zk16, zo32, zlt0, zle0, zeq0, zgt0, zLe0, nI_ltI, nI_leI, nI_eq, nI_add, nI_clamp, vp_in_nI, zup_s, zup_n, upd_s, upd_n, ne_eq, not_true_eq_false, not_false_eq_true] at hc <;> omega)
            | (intro hc; exact absurd rfl hc)
            | intro hc
            | apply And.intro
            | exact Or.inl rfl
            | exact Or.inr rfl
            | (show (_ : Int32) = 0 ∨ _ = 1; simp (disch := first | omega | decide) only [z10, zcn, zkpl, zki, zki1, zk8, zk16, zo32, zlt0, zle0, zeq0, zgt0, zLe0, nI_ltI, nI_leI, nI_eq, nI_add, nI_clamp, vp_in_nI, zup_s, zup_n, upd_s, upd_n, ne_eq, not_true_eq_false, not_false_eq_true, zeq1, true_or, or_true]; done))
        intro T hT
        rcases hT with rfl | ⟨x, rfl⟩
        · refine zgo 20 [] ?_
          repeat' (first
            | (exact hat.use f73)
            | (show vp_in _ _; simp (disch := first | omega | decide) only [hln, zcn, zkpl, zki, zki1, zk8, zk16, zo32, zlt0, zle0, zeq0, zgt0, zLe0, nI_ltI, nI_leI, nI_eq, nI_add, nI_clamp, vp_in_nI, zup_s, zup_n, upd_s, upd_n, ne_eq, not_true_eq_false, not_false_eq_true]; done)
            | (intro hc; exfalso; simp (disch := first | omega | decide) only [hln, zcn, zkpl, zki, zki1, zk8, zk16, zo32, zlt0, zle0, zeq0, zgt0, zLe0, nI_ltI, nI_leI, nI_eq, nI_add, nI_clamp, vp_in_nI, zup_s, zup_n, upd_s, upd_n, ne_eq, not_true_eq_false, not_false_eq_true] at hc <;> omega)
            | (intro hc; exact absurd rfl hc)
            | intro hc
            | apply And.intro
            | exact Or.inl rfl
            | exact Or.inr rfl
            | (show (_ : Int32) = 0 ∨ _ = 1; simp (disch := first | omega | decide) only [hln, zcn, zkpl, zki, zki1, zk8, zk16, zo32, zlt0, zle0, zeq0, zgt0, zLe0, nI_ltI, nI_leI, nI_eq, nI_add, nI_clamp, vp_in_nI, zup_s, zup_n, upd_s, upd_n, ne_eq, not_true_eq_false, not_false_eq_true, zeq1, true_or, or_true]; done))
        · refine zgo 20 [] ?_
          repeat' (first
            | (exact hat.use (f73x x))
            | (show vp_in _ _; simp (disch := first | omega | decide) only [hln, zcn, zkpl, zki, zki1, zk8, zk16, zo32, zlt0, zle0, zeq0, zgt0, zLe0, nI_ltI, nI_leI, nI_eq, nI_add, nI_clamp, vp_in_nI, zup_s, zup_n, upd_s, upd_n, ne_eq, not_true_eq_false, not_false_eq_true]; done)
            | (intro hc; exfalso; simp (disch := first | omega | decide) only [hln, zcn, zkpl, zki, zki1, zk8, zk16, zo32, zlt0, zle0, zeq0, zgt0, zLe0, nI_ltI, nI_leI, nI_eq, nI_add, nI_clamp, vp_in_nI, zup_s, zup_n, upd_s, upd_n, ne_eq, not_true_eq_false, not_false_eq_true] at hc <;> omega)
            | (intro hc; exact absurd rfl hc)
            | intro hc
            | apply And.intro
            | exact Or.inl rfl
            | exact Or.inr rfl
            | (show (_ : Int32) = 0 ∨ _ = 1; simp (disch := first | omega | decide) only [hln, zcn, zkpl, zki, zki1, zk8, zk16, zo32, zlt0, zle0, zeq0, zgt0, zLe0, nI_ltI, nI_leI, nI_eq, nI_add, nI_clamp, vp_in_nI, zup_s, zup_n, upd_s, upd_n, ne_eq, not_true_eq_false, not_false_eq_true, zeq1, true_or, or_true]; done))
      · have hat := ev_isAt (k := p + i) (c := rl 3 i) (d := dep + 1) hD hN (by omega) hrl.1 (by omega) (fun i hi => ⟨(hb3 i hi).1, (hb3 i hi).2.1⟩) (b := 0) (Or.inr ⟨rfl, e⟩)
        rw [← ec, ← e1] at hat
        have hQ := hQ2 m i (fun _ _ _ => rfl) (Nat.le_refl i) (by omega) (fun g => e g.1)
        intro T hT
        rcases hT with rfl | ⟨x, rfl⟩
        · have f73 : ZW 33 (0, 0, 0, 0) 73 [(5, .int (nI (p + i))), (4, .int (nI i)), (0, .ref 11), (1, .int (nI p)), (2, .ref 1000013), (3, .int (nI dep))] [.int 0] (SH, m) Q := by
            refine zgo 20 [] ?_
            repeat' (first
              | (show vp_in _ _; simp (disch := first | omega | decide) only [m11, zcn, zkpl, zki, zki1, zk8, zk16, zo32, zlt0, zle0, zeq0, zgt0, zLe0, nI_ltI, nI_leI, nI_eq, nI_add, nI_clamp, vp_in_nI, zup_s, zup_n, upd_s, upd_n, ne_eq, not_true_eq_false, not_false_eq_true]; done)
              | (intro hc; exfalso; simp (disch := first | omega | decide) only [m11, zcn, zkpl, zki, zki1, zk8, zk16, zo32, zlt0, zle0, zeq0, zgt0, zLe0, nI_ltI, nI_leI, nI_eq, nI_add, nI_clamp, vp_in_nI, zup_s, zup_n, upd_s, upd_n, ne_eq, not_true_eq_false, not_false_eq_true] at hc <;> omega)
              | (intro hc; exact absurd rfl hc)
              | intro hc
              | apply And.intro
              | exact hQ
              | (show Q _ (SH, _); simp (disch := first | omega | decide) only [m11, zcn, zkpl, zki, zki1, zk8, zk16, zo32, zlt0, zle0, zeq0, zgt0, zLe0, nI_ltI, nI_leI, nI_eq, nI_add, nI_clamp, vp_in_nI, zup_s, zup_n, upd_s, upd_n, ne_eq, not_true_eq_false, not_false_eq_true]; exact hQ)
              | exact Or.inl rfl
              | exact Or.inr rfl
              | (show (_ : Int32) = 0 ∨ _ = 1; simp (disch := first | omega | decide) only [m11, zcn, zkpl, zki, zki1, zk8, zk16, zo32, zlt0, zle0, zeq0, zgt0, zLe0, nI_ltI, nI_leI, nI_eq, nI_add, nI_clamp, vp_in_nI, zup_s, zup_n, upd_s, upd_n, ne_eq, not_true_eq_false, not_false_eq_true, zeq1, true_or, or_true]; done))
          refine zgo 20 [] ?_
          repeat' (first
            | (exact hat.use f73)
            | (show vp_in _ _; simp (disch := first | omega | decide) only [hln, zcn, zkpl, zki, zki1, zk8, zk16, zo32, zlt0, zle0, zeq0, zgt0, zLe0, nI_ltI, nI_leI, nI_eq, nI_add, nI_clamp, vp_in_nI, zup_s, zup_n, upd_s, upd_n, ne_eq, not_true_eq_false, not_false_eq_true]; done)
            | (intro hc; exfalso; simp (disch := first | omega | decide) only [hln, zcn, zkpl, zki, zki1, zk8, zk16, zo32, zlt0, zle0, zeq0, zgt0, zLe0, nI_ltI, nI_leI, nI_eq, nI_add, nI_clamp, vp_in_nI, zup_s, zup_n, upd_s, upd_n, ne_eq, not_true_eq_false, not_false_eq_true] at hc <;> omega)
            | (intro hc; exact absurd rfl hc)
            | intro hc
            | apply And.intro
            | exact Or.inl rfl
            | exact Or.inr rfl
            | (show (_ : Int32) = 0 ∨ _ = 1; simp (disch := first | omega | decide) only [hln, zcn, zkpl, zki, zki1, zk8, zk16, zo32, zlt0, zle0, zeq0, zgt0, zLe0, nI_ltI, nI_leI, nI_eq, nI_add, nI_clamp, vp_in_nI, zup_s, zup_n, upd_s, upd_n, ne_eq, not_true_eq_false, not_false_eq_true, zeq1, true_or, or_true]; done))
        · have f73 : ZW 33 (0, 0, 0, 0) 73 [(5, .int (nI (p + i))), (4, .int (nI i)), (6, .int x), (0, .ref 11), (1, .int (nI p)), (2, .ref 1000013), (3, .int (nI dep))] [.int 0] (SH, m) Q := by
            refine zgo 20 [] ?_
            repeat' (first
              | (show vp_in _ _; simp (disch := first | omega | decide) only [m11, zcn, zkpl, zki, zki1, zk8, zk16, zo32, zlt0, zle0, zeq0, zgt0, zLe0, nI_ltI, nI_leI, nI_eq, nI_add, nI_clamp, vp_in_nI, zup_s, zup_n, upd_s, upd_n, ne_eq, not_true_eq_false, not_false_eq_true]; done)
              | (intro hc; exfalso; simp (disch := first | omega | decide) only [m11, zcn, zkpl, zki, zki1, zk8, zk16, zo32, zlt0, zle0, zeq0, zgt0, zLe0, nI_ltI, nI_leI, nI_eq, nI_add, nI_clamp, vp_in_nI, zup_s, zup_n, upd_s, upd_n, ne_eq, not_true_eq_false, not_false_eq_true] at hc <;> omega)
              | (intro hc; exact absurd rfl hc)
              | intro hc
              | apply And.intro
              | exact hQ
              | (show Q _ (SH, _); simp (disch := first | omega | decide) only [m11, zcn, zkpl, zki, zki1, zk8, zk16, zo32, zlt0, zle0, zeq0, zgt0, zLe0, nI_ltI, nI_leI, nI_eq, nI_add, nI_clamp, vp_in_nI, zup_s, zup_n, upd_s, upd_n, ne_eq, not_true_eq_false, not_false_eq_true]; exact hQ)
              | exact Or.inl rfl
              | exact Or.inr rfl
              | (show (_ : Int32) = 0 ∨ _ = 1; simp (disch := first | omega | decide) only [m11, zcn, zkpl, zki, zki1, zk8, zk16, zo32, zlt0, zle0, zeq0, zgt0, zLe0, nI_ltI, nI_leI, nI_eq, nI_add, nI_clamp, vp_in_nI, zup_s, zup_n, upd_s, upd_n, ne_eq, not_true_eq_false, not_false_eq_true, zeq1, true_or, or_true]; done))
          refine zgo 20 [] ?_
          repeat' (first
            | (exact hat.use f73)
            | (show vp_in _ _; simp (disch := first | omega | decide) only [hln, zcn, zkpl, zki, zki1, zk8, zk16, zo32, zlt0, zle0, zeq0, zgt0, zLe0, nI_ltI, nI_leI, nI_eq, nI_add, nI_clamp, vp_in_nI, zup_s, zup_n, upd_s, upd_n, ne_eq, not_true_eq_false, not_false_eq_true]; done)
            | (intro hc; exfalso; simp (disch := first | omega | decide) only [hln, zcn, zkpl, zki, zki1, zk8, zk16, zo32, zlt0, zle0, zeq0, zgt0, zLe0, nI_ltI, nI_leI, nI_eq, nI_add, nI_clamp, vp_in_nI, zup_s, zup_n, upd_s, upd_n, ne_eq, not_true_eq_false, not_false_eq_true] at hc <;> omega)
            | (intro hc; exact absurd rfl hc)
            | intro hc
            | apply And.intro
            | exact Or.inl rfl
            | exact Or.inr rfl
            | (show (_ : Int32) = 0 ∨ _ = 1; simp (disch := first | omega | decide) only [hln, zcn, zkpl, zki, zki1, zk8, zk16, zo32, zlt0, zle0, zeq0, zgt0, zLe0, nI_ltI, nI_leI, nI_eq, nI_add, nI_clamp, vp_in_nI, zup_s, zup_n, upd_s, upd_n, ne_eq, not_true_eq_false, not_false_eq_true, zeq1, true_or, or_true]; done))
    rw [← e5] at f55
    rcases hR with rfl | ⟨x, y, rfl⟩
    · have f := f55 _ (Or.inl rfl)
      refine zgo 8 [] ?_
      repeat' (first
        | (exact f)
        | (show vp_in _ _; simp (disch := first | omega | decide) only [hln, zcn, zkpl, zki, zki1, zk8, zk16, zo32, zlt0, zle0, zeq0, zgt0, zLe0, nI_ltI, nI_leI, nI_eq, nI_add, nI_clamp, vp_in_nI, zup_s, zup_n, upd_s, upd_n, ne_eq, not_true_eq_false, not_false_eq_true]; done)
        | (intro hc; exfalso; simp (disch := first | omega | decide) only [hln, zcn, zkpl, zki, zki1, zk8, zk16, zo32, zlt0, zle0, zeq0, zgt0, zLe0, nI_ltI, nI_leI, nI_eq, nI_add, nI_clamp, vp_in_nI, zup_s, zup_n, upd_s, upd_n, ne_eq, not_true_eq_false, not_false_eq_true] at hc <;> omega)
        | (intro hc; exact absurd rfl hc)
        | intro hc
        | apply And.intro
        | exact Or.inl rfl
        | exact Or.inr rfl
        | (show (_ : Int32) = 0 ∨ _ = 1; simp (disch := first | omega | decide) only [hln, zcn, zkpl, zki, zki1, zk8, zk16, zo32, zlt0, zle0, zeq0, zgt0, zLe0, nI_ltI, nI_leI, nI_eq, nI_add, nI_clamp, vp_in_nI, zup_s, zup_n, upd_s, upd_n, ne_eq, not_true_eq_false, not_false_eq_true, zeq1, true_or, or_true]; done))
    · have f := f55 _ (Or.inr ⟨x, rfl⟩)
      refine zgo 8 [] ?_
      repeat' (first
        | (exact f)
        | (show vp_in _ _; simp (disch := first | omega | decide) only [hln, zcn, zkpl, zki, zki1, zk8, zk16, zo32, zlt0, zle0, zeq0, zgt0, zLe0, nI_ltI, nI_leI, nI_eq, nI_add, nI_clamp, vp_in_nI, zup_s, zup_n, upd_s, upd_n, ne_eq, not_true_eq_false, not_false_eq_true]; done)
        | (intro hc; exfalso; simp (disch := first | omega | decide) only [hln, zcn, zkpl, zki, zki1, zk8, zk16, zo32, zlt0, zle0, zeq0, zgt0, zLe0, nI_ltI, nI_leI, nI_eq, nI_add, nI_clamp, vp_in_nI, zup_s, zup_n, upd_s, upd_n, ne_eq, not_true_eq_false, not_false_eq_true] at hc <;> omega)
        | (intro hc; exact absurd rfl hc)
        | intro hc
        | apply And.intro
        | exact Or.inl rfl
        | exact Or.inr rfl
        | (show (_ : Int32) = 0 ∨ _ = 1; simp (disch := first | omega | decide) only [hln, zcn, zkpl, zki, zki1, zk8, zk16, zo32, zlt0, zle0, zeq0, zgt0, zLe0, nI_ltI, nI_leI, nI_eq, nI_add, nI_clamp, vp_in_nI, zup_s, zup_n, upd_s, upd_n, ne_eq, not_true_eq_false, not_false_eq_true, zeq1, true_or, or_true]; done))
theorem tk_row3 {s : pS} (hr : rdy s) {p dep : Nat} (hp : p + 4 ≤ 19) (hdp : dep ≤ 3) {m : zM} (hD : tD m s) (Q : zQ) (hQ1 : ∀ m', vF m m' → (∀ k, k ≤ p → m' 13 k = m 13 k) → trO s p 3 dep → (∀ i', 1 ≤ i' → i' < 4 → cvR s (p + i') (m' 13 (p + i')) ∧ m' 13 (p + i') ≠ -1) → Q (some (.int 1)) (SH, m')) (hQ2 : ∀ m', vF m m' → ¬ trO s p 3 dep → Q (some (.int 0)) (SH, m')) : ZM 33 0 0 [.ref 11, .int (nI p), .ref 1000013, .int (nI dep)] (SH, m) Q := by
  have hr0 := hr
  obtain ⟨hs, hN, hb3⟩ := hr
  by_cases e : p < s 0 1 ∧ s 2 p = rl 3 0 ∧ s 3 p = dep
  · have hat := ev_isAt (k := p) (c := rl 3 0) (d := dep) hD hN (by omega) (by decide) (by omega) (fun i hi => ⟨(hb3 i hi).1, (hb3 i hi).2.1⟩) (b := 1) (Or.inl ⟨rfl, e⟩)
    by_cases e6 : s 6 p = 0
    · have hbl := ev_blanks hD hN e.1 (hb3 p e.1).2.2.2 (b := 1) (Or.inl ⟨rfl, e6⟩)
      have W := tw_loop3 hr0 hp hdp Q 3 1 m _ (by omega) (by omega) hD (Or.inl rfl) (fun m' w1 w2 w3 => hQ1 m' w1 (fun k hk => w2 k (by omega)) ⟨⟨e.1, e.2.1, e.2.2, e6⟩, fun i g1 g2 => ⟨(w3 i g1 g2).1, ⟨_, (w3 i g1 g2).2⟩⟩⟩ (fun i' g1 g2 => (w3 i' g1 g2).2)) (fun m' i' w1 w2 w3 w4 => hQ2 m' w1 (fun g => w4 (g.2 i' w2 w3)))
      have f32 : ZW 33 (0, 0, 0, 0) 32 [(0, .ref 11), (1, .int (nI p)), (2, .ref 1000013), (3, .int (nI dep))] [.int 1] (SH, m) Q := by
        refine zgo 10 [] ?_
        repeat' (first
          | (exact W)
          | (show vp_in _ _; simp (disch := first | omega | decide) only [z10, zcn, zkpl, zki, zki1, zk8, zk16, zo32, zlt0, zle0, zeq0, zgt0, zLe0, nI_ltI, nI_leI, nI_eq, nI_add, nI_clamp, vp_in_nI, zup_s, zup_n, upd_s, upd_n, ne_eq, not_true_eq_false, not_false_eq_true]; done)
          | (intro hc; exfalso; simp (disch := first | omega | decide) only [z10, zcn, zkpl, zki, zki1, zk8, zk16, zo32, zlt0, zle0, zeq0, zgt0, zLe0, nI_ltI, nI_leI, nI_eq, nI_add, nI_clamp, vp_in_nI, zup_s, zup_n, upd_s, upd_n, ne_eq, not_true_eq_false, not_false_eq_true] at hc <;> omega)
          | (intro hc; exact absurd rfl hc)
          | intro hc
          | apply And.intro
          | exact Or.inl rfl
          | exact Or.inr rfl
          | (show (_ : Int32) = 0 ∨ _ = 1; simp (disch := first | omega | decide) only [z10, zcn, zkpl, zki, zki1, zk8, zk16, zo32, zlt0, zle0, zeq0, zgt0, zLe0, nI_ltI, nI_leI, nI_eq, nI_add, nI_clamp, vp_in_nI, zup_s, zup_n, upd_s, upd_n, ne_eq, not_true_eq_false, not_false_eq_true, zeq1, true_or, or_true]; done))
      have f21 : ZW 33 (0, 0, 0, 0) 21 [(0, .ref 11), (1, .int (nI p)), (2, .ref 1000013), (3, .int (nI dep))] [.int 1] (SH, m) Q := by
        refine zgo 10 [] ?_
        repeat' (first
          | (exact hbl.use f32)
          | (show vp_in _ _; simp (disch := first | omega | decide) only [z10, zcn, zkpl, zki, zki1, zk8, zk16, zo32, zlt0, zle0, zeq0, zgt0, zLe0, nI_ltI, nI_leI, nI_eq, nI_add, nI_clamp, vp_in_nI, zup_s, zup_n, upd_s, upd_n, ne_eq, not_true_eq_false, not_false_eq_true]; done)
          | (intro hc; exfalso; simp (disch := first | omega | decide) only [z10, zcn, zkpl, zki, zki1, zk8, zk16, zo32, zlt0, zle0, zeq0, zgt0, zLe0, nI_ltI, nI_leI, nI_eq, nI_add, nI_clamp, vp_in_nI, zup_s, zup_n, upd_s, upd_n, ne_eq, not_true_eq_false, not_false_eq_true] at hc <;> omega)
          | (intro hc; exact absurd rfl hc)
          | intro hc
          | apply And.intro
          | exact Or.inl rfl
          | exact Or.inr rfl
          | (show (_ : Int32) = 0 ∨ _ = 1; simp (disch := first | omega | decide) only [z10, zcn, zkpl, zki, zki1, zk8, zk16, zo32, zlt0, zle0, zeq0, zgt0, zLe0, nI_ltI, nI_leI, nI_eq, nI_add, nI_clamp, vp_in_nI, zup_s, zup_n, upd_s, upd_n, ne_eq, not_true_eq_false, not_false_eq_true, zeq1, true_or, or_true]; done))
      refine zgo 20 [] ?_
      repeat' (first
        | (exact hat.use f21)
        | (show vp_in _ _; simp (disch := first | omega | decide) only [zcn, zkpl, zki, zki1, zk8, zk16, zo32, zlt0, zle0, zeq0, zgt0, zLe0, nI_ltI, nI_leI, nI_eq, nI_add, nI_clamp, vp_in_nI, zup_s, zup_n, upd_s, upd_n, ne_eq, not_true_eq_false, not_false_eq_true]; done)
        | (intro hc; exfalso; simp (disch := first | omega | decide) only [zcn, zkpl, zki, zki1, zk8, zk16, zo32, zlt0, zle0, zeq0, zgt0, zLe0, nI_ltI, nI_leI, nI_eq, nI_add, nI_clamp, vp_in_nI, zup_s, zup_n, upd_s, upd_n, ne_eq, not_true_eq_false, not_false_eq_true] at hc <;> omega)
        | (intro hc; exact absurd rfl hc)
        | intro hc
        | apply And.intro
        | exact Or.inl rfl
        | exact Or.inr rfl
        | (show (_ : Int32) = 0 ∨ _ = 1; simp (disch := first | omega | decide) only [zcn, zkpl, zki, zki1, zk8, zk16, zo32, zlt0, zle0, zeq0, zgt0, zLe0, nI_ltI, nI_leI, nI_eq, nI_add, nI_clamp, vp_in_nI, zup_s, zup_n, upd_s, upd_n, ne_eq, not_true_eq_false, not_false_eq_true, zeq1, true_or, or_true]; done))
    · have hbl := ev_blanks hD hN e.1 (hb3 p e.1).2.2.2 (b := 0) (Or.inr ⟨rfl, e6⟩)
      have hQ := hQ2 m (fun _ _ _ => rfl) (fun g => e6 g.1.2.2.2)
      have f32 : ZW 33 (0, 0, 0, 0) 32 [(0, .ref 11), (1, .int (nI p)), (2, .ref 1000013), (3, .int (nI dep))] [.int 0] (SH, m) Q := by
        refine zgo 10 [] ?_
        repeat' (first
          | (show vp_in _ _; simp (disch := first | omega | decide) only [z10, zcn, zkpl, zki, zki1, zk8, zk16, zo32, zlt0, zle0, zeq0, zgt0, zLe0, nI_ltI, nI_leI, nI_eq, nI_add, nI_clamp, vp_in_nI, zup_s, zup_n, upd_s, upd_n, ne_eq, not_true_eq_false, not_false_eq_true]; done)
          | (intro hc; exfalso; simp (disch := first | omega | decide) only [z10, zcn, zkpl, zki, zki1, zk8, zk16, zo32, zlt0, zle0, zeq0, zgt0, zLe0, nI_ltI, nI_leI, nI_eq, nI_add, nI_clamp, vp_in_nI, zup_s, zup_n, upd_s, upd_n, ne_eq, not_true_eq_false, not_false_eq_true] at hc <;> omega)
          | (intro hc; exact absurd rfl hc)
          | intro hc
          | apply And.intro
          | exact hQ
          | (show Q _ (SH, _); simp (disch := first | omega | decide) only [z10, zcn, zkpl, zki, zki1, zk8, zk16, zo32, zlt0, zle0, zeq0, zgt0, zLe0, nI_ltI, nI_leI, nI_eq, nI_add, nI_clamp, vp_in_nI, zup_s, zup_n, upd_s, upd_n, ne_eq, not_true_eq_false, not_false_eq_true]; exact hQ)
          | exact Or.inl rfl
          | exact Or.inr rfl
          | (show (_ : Int32) = 0 ∨ _ = 1; simp (disch := first | omega | decide) only [z10, zcn, zkpl, zki, zki1, zk8, zk16, zo32, zlt0, zle0, zeq0, zgt0, zLe0, nI_ltI, nI_leI, nI_eq, nI_add, nI_clamp, vp_in_nI, zup_s, zup_n, upd_s, upd_n, ne_eq, not_true_eq_false, not_false_eq_true, zeq1, true_or, or_true]; done))
      have f21 : ZW 33 (0, 0, 0, 0) 21 [(0, .ref 11), (1, .int (nI p)), (2, .ref 1000013), (3, .int (nI dep))] [.int 1] (SH, m) Q := by
        refine zgo 10 [] ?_
        repeat' (first
          | (exact hbl.use f32)
          | (show vp_in _ _; simp (disch := first | omega | decide) only [z10, zcn, zkpl, zki, zki1, zk8, zk16, zo32, zlt0, zle0, zeq0, zgt0, zLe0, nI_ltI, nI_leI, nI_eq, nI_add, nI_clamp, vp_in_nI, zup_s, zup_n, upd_s, upd_n, ne_eq, not_true_eq_false, not_false_eq_true]; done)
          | (intro hc; exfalso; simp (disch := first | omega | decide) only [z10, zcn, zkpl, zki, zki1, zk8, zk16, zo32, zlt0, zle0, zeq0, zgt0, zLe0, nI_ltI, nI_leI, nI_eq, nI_add, nI_clamp, vp_in_nI, zup_s, zup_n, upd_s, upd_n, ne_eq, not_true_eq_false, not_false_eq_true] at hc <;> omega)
          | (intro hc; exact absurd rfl hc)
          | intro hc
          | apply And.intro
          | exact Or.inl rfl
          | exact Or.inr rfl
          | (show (_ : Int32) = 0 ∨ _ = 1; simp (disch := first | omega | decide) only [z10, zcn, zkpl, zki, zki1, zk8, zk16, zo32, zlt0, zle0, zeq0, zgt0, zLe0, nI_ltI, nI_leI, nI_eq, nI_add, nI_clamp, vp_in_nI, zup_s, zup_n, upd_s, upd_n, ne_eq, not_true_eq_false, not_false_eq_true, zeq1, true_or, or_true]; done))
      refine zgo 20 [] ?_
      repeat' (first
        | (exact hat.use f21)
        | (show vp_in _ _; simp (disch := first | omega | decide) only [zcn, zkpl, zki, zki1, zk8, zk16, zo32, zlt0, zle0, zeq0, zgt0, zLe0, nI_ltI, nI_leI, nI_eq, nI_add, nI_clamp, vp_in_nI, zup_s, zup_n, upd_s, upd_n, ne_eq, not_true_eq_false, not_false_eq_true]; done)
        | (intro hc; exfalso; simp (disch := first | omega | decide) only [zcn, zkpl, zki, zki1, zk8, zk16, zo32, zlt0, zle0, zeq0, zgt0, zLe0, nI_ltI, nI_leI, nI_eq, nI_add, nI_clamp, vp_in_nI, zup_s, zup_n, upd_s, upd_n, ne_eq, not_true_eq_false, not_false_eq_true] at hc <;> omega)
        | (intro hc; exact absurd rfl hc)
        | intro hc
        | apply And.intro
        | exact Or.inl rfl
        | exact Or.inr rfl
        | (show (_ : Int32) = 0 ∨ _ = 1; simp (disch := first | omega | decide) only [zcn, zkpl, zki, zki1, zk8, zk16, zo32, zlt0, zle0, zeq0, zgt0, zLe0, nI_ltI, nI_leI, nI_eq, nI_add, nI_clamp, vp_in_nI, zup_s, zup_n, upd_s, upd_n, ne_eq, not_true_eq_false, not_false_eq_true, zeq1, true_or, or_true]; done))
  · have hat := ev_isAt (k := p) (c := rl 3 0) (d := dep) hD hN (by omega) (by decide) (by omega) (fun i hi => ⟨(hb3 i hi).1, (hb3 i hi).2.1⟩) (b := 0) (Or.inr ⟨rfl, e⟩)
    have hQ := hQ2 m (fun _ _ _ => rfl) (fun g => e ⟨g.1.1, g.1.2.1, g.1.2.2.1⟩)
    have f21 : ZW 33 (0, 0, 0, 0) 21 [(0, .ref 11), (1, .int (nI p)), (2, .ref 1000013), (3, .int (nI dep))] [.int 0] (SH, m) Q := by
      refine zgo 10 [] ?_
      repeat' (first
        | (show vp_in _ _; simp (disch := first | omega | decide) only [z10, zcn, zkpl, zki, zki1, zk8, zk16, zo32, zlt0, zle0, zeq0, zgt0, zLe0, nI_ltI, nI_leI, nI_eq, nI_add, nI_clamp, vp_in_nI, zup_s, zup_n, upd_s, upd_n, ne_eq, not_true_eq_false, not_false_eq_true]; done)
        | (intro hc; exfalso; simp (disch := first | omega | decide) only [z10, zcn, zkpl, zki, zki1, zk8, zk16, zo32, zlt0, zle0, zeq0, zgt0, zLe0, nI_ltI, nI_leI, nI_eq, nI_add, nI_clamp, vp_in_nI, zup_s, zup_n, upd_s, upd_n, ne_eq, not_true_eq_false, not_false_eq_true] at hc <;> omega)
        | (intro hc; exact absurd rfl hc)
        | intro hc
        | apply And.intro
        | exact hQ
        | (show Q _ (SH, _); simp (disch := first | omega | decide) only [z10, zcn, zkpl, zki, zki1, zk8, zk16, zo32, zlt0, zle0, zeq0, zgt0, zLe0, nI_ltI, nI_leI, nI_eq, nI_add, nI_clamp, vp_in_nI, zup_s, zup_n, upd_s, upd_n, ne_eq, not_true_eq_false, not_false_eq_true]; exact hQ)
        | exact Or.inl rfl
        | exact Or.inr rfl
        | (show (_ : Int32) = 0 ∨ _ = 1; simp (disch := first | omega | decide) only [z10, zcn, zkpl, zki, zki1, zk8, zk16, zo32, zlt0, zle0, zeq0, zgt0, zLe0, nI_ltI, nI_leI, nI_eq, nI_add, nI_clamp, vp_in_nI, zup_s, zup_n, upd_s, upd_n, ne_eq, not_true_eq_false, not_false_eq_true, zeq1, true_or, or_true]; done))
    refine zgo 20 [] ?_
    repeat' (first
      | (exact hat.use f21)
      | (show vp_in _ _; simp (disch := first | omega | decide) only [zcn, zkpl, zki, zki1, zk8, zk16, zo32, zlt0, zle0, zeq0, zgt0, zLe0, nI_ltI, nI_leI, nI_eq, nI_add, nI_clamp, vp_in_nI, zup_s, zup_n, upd_s, upd_n, ne_eq, not_true_eq_false, not_false_eq_true]; done)
      | (intro hc; exfalso; simp (disch := first | omega | decide) only [zcn, zkpl, zki, zki1, zk8, zk16, zo32, zlt0, zle0, zeq0, zgt0, zLe0, nI_ltI, nI_leI, nI_eq, nI_add, nI_clamp, vp_in_nI, zup_s, zup_n, upd_s, upd_n, ne_eq, not_true_eq_false, not_false_eq_true] at hc <;> omega)
      | (intro hc; exact absurd rfl hc)
      | intro hc
      | apply And.intro
      | exact Or.inl rfl
      | exact Or.inr rfl
      | (show (_ : Int32) = 0 ∨ _ = 1; simp (disch := first | omega | decide) only [zcn, zkpl, zki, zki1, zk8, zk16, zo32, zlt0, zle0, zeq0, zgt0, zLe0, nI_ltI, nI_leI, nI_eq, nI_add, nI_clamp, vp_in_nI, zup_s, zup_n, upd_s, upd_n, ne_eq, not_true_eq_false, not_false_eq_true, zeq1, true_or, or_true]; done))
