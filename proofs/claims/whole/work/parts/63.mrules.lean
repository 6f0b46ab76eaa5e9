/-! the model's rules -/
theorem bf_c {b : Int32} {P P' : Prop} (h : bf b P) (e : P ↔ P') : bf b P' := by
  rcases h with ⟨g1, g2⟩ | ⟨g1, g2⟩
  · exact Or.inl ⟨g1, e.1 g2⟩
  · exact Or.inr ⟨g1, fun g => g2 (e.2 g)⟩
def fsh (u : zM) (nT t : Nat) : Prop := (∀ j, j < nT → u 60 j ≠ u 52 t) ∧ ∀ o, o < t → u 52 o ≠ u 52 t
theorem all_s {P : Nat → Prop} {t : Nat} : ((∀ t', t' < t → P t') ∧ P t) ↔ ∀ t', t' < t + 1 → P t' := by
  constructor
  · rintro ⟨h1, h2⟩ t' ht
    by_cases e : t' = t
    · rw [e]
      exact h2
    · exact h1 t' (by omega)
  · intro h
    exact ⟨fun t' ht => h t' (by omega), h t (by omega)⟩
set_option maxRecDepth 4000 in
theorem pay_end {u : zM} {n nT nb x2 x3 : Nat} {T : Nat} {rr aa ff : Int32} {p6 p7 p8 : Prop} (h23 : u 42 23 = nI x2) (h30 : u 42 30 = nI n) (h24 : u 42 24 = nI x3) (hT : u 42 45 = nI nT) (hb : u 42 36 = nI nb) (bx : x2 ≤ 99 ∧ x3 ≤ 99999999 ∧ T ≤ 299999997 ∧ n ≤ 3 ∧ nT ≤ 20 ∧ nb ≤ 5247) (h6 : bf rr (¬ p6)) (h7 : bf aa (¬ p7)) (h8 : bf ff (¬ p8)) (Q : zQ) (hQ0 : ∀ r, rbP (x2 ≠ n) (x3 ≠ T) p6 p7 p8 (20 < nT + n ∨ 4000 ≤ nb) r → Q (some (.int (nI r))) (SH, u)) : ∀ R, pH (nI n) (nI T) rr aa ff R → ZW 182 (0, 0, 0, 0) 191 R [] (SH, u) Q := by
  intro R hR
  have c236 : x2 = n → x3 = T → ¬ p6 → ¬ p7 → ¬ p8 → ∀ R, pH (nI n) (nI T) rr aa ff R → ZW 182 (0, 0, 0, 0) 236 R [] (SH, u) Q := by
    intro e4 e5 e6 e7 e8 R hR
    by_cases e9 : 20 < nT + n
    · have hQ := hQ0 9 (Or.inr (Or.inr (Or.inr (Or.inr (Or.inr (Or.inl ⟨fun g => g e4, fun g => g e5, e6, e7, e8, by omega, rfl⟩))))))
      rcases hR with rfl | ⟨y, rfl⟩
      · refine zgo 20 [] ?_
        repeat' (first
          | (show vp_in _ _; simp (disch := first | omega | decide) only [hT, h30, zcn, zkpl, zki, zki1, zk8, zk16, zo32, zlt0, zle0, zeq0, zgt0, zLe0, nI_ltI, nI_leI, nI_eq, nI_add, nI_clamp, vp_in_nI, zup_s, zup_n, upd_s, upd_n, ne_eq, not_true_eq_false, not_false_eq_true]; done)
          | (intro hc; exfalso; simp (disch := first | omega | decide) only [hT, h30, zcn, zkpl, zki, zki1, zk8, zk16, zo32, zlt0, zle0, zeq0, zgt0, zLe0, nI_ltI, nI_leI, nI_eq, nI_add, nI_clamp, vp_in_nI, zup_s, zup_n, upd_s, upd_n, ne_eq, not_true_eq_false, not_false_eq_true] at hc <;> omega)
          | (intro hc; exact absurd rfl hc)
          | intro hc
          | apply And.intro
          | exact hQ
          | (show Q _ (SH, _); simp (disch := first | omega | decide) only [hT, h30, zcn, zkpl, zki, zki1, zk8, zk16, zo32, zlt0, zle0, zeq0, zgt0, zLe0, nI_ltI, nI_leI, nI_eq, nI_add, nI_clamp, vp_in_nI, zup_s, zup_n, upd_s, upd_n, ne_eq, not_true_eq_false, not_false_eq_true]; exact hQ)
          | exact Or.inl rfl
          | exact Or.inr rfl
          | (show (_ : Int32) = 0 ∨ _ = 1; simp (disch := first | omega | decide) only [hT, h30, zcn, zkpl, zki, zki1, zk8, zk16, zo32, zlt0, zle0, zeq0, zgt0, zLe0, nI_ltI, nI_leI, nI_eq, nI_add, nI_clamp, vp_in_nI, zup_s, zup_n, upd_s, upd_n, ne_eq, not_true_eq_false, not_false_eq_true, zeq1, true_or, or_true]; done))
      · refine zgo 20 [] ?_
        repeat' (first
          | (show vp_in _ _; simp (disch := first | omega | decide) only [hT, h30, zcn, zkpl, zki, zki1, zk8, zk16, zo32, zlt0, zle0, zeq0, zgt0, zLe0, nI_ltI, nI_leI, nI_eq, nI_add, nI_clamp, vp_in_nI, zup_s, zup_n, upd_s, upd_n, ne_eq, not_true_eq_false, not_false_eq_true]; done)
          | (intro hc; exfalso; simp (disch := first | omega | decide) only [hT, h30, zcn, zkpl, zki, zki1, zk8, zk16, zo32, zlt0, zle0, zeq0, zgt0, zLe0, nI_ltI, nI_leI, nI_eq, nI_add, nI_clamp, vp_in_nI, zup_s, zup_n, upd_s, upd_n, ne_eq, not_true_eq_false, not_false_eq_true] at hc <;> omega)
          | (intro hc; exact absurd rfl hc)
          | intro hc
          | apply And.intro
          | exact hQ
          | (show Q _ (SH, _); simp (disch := first | omega | decide) only [hT, h30, zcn, zkpl, zki, zki1, zk8, zk16, zo32, zlt0, zle0, zeq0, zgt0, zLe0, nI_ltI, nI_leI, nI_eq, nI_add, nI_clamp, vp_in_nI, zup_s, zup_n, upd_s, upd_n, ne_eq, not_true_eq_false, not_false_eq_true]; exact hQ)
          | exact Or.inl rfl
          | exact Or.inr rfl
          | (show (_ : Int32) = 0 ∨ _ = 1; simp (disch := first | omega | decide) only [hT, h30, zcn, zkpl, zki, zki1, zk8, zk16, zo32, zlt0, zle0, zeq0, zgt0, zLe0, nI_ltI, nI_leI, nI_eq, nI_add, nI_clamp, vp_in_nI, zup_s, zup_n, upd_s, upd_n, ne_eq, not_true_eq_false, not_false_eq_true, zeq1, true_or, or_true]; done))
    · by_cases e10 : nb < 4000
      · have hQ := hQ0 0 (Or.inr (Or.inr (Or.inr (Or.inr (Or.inr (Or.inr ⟨fun g => g e4, fun g => g e5, e6, e7, e8, by omega, rfl⟩))))))
        rcases hR with rfl | ⟨y, rfl⟩
        · refine zgo 20 [] ?_
          repeat' (first
            | (show vp_in _ _; simp (disch := first | omega | decide) only [hT, h30, hb, zcn, zkpl, zki, zki1, zk8, zk16, zo32, zlt0, zle0, zeq0, zgt0, zLe0, nI_ltI, nI_leI, nI_eq, nI_add, nI_clamp, vp_in_nI, zup_s, zup_n, upd_s, upd_n, ne_eq, not_true_eq_false, not_false_eq_true]; done)
            | (intro hc; exfalso; simp (disch := first | omega | decide) only [hT, h30, hb, zcn, zkpl, zki, zki1, zk8, zk16, zo32, zlt0, zle0, zeq0, zgt0, zLe0, nI_ltI, nI_leI, nI_eq, nI_add, nI_clamp, vp_in_nI, zup_s, zup_n, upd_s, upd_n, ne_eq, not_true_eq_false, not_false_eq_true] at hc <;> omega)
            | (intro hc; exact absurd rfl hc)
            | intro hc
            | apply And.intro
            | exact hQ
            | (show Q _ (SH, _); simp (disch := first | omega | decide) only [hT, h30, hb, zcn, zkpl, zki, zki1, zk8, zk16, zo32, zlt0, zle0, zeq0, zgt0, zLe0, nI_ltI, nI_leI, nI_eq, nI_add, nI_clamp, vp_in_nI, zup_s, zup_n, upd_s, upd_n, ne_eq, not_true_eq_false, not_false_eq_true]; exact hQ)
            | exact Or.inl rfl
            | exact Or.inr rfl
            | (show (_ : Int32) = 0 ∨ _ = 1; simp (disch := first | omega | decide) only [hT, h30, hb, zcn, zkpl, zki, zki1, zk8, zk16, zo32, zlt0, zle0, zeq0, zgt0, zLe0, nI_ltI, nI_leI, nI_eq, nI_add, nI_clamp, vp_in_nI, zup_s, zup_n, upd_s, upd_n, ne_eq, not_true_eq_false, not_false_eq_true, zeq1, true_or, or_true]; done))
        · refine zgo 20 [] ?_
          repeat' (first
            | (show vp_in _ _; simp (disch := first | omega | decide) only [hT, h30, hb, zcn, zkpl, zki, zki1, zk8, zk16, zo32, zlt0, zle0, zeq0, zgt0, zLe0, nI_ltI, nI_leI, nI_eq, nI_add, nI_clamp, vp_in_nI, zup_s, zup_n, upd_s, upd_n, ne_eq, not_true_eq_false, not_false_eq_true]; done)
            | (intro hc; exfalso; simp (disch := first | omega | decide) only [hT, h30, hb, zcn, zkpl, zki, zki1, zk8, zk16, zo32, zlt0, zle0, zeq0, zgt0, zLe0, nI_ltI, nI_leI, nI_eq, nI_add, nI_clamp, vp_in_nI, zup_s, zup_n, upd_s, upd_n, ne_eq, not_true_eq_false, not_false_eq_true] at hc <;> omega)
            | (intro hc; exact absurd rfl hc)
            | intro hc
            | apply And.intro
            | exact hQ
            | (show Q _ (SH, _); simp (disch := first | omega | decide) only [hT, h30, hb, zcn, zkpl, zki, zki1, zk8, zk16, zo32, zlt0, zle0, zeq0, zgt0, zLe0, nI_ltI, nI_leI, nI_eq, nI_add, nI_clamp, vp_in_nI, zup_s, zup_n, upd_s, upd_n, ne_eq, not_true_eq_false, not_false_eq_true]; exact hQ)
            | exact Or.inl rfl
            | exact Or.inr rfl
            | (show (_ : Int32) = 0 ∨ _ = 1; simp (disch := first | omega | decide) only [hT, h30, hb, zcn, zkpl, zki, zki1, zk8, zk16, zo32, zlt0, zle0, zeq0, zgt0, zLe0, nI_ltI, nI_leI, nI_eq, nI_add, nI_clamp, vp_in_nI, zup_s, zup_n, upd_s, upd_n, ne_eq, not_true_eq_false, not_false_eq_true, zeq1, true_or, or_true]; done))
      · have hQ := hQ0 9 (Or.inr (Or.inr (Or.inr (Or.inr (Or.inr (Or.inl ⟨fun g => g e4, fun g => g e5, e6, e7, e8, by omega, rfl⟩))))))
        rcases hR with rfl | ⟨y, rfl⟩
        · refine zgo 20 [] ?_
          repeat' (first
            | (show vp_in _ _; simp (disch := first | omega | decide) only [hT, h30, hb, zcn, zkpl, zki, zki1, zk8, zk16, zo32, zlt0, zle0, zeq0, zgt0, zLe0, nI_ltI, nI_leI, nI_eq, nI_add, nI_clamp, vp_in_nI, zup_s, zup_n, upd_s, upd_n, ne_eq, not_true_eq_false, not_false_eq_true]; done)
            | (intro hc; exfalso; simp (disch := first | omega | decide) only [hT, h30, hb, zcn, zkpl, zki, zki1, zk8, zk16, zo32, zlt0, zle0, zeq0, zgt0, zLe0, nI_ltI, nI_leI, nI_eq, nI_add, nI_clamp, vp_in_nI, zup_s, zup_n, upd_s, upd_n, ne_eq, not_true_eq_false, not_false_eq_true] at hc <;> omega)
            | (intro hc; exact absurd rfl hc)
            | intro hc
            | apply And.intro
            | exact hQ
            | (show Q _ (SH, _); simp (disch := first | omega | decide) only [hT, h30, hb, zcn, zkpl, zki, zki1, zk8, zk16, zo32, zlt0, zle0, zeq0, zgt0, zLe0, nI_ltI, nI_leI, nI_eq, nI_add, nI_clamp, vp_in_nI, zup_s, zup_n, upd_s, upd_n, ne_eq, not_true_eq_false, not_false_eq_true]; exact hQ)
            | exact Or.inl rfl
            | exact Or.inr rfl
            | (show (_ : Int32) = 0 ∨ _ = 1; simp (disch := first | omega | decide) only [hT, h30, hb, zcn, zkpl, zki, zki1, zk8, zk16, zo32, zlt0, zle0, zeq0, zgt0, zLe0, nI_ltI, nI_leI, nI_eq, nI_add, nI_clamp, vp_in_nI, zup_s, zup_n, upd_s, upd_n, ne_eq, not_true_eq_false, not_false_eq_true, zeq1, true_or, or_true]; done))
        · refine zgo 20 [] ?_
          repeat' (first
            | (show vp_in _ _; simp (disch := first | omega | decide) only [hT, h30, hb, zcn, zkpl, zki, zki1, zk8, zk16, zo32, zlt0, zle0, zeq0, zgt0, zLe0, nI_ltI, nI_leI, nI_eq, nI_add, nI_clamp, vp_in_nI, zup_s, zup_n, upd_s, upd_n, ne_eq, not_true_eq_false, not_false_eq_true]; done)
            | (intro hc; exfalso; simp (disch := first | omega | decide) only [hT, h30, hb, zcn, zkpl, zki, zki1, zk8, zk16, zo32, zlt0, zle0, zeq0, zgt0, zLe0, nI_ltI, nI_leI, nI_eq, nI_add, nI_clamp, vp_in_nI, zup_s, zup_n, upd_s, upd_n, ne_eq, not_true_eq_false, not_false_eq_true] at hc <;> omega)
            | (intro hc; exact absurd rfl hc)
            | intro hc
            | apply And.intro
            | exact hQ
            | (show Q _ (SH, _); simp (disch := first | omega | decide) only [hT, h30, hb, zcn, zkpl, zki, zki1, zk8, zk16, zo32, zlt0, zle0, zeq0, zgt0, zLe0, nI_ltI, nI_leI, nI_eq, nI_add, nI_clamp, vp_in_nI, zup_s, zup_n, upd_s, upd_n, ne_eq, not_true_eq_false, not_false_eq_true]; exact hQ)
            | exact Or.inl rfl
            | exact Or.inr rfl
            | (show (_ : Int32) = 0 ∨ _ = 1; simp (disch := first | omega | decide) only [hT, h30, hb, zcn, zkpl, zki, zki1, zk8, zk16, zo32, zlt0, zle0, zeq0, zgt0, zLe0, nI_ltI, nI_leI, nI_eq, nI_add, nI_clamp, vp_in_nI, zup_s, zup_n, upd_s, upd_n, ne_eq, not_true_eq_false, not_false_eq_true, zeq1, true_or, or_true]; done))
  have c228 : x2 = n → x3 = T → ¬ p6 → ¬ p7 → ∀ R, pH (nI n) (nI T) rr aa ff R → ZW 182 (0, 0, 0, 0) 228 R [] (SH, u) Q := by
    intro e4 e5 e6 e7 R hR
    rcases h8 with ⟨rfl, e8⟩ | ⟨rfl, e8⟩
    · have W := c236 e4 e5 e6 e7 e8 R hR
      rcases hR with rfl | ⟨y, rfl⟩
      · refine zgo 2 [] ?_
        repeat' (first
          | (exact W)
          | (show vp_in _ _; simp (disch := first | omega | decide) only [z10, zcn, zkpl, zki, zki1, zk8, zk16, zo32, zlt0, zle0, zeq0, zgt0, zLe0, nI_ltI, nI_leI, nI_eq, nI_add, nI_clamp, vp_in_nI, zup_s, zup_n, upd_s, upd_n, ne_eq, not_true_eq_false, not_false_eq_true]; done)
          | (intro hc; exfalso; simp (disch := first | omega | decide) only [z10, zcn, zkpl, zki, zki1, zk8, zk16, zo32, zlt0, zle0, zeq0, zgt0, zLe0, nI_ltI, nI_leI, nI_eq, nI_add, nI_clamp, vp_in_nI, zup_s, zup_n, upd_s, upd_n, ne_eq, not_true_eq_false, not_false_eq_true] at hc <;> omega)
          | (intro hc; exact absurd rfl hc)
          | intro hc
          | apply And.intro
          | exact Or.inl rfl
          | exact Or.inr rfl
          | (show (_ : Int32) = 0 ∨ _ = 1; simp (disch := first | omega | decide) only [z10, zcn, zkpl, zki, zki1, zk8, zk16, zo32, zlt0, zle0, zeq0, zgt0, zLe0, nI_ltI, nI_leI, nI_eq, nI_add, nI_clamp, vp_in_nI, zup_s, zup_n, upd_s, upd_n, ne_eq, not_true_eq_false, not_false_eq_true, zeq1, true_or, or_true]; done))
      · refine zgo 2 [] ?_
        repeat' (first
          | (exact W)
          | (show vp_in _ _; simp (disch := first | omega | decide) only [z10, zcn, zkpl, zki, zki1, zk8, zk16, zo32, zlt0, zle0, zeq0, zgt0, zLe0, nI_ltI, nI_leI, nI_eq, nI_add, nI_clamp, vp_in_nI, zup_s, zup_n, upd_s, upd_n, ne_eq, not_true_eq_false, not_false_eq_true]; done)
          | (intro hc; exfalso; simp (disch := first | omega | decide) only [z10, zcn, zkpl, zki, zki1, zk8, zk16, zo32, zlt0, zle0, zeq0, zgt0, zLe0, nI_ltI, nI_leI, nI_eq, nI_add, nI_clamp, vp_in_nI, zup_s, zup_n, upd_s, upd_n, ne_eq, not_true_eq_false, not_false_eq_true] at hc <;> omega)
          | (intro hc; exact absurd rfl hc)
          | intro hc
          | apply And.intro
          | exact Or.inl rfl
          | exact Or.inr rfl
          | (show (_ : Int32) = 0 ∨ _ = 1; simp (disch := first | omega | decide) only [z10, zcn, zkpl, zki, zki1, zk8, zk16, zo32, zlt0, zle0, zeq0, zgt0, zLe0, nI_ltI, nI_leI, nI_eq, nI_add, nI_clamp, vp_in_nI, zup_s, zup_n, upd_s, upd_n, ne_eq, not_true_eq_false, not_false_eq_true, zeq1, true_or, or_true]; done))
    · have hQ := hQ0 8 (Or.inr (Or.inr (Or.inr (Or.inr (Or.inl ⟨fun g => g e4, fun g => g e5, e6, e7, Classical.byContradiction e8, rfl⟩)))))
      rcases hR with rfl | ⟨y, rfl⟩
      · refine zgo 5 [] ?_
        repeat' (first
          | (show vp_in _ _; simp (disch := first | omega | decide) only [z10, zcn, zkpl, zki, zki1, zk8, zk16, zo32, zlt0, zle0, zeq0, zgt0, zLe0, nI_ltI, nI_leI, nI_eq, nI_add, nI_clamp, vp_in_nI, zup_s, zup_n, upd_s, upd_n, ne_eq, not_true_eq_false, not_false_eq_true]; done)
          | (intro hc; exfalso; simp (disch := first | omega | decide) only [z10, zcn, zkpl, zki, zki1, zk8, zk16, zo32, zlt0, zle0, zeq0, zgt0, zLe0, nI_ltI, nI_leI, nI_eq, nI_add, nI_clamp, vp_in_nI, zup_s, zup_n, upd_s, upd_n, ne_eq, not_true_eq_false, not_false_eq_true] at hc <;> omega)
          | (intro hc; exact absurd rfl hc)
          | intro hc
          | apply And.intro
          | exact hQ
          | (show Q _ (SH, _); simp (disch := first | omega | decide) only [z10, zcn, zkpl, zki, zki1, zk8, zk16, zo32, zlt0, zle0, zeq0, zgt0, zLe0, nI_ltI, nI_leI, nI_eq, nI_add, nI_clamp, vp_in_nI, zup_s, zup_n, upd_s, upd_n, ne_eq, not_true_eq_false, not_false_eq_true]; exact hQ)
          | exact Or.inl rfl
          | exact Or.inr rfl
          | (show (_ : Int32) = 0 ∨ _ = 1; simp (disch := first | omega | decide) only [z10, zcn, zkpl, zki, zki1, zk8, zk16, zo32, zlt0, zle0, zeq0, zgt0, zLe0, nI_ltI, nI_leI, nI_eq, nI_add, nI_clamp, vp_in_nI, zup_s, zup_n, upd_s, upd_n, ne_eq, not_true_eq_false, not_false_eq_true, zeq1, true_or, or_true]; done))
      · refine zgo 5 [] ?_
        repeat' (first
          | (show vp_in _ _; simp (disch := first | omega | decide) only [z10, zcn, zkpl, zki, zki1, zk8, zk16, zo32, zlt0, zle0, zeq0, zgt0, zLe0, nI_ltI, nI_leI, nI_eq, nI_add, nI_clamp, vp_in_nI, zup_s, zup_n, upd_s, upd_n, ne_eq, not_true_eq_false, not_false_eq_true]; done)
          | (intro hc; exfalso; simp (disch := first | omega | decide) only [z10, zcn, zkpl, zki, zki1, zk8, zk16, zo32, zlt0, zle0, zeq0, zgt0, zLe0, nI_ltI, nI_leI, nI_eq, nI_add, nI_clamp, vp_in_nI, zup_s, zup_n, upd_s, upd_n, ne_eq, not_true_eq_false, not_false_eq_true] at hc <;> omega)
          | (intro hc; exact absurd rfl hc)
          | intro hc
          | apply And.intro
          | exact hQ
          | (show Q _ (SH, _); simp (disch := first | omega | decide) only [z10, zcn, zkpl, zki, zki1, zk8, zk16, zo32, zlt0, zle0, zeq0, zgt0, zLe0, nI_ltI, nI_leI, nI_eq, nI_add, nI_clamp, vp_in_nI, zup_s, zup_n, upd_s, upd_n, ne_eq, not_true_eq_false, not_false_eq_true]; exact hQ)
          | exact Or.inl rfl
          | exact Or.inr rfl
          | (show (_ : Int32) = 0 ∨ _ = 1; simp (disch := first | omega | decide) only [z10, zcn, zkpl, zki, zki1, zk8, zk16, zo32, zlt0, zle0, zeq0, zgt0, zLe0, nI_ltI, nI_leI, nI_eq, nI_add, nI_clamp, vp_in_nI, zup_s, zup_n, upd_s, upd_n, ne_eq, not_true_eq_false, not_false_eq_true, zeq1, true_or, or_true]; done))
  have c221 : x2 = n → x3 = T → ¬ p6 → ∀ R, pH (nI n) (nI T) rr aa ff R → ZW 182 (0, 0, 0, 0) 221 R [] (SH, u) Q := by
    intro e4 e5 e6 R hR
    rcases h7 with ⟨rfl, e7⟩ | ⟨rfl, e7⟩
    · have W := c228 e4 e5 e6 e7 R hR
      rcases hR with rfl | ⟨y, rfl⟩
      · refine zgo 2 [] ?_
        repeat' (first
          | (exact W)
          | (show vp_in _ _; simp (disch := first | omega | decide) only [z10, zcn, zkpl, zki, zki1, zk8, zk16, zo32, zlt0, zle0, zeq0, zgt0, zLe0, nI_ltI, nI_leI, nI_eq, nI_add, nI_clamp, vp_in_nI, zup_s, zup_n, upd_s, upd_n, ne_eq, not_true_eq_false, not_false_eq_true]; done)
          | (intro hc; exfalso; simp (disch := first | omega | decide) only [z10, zcn, zkpl, zki, zki1, zk8, zk16, zo32, zlt0, zle0, zeq0, zgt0, zLe0, nI_ltI, nI_leI, nI_eq, nI_add, nI_clamp, vp_in_nI, zup_s, zup_n, upd_s, upd_n, ne_eq, not_true_eq_false, not_false_eq_true] at hc <;> omega)
          | (intro hc; exact absurd rfl hc)
          | intro hc
          | apply And.intro
          | exact Or.inl rfl
          | exact Or.inr rfl
          | (show (_ : Int32) = 0 ∨ _ = 1; simp (disch := first | omega | decide) only [z10, zcn, zkpl, zki, zki1, zk8, zk16, zo32, zlt0, zle0, zeq0, zgt0, zLe0, nI_ltI, nI_leI, nI_eq, nI_add, nI_clamp, vp_in_nI, zup_s, zup_n, upd_s, upd_n, ne_eq, not_true_eq_false, not_false_eq_true, zeq1, true_or, or_true]; done))
      · refine zgo 2 [] ?_
        repeat' (first
          | (exact W)
          | (show vp_in _ _; simp (disch := first | omega | decide) only [z10, zcn, zkpl, zki, zki1, zk8, zk16, zo32, zlt0, zle0, zeq0, zgt0, zLe0, nI_ltI, nI_leI, nI_eq, nI_add, nI_clamp, vp_in_nI, zup_s, zup_n, upd_s, upd_n, ne_eq, not_true_eq_false, not_false_eq_true]; done)
          | (intro hc; exfalso; simp (disch := first | omega | decide) only [z10, zcn, zkpl, zki, zki1, zk8, zk16, zo32, zlt0, zle0, zeq0, zgt0, zLe0, nI_ltI, nI_leI, nI_eq, nI_add, nI_clamp, vp_in_nI, zup_s, zup_n, upd_s, upd_n, ne_eq, not_true_eq_false, not_false_eq_true] at hc <;> omega)
          | (intro hc; exact absurd rfl hc)
          | intro hc
          | apply And.intro
          | exact Or.inl rfl
          | exact Or.inr rfl
          | (show (_ : Int32) = 0 ∨ _ = 1; simp (disch := first | omega | decide) only [z10, zcn, zkpl, zki, zki1, zk8, zk16, zo32, zlt0, zle0, zeq0, zgt0, zLe0, nI_ltI, nI_leI, nI_eq, nI_add, nI_clamp, vp_in_nI, zup_s, zup_n, upd_s, upd_n, ne_eq, not_true_eq_false, not_false_eq_true, zeq1, true_or, or_true]; done))
    · have hQ := hQ0 7 (Or.inr (Or.inr (Or.inr (Or.inl ⟨fun g => g e4, fun g => g e5, e6, Classical.byContradiction e7, rfl⟩))))
      rcases hR with rfl | ⟨y, rfl⟩
      · refine zgo 5 [] ?_
        repeat' (first
          | (show vp_in _ _; simp (disch := first | omega | decide) only [z10, zcn, zkpl, zki, zki1, zk8, zk16, zo32, zlt0, zle0, zeq0, zgt0, zLe0, nI_ltI, nI_leI, nI_eq, nI_add, nI_clamp, vp_in_nI, zup_s, zup_n, upd_s, upd_n, ne_eq, not_true_eq_false, not_false_eq_true]; done)
          | (intro hc; exfalso; simp (disch := first | omega | decide) only [z10, zcn, zkpl, zki, zki1, zk8, zk16, zo32, zlt0, zle0, zeq0, zgt0, zLe0, nI_ltI, nI_leI, nI_eq, nI_add, nI_clamp, vp_in_nI, zup_s, zup_n, upd_s, upd_n, ne_eq, not_true_eq_false, not_false_eq_true] at hc <;> omega)
          | (intro hc; exact absurd rfl hc)
          | intro hc
          | apply And.intro
          | exact hQ
          | (show Q _ (SH, _); simp (disch := first | omega | decide) only [z10, zcn, zkpl, zki, zki1, zk8, zk16, zo32, zlt0, zle0, zeq0, zgt0, zLe0, nI_ltI, nI_leI, nI_eq, nI_add, nI_clamp, vp_in_nI, zup_s, zup_n, upd_s, upd_n, ne_eq, not_true_eq_false, not_false_eq_true]; exact hQ)
          | exact Or.inl rfl
          | exact Or.inr rfl
          | (show (_ : Int32) = 0 ∨ _ = 1; simp (disch := first | omega | decide) only [z10, zcn, zkpl, zki, zki1, zk8, zk16, zo32, zlt0, zle0, zeq0, zgt0, zLe0, nI_ltI, nI_leI, nI_eq, nI_add, nI_clamp, vp_in_nI, zup_s, zup_n, upd_s, upd_n, ne_eq, not_true_eq_false, not_false_eq_true, zeq1, true_or, or_true]; done))
      · refine zgo 5 [] ?_
        repeat' (first
          | (show vp_in _ _; simp (disch := first | omega | decide) only [z10, zcn, zkpl, zki, zki1, zk8, zk16, zo32, zlt0, zle0, zeq0, zgt0, zLe0, nI_ltI, nI_leI, nI_eq, nI_add, nI_clamp, vp_in_nI, zup_s, zup_n, upd_s, upd_n, ne_eq, not_true_eq_false, not_false_eq_true]; done)
          | (intro hc; exfalso; simp (disch := first | omega | decide) only [z10, zcn, zkpl, zki, zki1, zk8, zk16, zo32, zlt0, zle0, zeq0, zgt0, zLe0, nI_ltI, nI_leI, nI_eq, nI_add, nI_clamp, vp_in_nI, zup_s, zup_n, upd_s, upd_n, ne_eq, not_true_eq_false, not_false_eq_true] at hc <;> omega)
          | (intro hc; exact absurd rfl hc)
          | intro hc
          | apply And.intro
          | exact hQ
          | (show Q _ (SH, _); simp (disch := first | omega | decide) only [z10, zcn, zkpl, zki, zki1, zk8, zk16, zo32, zlt0, zle0, zeq0, zgt0, zLe0, nI_ltI, nI_leI, nI_eq, nI_add, nI_clamp, vp_in_nI, zup_s, zup_n, upd_s, upd_n, ne_eq, not_true_eq_false, not_false_eq_true]; exact hQ)
          | exact Or.inl rfl
          | exact Or.inr rfl
          | (show (_ : Int32) = 0 ∨ _ = 1; simp (disch := first | omega | decide) only [z10, zcn, zkpl, zki, zki1, zk8, zk16, zo32, zlt0, zle0, zeq0, zgt0, zLe0, nI_ltI, nI_leI, nI_eq, nI_add, nI_clamp, vp_in_nI, zup_s, zup_n, upd_s, upd_n, ne_eq, not_true_eq_false, not_false_eq_true, zeq1, true_or, or_true]; done))
  have c214 : x2 = n → x3 = T → ∀ R, pH (nI n) (nI T) rr aa ff R → ZW 182 (0, 0, 0, 0) 214 R [] (SH, u) Q := by
    intro e4 e5 R hR
    rcases h6 with ⟨rfl, e6⟩ | ⟨rfl, e6⟩
    · have W := c221 e4 e5 e6 R hR
      rcases hR with rfl | ⟨y, rfl⟩
      · refine zgo 2 [] ?_
        repeat' (first
          | (exact W)
          | (show vp_in _ _; simp (disch := first | omega | decide) only [z10, zcn, zkpl, zki, zki1, zk8, zk16, zo32, zlt0, zle0, zeq0, zgt0, zLe0, nI_ltI, nI_leI, nI_eq, nI_add, nI_clamp, vp_in_nI, zup_s, zup_n, upd_s, upd_n, ne_eq, not_true_eq_false, not_false_eq_true]; done)
          | (intro hc; exfalso; simp (disch := first | omega | decide) only [z10, zcn, zkpl, zki, zki1, zk8, zk16, zo32, zlt0, zle0, zeq0, zgt0, zLe0, nI_ltI, nI_leI, nI_eq, nI_add, nI_clamp, vp_in_nI, zup_s, zup_n, upd_s, upd_n, ne_eq, not_true_eq_false, not_false_eq_true] at hc <;> omega)
          | (intro hc; exact absurd rfl hc)
          | intro hc
          | apply And.intro
          | exact Or.inl rfl
          | exact Or.inr rfl
          | (show (_ : Int32) = 0 ∨ _ = 1; simp (disch := first | omega | decide) only [z10, zcn, zkpl, zki, zki1, zk8, zk16, zo32, zlt0, zle0, zeq0, zgt0, zLe0, nI_ltI, nI_leI, nI_eq, nI_add, nI_clamp, vp_in_nI, zup_s, zup_n, upd_s, upd_n, ne_eq, not_true_eq_false, not_false_eq_true, zeq1, true_or, or_true]; done))
      · refine zgo 2 [] ?_
        repeat' (first
          | (exact W)
          | (show vp_in _ _; simp (disch := first | omega | decide) only [z10, zcn, zkpl, zki, zki1, zk8, zk16, zo32, zlt0, zle0, zeq0, zgt0, zLe0, nI_ltI, nI_leI, nI_eq, nI_add, nI_clamp, vp_in_nI, zup_s, zup_n, upd_s, upd_n, ne_eq, not_true_eq_false, not_false_eq_true]; done)
          | (intro hc; exfalso; simp (disch := first | omega | decide) only [z10, zcn, zkpl, zki, zki1, zk8, zk16, zo32, zlt0, zle0, zeq0, zgt0, zLe0, nI_ltI, nI_leI, nI_eq, nI_add, nI_clamp, vp_in_nI, zup_s, zup_n, upd_s, upd_n, ne_eq, not_true_eq_false, not_false_eq_true] at hc <;> omega)
          | (intro hc; exact absurd rfl hc)
          | intro hc
          | apply And.intro
          | exact Or.inl rfl
          | exact Or.inr rfl
          | (show (_ : Int32) = 0 ∨ _ = 1; simp (disch := first | omega | decide) only [z10, zcn, zkpl, zki, zki1, zk8, zk16, zo32, zlt0, zle0, zeq0, zgt0, zLe0, nI_ltI, nI_leI, nI_eq, nI_add, nI_clamp, vp_in_nI, zup_s, zup_n, upd_s, upd_n, ne_eq, not_true_eq_false, not_false_eq_true, zeq1, true_or, or_true]; done))
    · have hQ := hQ0 6 (Or.inr (Or.inr (Or.inl ⟨fun g => g e4, fun g => g e5, Classical.byContradiction e6, rfl⟩)))
      rcases hR with rfl | ⟨y, rfl⟩
      · refine zgo 5 [] ?_
        repeat' (first
          | (show vp_in _ _; simp (disch := first | omega | decide) only [z10, zcn, zkpl, zki, zki1, zk8, zk16, zo32, zlt0, zle0, zeq0, zgt0, zLe0, nI_ltI, nI_leI, nI_eq, nI_add, nI_clamp, vp_in_nI, zup_s, zup_n, upd_s, upd_n, ne_eq, not_true_eq_false, not_false_eq_true]; done)
          | (intro hc; exfalso; simp (disch := first | omega | decide) only [z10, zcn, zkpl, zki, zki1, zk8, zk16, zo32, zlt0, zle0, zeq0, zgt0, zLe0, nI_ltI, nI_leI, nI_eq, nI_add, nI_clamp, vp_in_nI, zup_s, zup_n, upd_s, upd_n, ne_eq, not_true_eq_false, not_false_eq_true] at hc <;> omega)
          | (intro hc; exact absurd rfl hc)
          | intro hc
          | apply And.intro
          | exact hQ
          | (show Q _ (SH, _); simp (disch := first | omega | decide) only [z10, zcn, zkpl, zki, zki1, zk8, zk16, zo32, zlt0, zle0, zeq0, zgt0, zLe0, nI_ltI, nI_leI, nI_eq, nI_add, nI_clamp, vp_in_nI, zup_s, zup_n, upd_s, upd_n, ne_eq, not_true_eq_false, not_false_eq_true]; exact hQ)
          | exact Or.inl rfl
          | exact Or.inr rfl
          | (show (_ : Int32) = 0 ∨ _ = 1; simp (disch := first | omega | decide) only [z10, zcn, zkpl, zki, zki1, zk8, zk16, zo32, zlt0, zle0, zeq0, zgt0, zLe0, nI_ltI, nI_leI, nI_eq, nI_add, nI_clamp, vp_in_nI, zup_s, zup_n, upd_s, upd_n, ne_eq, not_true_eq_false, not_false_eq_true, zeq1, true_or, or_true]; done))
      · refine zgo 5 [] ?_
        repeat' (first
          | (show vp_in _ _; simp (disch := first | omega | decide) only [z10, zcn, zkpl, zki, zki1, zk8, zk16, zo32, zlt0, zle0, zeq0, zgt0, zLe0, nI_ltI, nI_leI, nI_eq, nI_add, nI_clamp, vp_in_nI, zup_s, zup_n, upd_s, upd_n, ne_eq, not_true_eq_false, not_false_eq_true]; done)
          | (intro hc; exfalso; simp (disch := first | omega | decide) only [z10, zcn, zkpl, zki, zki1, zk8, zk16, zo32, zlt0, zle0, zeq0, zgt0, zLe0, nI_ltI, nI_leI, nI_eq, nI_add, nI_clamp, vp_in_nI, zup_s, zup_n, upd_s, upd_n, ne_eq, not_true_eq_false, not_false_eq_true] at hc <;> omega)
          | (intro hc; exact absurd rfl hc)
          | intro hc
          | apply And.intro
          | exact hQ
          | (show Q _ (SH, _); simp (disch := first | omega | decide) only [z10, zcn, zkpl, zki, zki1, zk8, zk16, zo32, zlt0, zle0, zeq0, zgt0, zLe0, nI_ltI, nI_leI, nI_eq, nI_add, nI_clamp, vp_in_nI, zup_s, zup_n, upd_s, upd_n, ne_eq, not_true_eq_false, not_false_eq_true]; exact hQ)
          | exact Or.inl rfl
          | exact Or.inr rfl
          | (show (_ : Int32) = 0 ∨ _ = 1; simp (disch := first | omega | decide) only [z10, zcn, zkpl, zki, zki1, zk8, zk16, zo32, zlt0, zle0, zeq0, zgt0, zLe0, nI_ltI, nI_leI, nI_eq, nI_add, nI_clamp, vp_in_nI, zup_s, zup_n, upd_s, upd_n, ne_eq, not_true_eq_false, not_false_eq_true, zeq1, true_or, or_true]; done))
  have c204 : x2 = n → ∀ R, pH (nI n) (nI T) rr aa ff R → ZW 182 (0, 0, 0, 0) 204 R [] (SH, u) Q := by
    intro e4 R hR
    by_cases e5 : x3 = T
    · have W := c214 e4 e5 R hR
      rcases hR with rfl | ⟨y, rfl⟩
      · refine zgo 4 [] ?_
        repeat' (first
          | (exact W)
          | (show vp_in _ _; simp (disch := first | omega | decide) only [h24, zcn, zkpl, zki, zki1, zk8, zk16, zo32, zlt0, zle0, zeq0, zgt0, zLe0, nI_ltI, nI_leI, nI_eq, nI_add, nI_clamp, vp_in_nI, zup_s, zup_n, upd_s, upd_n, ne_eq, not_true_eq_false, not_false_eq_true]; done)
          | (intro hc; exfalso; simp (disch := first | omega | decide) only [h24, zcn, zkpl, zki, zki1, zk8, zk16, zo32, zlt0, zle0, zeq0, zgt0, zLe0, nI_ltI, nI_leI, nI_eq, nI_add, nI_clamp, vp_in_nI, zup_s, zup_n, upd_s, upd_n, ne_eq, not_true_eq_false, not_false_eq_true] at hc <;> omega)
          | (intro hc; exact absurd rfl hc)
          | intro hc
          | apply And.intro
          | exact Or.inl rfl
          | exact Or.inr rfl
          | (show (_ : Int32) = 0 ∨ _ = 1; simp (disch := first | omega | decide) only [h24, zcn, zkpl, zki, zki1, zk8, zk16, zo32, zlt0, zle0, zeq0, zgt0, zLe0, nI_ltI, nI_leI, nI_eq, nI_add, nI_clamp, vp_in_nI, zup_s, zup_n, upd_s, upd_n, ne_eq, not_true_eq_false, not_false_eq_true, zeq1, true_or, or_true]; done))
      · refine zgo 4 [] ?_
        repeat' (first
          | (exact W)
          | (show vp_in _ _; simp (disch := first | omega | decide) only [h24, zcn, zkpl, zki, zki1, zk8, zk16, zo32, zlt0, zle0, zeq0, zgt0, zLe0, nI_ltI, nI_leI, nI_eq, nI_add, nI_clamp, vp_in_nI, zup_s, zup_n, upd_s, upd_n, ne_eq, not_true_eq_false, not_false_eq_true]; done)
          | (intro hc; exfalso; simp (disch := first | omega | decide) only [h24, zcn, zkpl, zki, zki1, zk8, zk16, zo32, zlt0, zle0, zeq0, zgt0, zLe0, nI_ltI, nI_leI, nI_eq, nI_add, nI_clamp, vp_in_nI, zup_s, zup_n, upd_s, upd_n, ne_eq, not_true_eq_false, not_false_eq_true] at hc <;> omega)
          | (intro hc; exact absurd rfl hc)
          | intro hc
          | apply And.intro
          | exact Or.inl rfl
          | exact Or.inr rfl
          | (show (_ : Int32) = 0 ∨ _ = 1; simp (disch := first | omega | decide) only [h24, zcn, zkpl, zki, zki1, zk8, zk16, zo32, zlt0, zle0, zeq0, zgt0, zLe0, nI_ltI, nI_leI, nI_eq, nI_add, nI_clamp, vp_in_nI, zup_s, zup_n, upd_s, upd_n, ne_eq, not_true_eq_false, not_false_eq_true, zeq1, true_or, or_true]; done))
    · have hQ := hQ0 5 (Or.inr (Or.inl ⟨fun g => g e4, e5, rfl⟩))
      rcases hR with rfl | ⟨y, rfl⟩
      · refine zgo 8 [] ?_
        repeat' (first
          | (show vp_in _ _; simp (disch := first | omega | decide) only [h24, zcn, zkpl, zki, zki1, zk8, zk16, zo32, zlt0, zle0, zeq0, zgt0, zLe0, nI_ltI, nI_leI, nI_eq, nI_add, nI_clamp, vp_in_nI, zup_s, zup_n, upd_s, upd_n, ne_eq, not_true_eq_false, not_false_eq_true]; done)
          | (intro hc; exfalso; simp (disch := first | omega | decide) only [h24, zcn, zkpl, zki, zki1, zk8, zk16, zo32, zlt0, zle0, zeq0, zgt0, zLe0, nI_ltI, nI_leI, nI_eq, nI_add, nI_clamp, vp_in_nI, zup_s, zup_n, upd_s, upd_n, ne_eq, not_true_eq_false, not_false_eq_true] at hc <;> omega)
          | (intro hc; exact absurd rfl hc)
          | intro hc
          | apply And.intro
          | exact hQ
          | (show Q _ (SH, _); simp (disch := first | omega | decide) only [h24, zcn, zkpl, zki, zki1, zk8, zk16, zo32, zlt0, zle0, zeq0, zgt0, zLe0, nI_ltI, nI_leI, nI_eq, nI_add, nI_clamp, vp_in_nI, zup_s, zup_n, upd_s, upd_n, ne_eq, not_true_eq_false, not_false_eq_true]; exact hQ)
          | exact Or.inl rfl
          | exact Or.inr rfl
          | (show (_ : Int32) = 0 ∨ _ = 1; simp (disch := first | omega | decide) only [h24, zcn, zkpl, zki, zki1, zk8, zk16, zo32, zlt0, zle0, zeq0, zgt0, zLe0, nI_ltI, nI_leI, nI_eq, nI_add, nI_clamp, vp_in_nI, zup_s, zup_n, upd_s, upd_n, ne_eq, not_true_eq_false, not_false_eq_true, zeq1, true_or, or_true]; done))
      · refine zgo 8 [] ?_
        repeat' (first
          | (show vp_in _ _; simp (disch := first | omega | decide) only [h24, zcn, zkpl, zki, zki1, zk8, zk16, zo32, zlt0, zle0, zeq0, zgt0, zLe0, nI_ltI, nI_leI, nI_eq, nI_add, nI_clamp, vp_in_nI, zup_s, zup_n, upd_s, upd_n, ne_eq, not_true_eq_false, not_false_eq_true]; done)
          | (intro hc; exfalso; simp (disch := first | omega | decide) only [h24, zcn, zkpl, zki, zki1, zk8, zk16, zo32, zlt0, zle0, zeq0, zgt0, zLe0, nI_ltI, nI_leI, nI_eq, nI_add, nI_clamp, vp_in_nI, zup_s, zup_n, upd_s, upd_n, ne_eq, not_true_eq_false, not_false_eq_true] at hc <;> omega)
          | (intro hc; exact absurd rfl hc)
          | intro hc
          | apply And.intro
          | exact hQ
          | (show Q _ (SH, _); simp (disch := first | omega | decide) only [h24, zcn, zkpl, zki, zki1, zk8, zk16, zo32, zlt0, zle0, zeq0, zgt0, zLe0, nI_ltI, nI_leI, nI_eq, nI_add, nI_clamp, vp_in_nI, zup_s, zup_n, upd_s, upd_n, ne_eq, not_true_eq_false, not_false_eq_true]; exact hQ)
          | exact Or.inl rfl
          | exact Or.inr rfl
          | (show (_ : Int32) = 0 ∨ _ = 1; simp (disch := first | omega | decide) only [h24, zcn, zkpl, zki, zki1, zk8, zk16, zo32, zlt0, zle0, zeq0, zgt0, zLe0, nI_ltI, nI_leI, nI_eq, nI_add, nI_clamp, vp_in_nI, zup_s, zup_n, upd_s, upd_n, ne_eq, not_true_eq_false, not_false_eq_true, zeq1, true_or, or_true]; done))
  by_cases e4 : x2 = n
  · have W := c204 e4 R hR
    rcases hR with rfl | ⟨y, rfl⟩
    · refine zgo 5 [] ?_
      repeat' (first
        | (exact W)
        | (show vp_in _ _; simp (disch := first | omega | decide) only [h23, h30, zcn, zkpl, zki, zki1, zk8, zk16, zo32, zlt0, zle0, zeq0, zgt0, zLe0, nI_ltI, nI_leI, nI_eq, nI_add, nI_clamp, vp_in_nI, zup_s, zup_n, upd_s, upd_n, ne_eq, not_true_eq_false, not_false_eq_true]; done)
        | (intro hc; exfalso; simp (disch := first | omega | decide) only [h23, h30, zcn, zkpl, zki, zki1, zk8, zk16, zo32, zlt0, zle0, zeq0, zgt0, zLe0, nI_ltI, nI_leI, nI_eq, nI_add, nI_clamp, vp_in_nI, zup_s, zup_n, upd_s, upd_n, ne_eq, not_true_eq_false, not_false_eq_true] at hc <;> omega)
        | (intro hc; exact absurd rfl hc)
        | intro hc
        | apply And.intro
        | exact Or.inl rfl
        | exact Or.inr rfl
        | (show (_ : Int32) = 0 ∨ _ = 1; simp (disch := first | omega | decide) only [h23, h30, zcn, zkpl, zki, zki1, zk8, zk16, zo32, zlt0, zle0, zeq0, zgt0, zLe0, nI_ltI, nI_leI, nI_eq, nI_add, nI_clamp, vp_in_nI, zup_s, zup_n, upd_s, upd_n, ne_eq, not_true_eq_false, not_false_eq_true, zeq1, true_or, or_true]; done))
    · refine zgo 5 [] ?_
      repeat' (first
        | (exact W)
        | (show vp_in _ _; simp (disch := first | omega | decide) only [h23, h30, zcn, zkpl, zki, zki1, zk8, zk16, zo32, zlt0, zle0, zeq0, zgt0, zLe0, nI_ltI, nI_leI, nI_eq, nI_add, nI_clamp, vp_in_nI, zup_s, zup_n, upd_s, upd_n, ne_eq, not_true_eq_false, not_false_eq_true]; done)
        | (intro hc; exfalso; simp (disch := first | omega | decide) only [h23, h30, zcn, zkpl, zki, zki1, zk8, zk16, zo32, zlt0, zle0, zeq0, zgt0, zLe0, nI_ltI, nI_leI, nI_eq, nI_add, nI_clamp, vp_in_nI, zup_s, zup_n, upd_s, upd_n, ne_eq, not_true_eq_false, not_false_eq_true] at hc <;> omega)
        | (intro hc; exact absurd rfl hc)
        | intro hc
        | apply And.intro
        | exact Or.inl rfl
        | exact Or.inr rfl
        | (show (_ : Int32) = 0 ∨ _ = 1; simp (disch := first | omega | decide) only [h23, h30, zcn, zkpl, zki, zki1, zk8, zk16, zo32, zlt0, zle0, zeq0, zgt0, zLe0, nI_ltI, nI_leI, nI_eq, nI_add, nI_clamp, vp_in_nI, zup_s, zup_n, upd_s, upd_n, ne_eq, not_true_eq_false, not_false_eq_true, zeq1, true_or, or_true]; done))
  · have hQ := hQ0 4 (Or.inl ⟨e4, rfl⟩)
    rcases hR with rfl | ⟨y, rfl⟩
    · refine zgo 8 [] ?_
      repeat' (first
        | (show vp_in _ _; simp (disch := first | omega | decide) only [h23, h30, zcn, zkpl, zki, zki1, zk8, zk16, zo32, zlt0, zle0, zeq0, zgt0, zLe0, nI_ltI, nI_leI, nI_eq, nI_add, nI_clamp, vp_in_nI, zup_s, zup_n, upd_s, upd_n, ne_eq, not_true_eq_false, not_false_eq_true]; done)
        | (intro hc; exfalso; simp (disch := first | omega | decide) only [h23, h30, zcn, zkpl, zki, zki1, zk8, zk16, zo32, zlt0, zle0, zeq0, zgt0, zLe0, nI_ltI, nI_leI, nI_eq, nI_add, nI_clamp, vp_in_nI, zup_s, zup_n, upd_s, upd_n, ne_eq, not_true_eq_false, not_false_eq_true] at hc <;> omega)
        | (intro hc; exact absurd rfl hc)
        | intro hc
        | apply And.intro
        | exact hQ
        | (show Q _ (SH, _); simp (disch := first | omega | decide) only [h23, h30, zcn, zkpl, zki, zki1, zk8, zk16, zo32, zlt0, zle0, zeq0, zgt0, zLe0, nI_ltI, nI_leI, nI_eq, nI_add, nI_clamp, vp_in_nI, zup_s, zup_n, upd_s, upd_n, ne_eq, not_true_eq_false, not_false_eq_true]; exact hQ)
        | exact Or.inl rfl
        | exact Or.inr rfl
        | (show (_ : Int32) = 0 ∨ _ = 1; simp (disch := first | omega | decide) only [h23, h30, zcn, zkpl, zki, zki1, zk8, zk16, zo32, zlt0, zle0, zeq0, zgt0, zLe0, nI_ltI, nI_leI, nI_eq, nI_add, nI_clamp, vp_in_nI, zup_s, zup_n, upd_s, upd_n, ne_eq, not_true_eq_false, not_false_eq_true, zeq1, true_or, or_true]; done))
    · refine zgo 8 [] ?_
      repeat' (first
        | (show vp_in _ _; simp (disch := first | omega | decide) only [h23, h30, zcn, zkpl, zki, zki1, zk8, zk16, zo32, zlt0, zle0, zeq0, zgt0, zLe0, nI_ltI, nI_leI, nI_eq, nI_add, nI_clamp, vp_in_nI, zup_s, zup_n, upd_s, upd_n, ne_eq, not_true_eq_false, not_false_eq_true]; done)
        | (intro hc; exfalso; simp (disch := first | omega | decide) only [h23, h30, zcn, zkpl, zki, zki1, zk8, zk16, zo32, zlt0, zle0, zeq0, zgt0, zLe0, nI_ltI, nI_leI, nI_eq, nI_add, nI_clamp, vp_in_nI, zup_s, zup_n, upd_s, upd_n, ne_eq, not_true_eq_false, not_false_eq_true] at hc <;> omega)
        | (intro hc; exact absurd rfl hc)
        | intro hc
        | apply And.intro
        | exact hQ
        | (show Q _ (SH, _); simp (disch := first | omega | decide) only [h23, h30, zcn, zkpl, zki, zki1, zk8, zk16, zo32, zlt0, zle0, zeq0, zgt0, zLe0, nI_ltI, nI_leI, nI_eq, nI_add, nI_clamp, vp_in_nI, zup_s, zup_n, upd_s, upd_n, ne_eq, not_true_eq_false, not_false_eq_true]; exact hQ)
        | exact Or.inl rfl
        | exact Or.inr rfl
        | (show (_ : Int32) = 0 ∨ _ = 1; simp (disch := first | omega | decide) only [h23, h30, zcn, zkpl, zki, zki1, zk8, zk16, zo32, zlt0, zle0, zeq0, zgt0, zLe0, nI_ltI, nI_leI, nI_eq, nI_add, nI_clamp, vp_in_nI, zup_s, zup_n, upd_s, upd_n, ne_eq, not_true_eq_false, not_false_eq_true, zeq1, true_or, or_true]; done))
theorem pay_loop {u : zM} {n nT nb : Nat} {nm : Nat → List Nat} {vl pl dg : Nat → Nat} (ho : okM 80 n nm vl pl dg) (hu : uM u 80 n nm vl pl dg) (hT : u 42 45 = nI nT) (hT2 : nT ≤ 20) (hb : u 42 36 = nI nb) (hb2 : nb ≤ 5247) (Q : zQ) (hQ0 : ∀ r, rbP (vl 2 ≠ n) (vl 3 ≠ tot vl n) (¬ ∀ t, t < n → gA pl dg t) (¬ ∀ t, t < n → pl (6 + 5 * t) ≠ pl (7 + 5 * t)) (¬ ∀ t, t < n → fsh u nT t) (20 < nT + n ∨ 4000 ≤ nb) r → Q (some (.int (nI r))) (SH, u)) : ∀ (k t : Nat) (rr aa ff : Int32) (R : zLs), t + k = n → bf rr (∀ t', t' < t → gA pl dg t') → bf aa (∀ t', t' < t → pl (6 + 5 * t') ≠ pl (7 + 5 * t')) → bf ff (∀ t', t' < t → fsh u nT t') → pH (nI t) (nI (tot vl t)) rr aa ff R → ZW 182 (0, 0, 0, 0) 12 R [] (SH, u) Q := by
  obtain ⟨o1, o2, o3, o4, o5, o6, o7⟩ := ho
  obtain ⟨u1, u2, u3, u4, u5, u6⟩ := hu
  have hn : n ≤ 3 := by omega
  obtain ⟨u30, u23, u24⟩ := u2 rfl
  have b4 := o4 rfl
  have htb := tot_b n hn (fun t ht => (o7 t ht).2.2.2.2)
  intro k
  induction k with
  | zero =>
    intro t rr aa ff R ht h6 h7 h8 hR
    obtain rfl : t = n := by omega
    have W := pay_end (T := tot vl t) u23 u30 u24 hT hb ⟨b4.1, b4.2.2, by omega, hn, hT2, hb2⟩ (bf_c h6 ⟨fun g g' => g' g, Classical.byContradiction⟩) (bf_c h7 ⟨fun g g' => g' g, Classical.byContradiction⟩) (bf_c h8 ⟨fun g g' => g' g, Classical.byContradiction⟩) Q hQ0 R hR
    rcases hR with rfl | ⟨y, rfl⟩
    · refine zgo 4 [] ?_
      repeat' (first
        | (exact W)
        | (show vp_in _ _; simp (disch := first | omega | decide) only [u30, zcn, zkpl, zki, zki1, zk8, zk16, zo32, zlt0, zle0, zeq0, zgt0, zLe0, nI_ltI, nI_leI, nI_eq, nI_add, nI_clamp, vp_in_nI, zup_s, zup_n, upd_s, upd_n, ne_eq, not_true_eq_false, not_false_eq_true]; done)
        | (intro hc; exfalso; simp (disch := first | omega | decide) only [u30, zcn, zkpl, zki, zki1, zk8, zk16, zo32, zlt0, zle0, zeq0, zgt0, zLe0, nI_ltI, nI_leI, nI_eq, nI_add, nI_clamp, vp_in_nI, zup_s, zup_n, upd_s, upd_n, ne_eq, not_true_eq_false, not_false_eq_true] at hc <;> omega)
        | (intro hc; exact absurd rfl hc)
        | intro hc
        | apply And.intro
        | exact Or.inl rfl
        | exact Or.inr rfl
        | (show (_ : Int32) = 0 ∨ _ = 1; simp (disch := first | omega | decide) only [u30, zcn, zkpl, zki, zki1, zk8, zk16, zo32, zlt0, zle0, zeq0, zgt0, zLe0, nI_ltI, nI_leI, nI_eq, nI_add, nI_clamp, vp_in_nI, zup_s, zup_n, upd_s, upd_n, ne_eq, not_true_eq_false, not_false_eq_true, zeq1, true_or, or_true]; done))
    · refine zgo 4 [] ?_
      repeat' (first
        | (exact W)
        | (show vp_in _ _; simp (disch := first | omega | decide) only [u30, zcn, zkpl, zki, zki1, zk8, zk16, zo32, zlt0, zle0, zeq0, zgt0, zLe0, nI_ltI, nI_leI, nI_eq, nI_add, nI_clamp, vp_in_nI, zup_s, zup_n, upd_s, upd_n, ne_eq, not_true_eq_false, not_false_eq_true]; done)
        | (intro hc; exfalso; simp (disch := first | omega | decide) only [u30, zcn, zkpl, zki, zki1, zk8, zk16, zo32, zlt0, zle0, zeq0, zgt0, zLe0, nI_ltI, nI_leI, nI_eq, nI_add, nI_clamp, vp_in_nI, zup_s, zup_n, upd_s, upd_n, ne_eq, not_true_eq_false, not_false_eq_true] at hc <;> omega)
        | (intro hc; exact absurd rfl hc)
        | intro hc
        | apply And.intro
        | exact Or.inl rfl
        | exact Or.inr rfl
        | (show (_ : Int32) = 0 ∨ _ = 1; simp (disch := first | omega | decide) only [u30, zcn, zkpl, zki, zki1, zk8, zk16, zo32, zlt0, zle0, zeq0, zgt0, zLe0, nI_ltI, nI_leI, nI_eq, nI_add, nI_clamp, vp_in_nI, zup_s, zup_n, upd_s, upd_n, ne_eq, not_true_eq_false, not_false_eq_true, zeq1, true_or, or_true]; done))
  | succ k ih =>
    intro t rr aa ff R ht h6 h7 h8 hR
    have htn : t < n := by omega
    obtain ⟨q1, q2, q3, q4, q5, q6⟩ := u6 t htn
    obtain ⟨p1, p2, p3, p4⟩ := o7 t htn
    obtain ⟨rr', hr'⟩ := bf_ex (∀ t', t' < t + 1 → gA pl dg t')
    obtain ⟨aa', ha'⟩ := bf_ex (∀ t', t' < t + 1 → pl (6 + 5 * t') ≠ pl (7 + 5 * t'))
    obtain ⟨f1, hf1⟩ := bf_ex ((∀ t', t' < t → fsh u nT t') ∧ ∀ j, j < nT → u 60 j ≠ u 52 t)
    have e3 : nI t + Int32.ofInt 1 = nI (t + 1) := by rw [zki, nI_add]
    have W5 : ∀ f', bf f' (((∀ t', t' < t → fsh u nT t') ∧ ∀ j, j < nT → u 60 j ≠ u 52 t) ∧ ∀ o, o < t → u 52 o ≠ u 52 t) → ZW 182 (0, 0, 0, 0) 185 [(6, .int (nI t)), (4, .int f'), (3, .int aa'), (2, .int rr'), (1, .int (nI (tot vl (t + 1)))), (5, .int (nI t)), (0, .ref 42)] [] (SH, u) Q := by
      intro f' hf'
      have W := ih (t + 1) rr' aa' f' [(5, .int (nI (t + 1))), (6, .int (nI t)), (4, .int f'), (3, .int aa'), (2, .int rr'), (1, .int (nI (tot vl (t + 1)))), (0, .ref 42)] (by omega) hr' ha' (bf_c hf' (by rw [← all_s]; unfold fsh; exact ⟨fun g => ⟨g.1.1, g.1.2, g.2⟩, fun g => ⟨⟨g.1, g.2.1⟩, g.2.2⟩⟩)) (Or.inr ⟨_, rfl⟩)
      rw [← e3] at W
      refine zgo 5 [] ?_
      exact W
    have W4 := pay_inn (u := u) (t := t) (by omega) (tot := nI (tot vl (t + 1))) (r := rr') (a := aa') Q W5 t 0 f1 (by omega) (bf_c hf1 ⟨fun g => ⟨g, fun o' h => absurd h (Nat.not_lt_zero o')⟩, fun g => g.1⟩)
    have W3 : ∀ R, pD (nI t) (nI (tot vl (t + 1))) rr' aa' f1 R → ZW 182 (0, 0, 0, 0) 140 R [] (SH, u) Q := by
      intro R hR
      rcases hR with rfl | ⟨y, rfl⟩
      · refine zgo 5 [] ?_
        exact W4
      · refine zgo 5 [] ?_
        exact W4
    have W2 := pay_fresh (u := u) (t := t) (by omega) hT hT2 h8 hf1 Q W3
    have W1 := pay_apart (u := u) (t := t) (by omega) q2 q3 p2.1 p3.1 h7 (bf_c ha' all_s.symm) Q W2
    have W0 := pay_right (u := u) (t := t) (by omega) q2 q4 q3 q5 p2 p3 h6 (bf_c hr' all_s.symm) Q W1
    have e56 : nI (tot vl t) + u 56 (nI t).toNatClampNeg = nI (tot vl (t + 1)) := by
      have : u 56 (nI t).toNatClampNeg = nI (vl (8 + 5 * t)) := by
        simp (disch := first | omega | decide) only [q6, zcn, zkpl, zki, zki1, zk8, zk16, zo32, zlt0, zle0, zeq0, zgt0, zLe0, nI_ltI, nI_leI, nI_eq, nI_add, nI_clamp, vp_in_nI, zup_s, zup_n, upd_s, upd_n, ne_eq, not_true_eq_false, not_false_eq_true]
      rw [this, nI_add]
      rfl
    rw [← e56] at W0
    rcases hR with rfl | ⟨y, rfl⟩
    · have W := W0 _ (Or.inl rfl)
      refine zgo 11 [] ?_
      repeat' (first
        | (exact W)
        | (show vp_in _ _; simp (disch := first | omega | decide) only [u30, zcn, zkpl, zki, zki1, zk8, zk16, zo32, zlt0, zle0, zeq0, zgt0, zLe0, nI_ltI, nI_leI, nI_eq, nI_add, nI_clamp, vp_in_nI, zup_s, zup_n, upd_s, upd_n, ne_eq, not_true_eq_false, not_false_eq_true]; done)
        | (intro hc; exfalso; simp (disch := first | omega | decide) only [u30, zcn, zkpl, zki, zki1, zk8, zk16, zo32, zlt0, zle0, zeq0, zgt0, zLe0, nI_ltI, nI_leI, nI_eq, nI_add, nI_clamp, vp_in_nI, zup_s, zup_n, upd_s, upd_n, ne_eq, not_true_eq_false, not_false_eq_true] at hc <;> omega)
        | (intro hc; exact absurd rfl hc)
        | intro hc
        | apply And.intro
        | exact Or.inl rfl
        | exact Or.inr rfl
        | (show (_ : Int32) = 0 ∨ _ = 1; simp (disch := first | omega | decide) only [u30, zcn, zkpl, zki, zki1, zk8, zk16, zo32, zlt0, zle0, zeq0, zgt0, zLe0, nI_ltI, nI_leI, nI_eq, nI_add, nI_clamp, vp_in_nI, zup_s, zup_n, upd_s, upd_n, ne_eq, not_true_eq_false, not_false_eq_true, zeq1, true_or, or_true]; done))
    · have W := W0 _ (Or.inr ⟨y, rfl⟩)
      refine zgo 11 [] ?_
      repeat' (first
        | (exact W)
        | (show vp_in _ _; simp (disch := first | omega | decide) only [u30, zcn, zkpl, zki, zki1, zk8, zk16, zo32, zlt0, zle0, zeq0, zgt0, zLe0, nI_ltI, nI_leI, nI_eq, nI_add, nI_clamp, vp_in_nI, zup_s, zup_n, upd_s, upd_n, ne_eq, not_true_eq_false, not_false_eq_true]; done)
        | (intro hc; exfalso; simp (disch := first | omega | decide) only [u30, zcn, zkpl, zki, zki1, zk8, zk16, zo32, zlt0, zle0, zeq0, zgt0, zLe0, nI_ltI, nI_leI, nI_eq, nI_add, nI_clamp, vp_in_nI, zup_s, zup_n, upd_s, upd_n, ne_eq, not_true_eq_false, not_false_eq_true] at hc <;> omega)
        | (intro hc; exact absurd rfl hc)
        | intro hc
        | apply And.intro
        | exact Or.inl rfl
        | exact Or.inr rfl
        | (show (_ : Int32) = 0 ∨ _ = 1; simp (disch := first | omega | decide) only [u30, zcn, zkpl, zki, zki1, zk8, zk16, zo32, zlt0, zle0, zeq0, zgt0, zLe0, nI_ltI, nI_leI, nI_eq, nI_add, nI_clamp, vp_in_nI, zup_s, zup_n, upd_s, upd_n, ne_eq, not_true_eq_false, not_false_eq_true, zeq1, true_or, or_true]; done))
theorem es_182 {m u : zM} {n nT nb : Nat} {nm : Nat → List Nat} {vl pl dg : Nat → Nat} (ho : okM 80 n nm vl pl dg) (hu : uM u 80 n nm vl pl dg) (hT : u 42 45 = nI nT) (hT2 : nT ≤ 20) (hb : u 42 36 = nI nb) (hb2 : nb ≤ 5247) (hnm : ∀ t, t < nT → nmR (m 29 t) (u 60 t)) {r : Nat} (hr : rbP (vl 2 ≠ n) (vl 3 ≠ tot vl n) (∃ t, t < n ∧ ¬ gA pl dg t) (∃ t, t < n ∧ pl (6 + 5 * t) = pl (7 + 5 * t)) ((∃ t o, t < n ∧ o < t ∧ n8 (nm (5 + 5 * t)) = n8 (nm (5 + 5 * o))) ∨ ∃ t j, t < n ∧ j < nT ∧ m 29 j = nI (n8 (nm (5 + 5 * t)))) (20 < nT + n ∨ 4000 ≤ nb) r) : Ev 182 [.ref 42] u (some (.int (nI r))) u := by
  have e6 : (¬ ∀ t, t < n → gA pl dg t) = (∃ t, t < n ∧ ¬ gA pl dg t) := propext ⟨fun g => Classical.byContradiction (fun g' => g (fun t ht => Classical.byContradiction (fun g2 => g' ⟨t, ht, g2⟩))), fun ⟨t, h1, h2⟩ g => h2 (g t h1)⟩
  have e7 : (¬ ∀ t, t < n → pl (6 + 5 * t) ≠ pl (7 + 5 * t)) = (∃ t, t < n ∧ pl (6 + 5 * t) = pl (7 + 5 * t)) := propext ⟨fun g => Classical.byContradiction (fun g' => g (fun t ht g2 => g' ⟨t, ht, g2⟩)), fun ⟨t, h1, h2⟩ g => g t h1 h2⟩
  have k1 : ∀ t j, t < n → j < nT → ((u 60 j = u 52 t) = (m 29 j = nI (n8 (nm (5 + 5 * t))))) := fun t j h1 h2 => by
    rw [(hu.2.2.2.2.2 t h1).1]
    exact (nmR_eq (hnm j h2) (ho.2.2.2.2.2.2 t h1).1).symm
  have k2 : ∀ t o, t < n → o < n → ((u 52 o = u 52 t) = (n8 (nm (5 + 5 * t)) = n8 (nm (5 + 5 * o)))) := fun t o h1 h2 => by
    rw [(hu.2.2.2.2.2 t h1).1, (hu.2.2.2.2.2 o h2).1, ← n_eq (ho.2.2.2.2.2.2 o h2).1 (ho.2.2.2.2.2.2 t h1).1, nI_eq (n8_lt (ho.2.2.2.2.2.2 o h2).1) (n8_lt (ho.2.2.2.2.2.2 t h1).1)]
    exact propext ⟨fun g => g.symm, fun g => g.symm⟩
  have e8 : (¬ ∀ t, t < n → fsh u nT t) = ((∃ t o, t < n ∧ o < t ∧ n8 (nm (5 + 5 * t)) = n8 (nm (5 + 5 * o))) ∨ ∃ t j, t < n ∧ j < nT ∧ m 29 j = nI (n8 (nm (5 + 5 * t)))) := by
    refine propext ⟨fun g => Classical.byContradiction (fun g' => g (fun t ht => ⟨fun j hj g2 => ?_, fun o ho' g2 => ?_⟩)), fun g g' => ?_⟩
    · rw [k1 t j ht hj] at g2
      exact g' (Or.inr ⟨t, j, ht, hj, g2⟩)
    · rw [k2 t o ht (by omega)] at g2
      exact g' (Or.inl ⟨t, o, ht, ho', g2⟩)
    · rcases g with ⟨t, o, h1, h2, h3⟩ | ⟨t, j, h1, h2, h3⟩
      · have := (g' t h1).2 o h2
        rw [ne_eq, k2 t o h1 (by omega)] at this
        exact this h3
      · have := (g' t h1).1 j h2
        rw [ne_eq, k1 t j h1 h2] at this
        exact this h3
  intro Q hQ
  have W := pay_loop ho hu hT hT2 hb hb2 Q (fun r' hr' => by
    rw [e6, e7, e8] at hr'
    rw [rbP_u hr' hr]
    exact hQ) n 0 1 1 1 [(5, .int (nI 0)), (4, .int 1), (3, .int 1), (2, .int 1), (1, .int (nI 0)), (0, .ref 42)] (by omega) (Or.inl ⟨rfl, fun t ht => absurd ht (Nat.not_lt_zero t)⟩) (Or.inl ⟨rfl, fun t ht => absurd ht (Nat.not_lt_zero t)⟩) (Or.inl ⟨rfl, fun t ht => absurd ht (Nat.not_lt_zero t)⟩) (Or.inl rfl)
  refine zgo 20 [] ?_
  exact W
