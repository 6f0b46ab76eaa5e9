/-! the class's signs: comments, ends, begins -/
def isL (c : Nat) : Prop := (65 ≤ c ∧ c ≤ 90) ∨ (97 ≤ c ∧ c ≤ 122)
theorem ev_isL {m : zM} {c : Nat} (hc8 : c ≤ 126) {b : Int32} (hb : (b = 1 ∧ isL c) ∨ (b = 0 ∧ ¬ isL c)) : Ev 157 [.int (nI c)] m (some (.int b)) m := by
  intro Q hQ
  unfold isL at hb
  by_cases e1 : c < 65
  · obtain rfl : b = 0 := by
      rcases hb with hb | hb
      · omega
      · exact hb.1
    refine zgo 30 [] ?_
    repeat' (first
      | (show vp_in _ _; simp (disch := first | omega | decide) only [zcn, zkpl, zki, zki1, zk8, zk16, zo32, zlt0, zle0, zeq0, zgt0, zLe0, nI_ltI, nI_leI, nI_eq, nI_add, nI_clamp, vp_in_nI, zup_s, zup_n, upd_s, upd_n, ne_eq, not_true_eq_false, not_false_eq_true]; done)
      | (intro hc; exfalso; simp (disch := first | omega | decide) only [zcn, zkpl, zki, zki1, zk8, zk16, zo32, zlt0, zle0, zeq0, zgt0, zLe0, nI_ltI, nI_leI, nI_eq, nI_add, nI_clamp, vp_in_nI, zup_s, zup_n, upd_s, upd_n, ne_eq, not_true_eq_false, not_false_eq_true] at hc <;> omega)
      | (intro hc; exact absurd rfl hc)
      | intro hc
      | apply And.intro
      | exact hQ
      | (show Q _ (SH, _); simp (disch := first | omega | decide) only [zcn, zkpl, zki, zki1, zk8, zk16, zo32, zlt0, zle0, zeq0, zgt0, zLe0, nI_ltI, nI_leI, nI_eq, nI_add, nI_clamp, vp_in_nI, zup_s, zup_n, upd_s, upd_n, ne_eq, not_true_eq_false, not_false_eq_true]; exact hQ)
      | exact Or.inl rfl
      | exact Or.inr rfl
      | (show (_ : Int32) = 0 ∨ _ = 1; simp (disch := first | omega | decide) only [zcn, zkpl, zki, zki1, zk8, zk16, zo32, zlt0, zle0, zeq0, zgt0, zLe0, nI_ltI, nI_leI, nI_eq, nI_add, nI_clamp, vp_in_nI, zup_s, zup_n, upd_s, upd_n, ne_eq, not_true_eq_false, not_false_eq_true, zeq1, true_or, or_true]; done))
  · by_cases e2 : c ≤ 90
    · obtain rfl : b = 1 := by
        rcases hb with hb | hb
        · exact hb.1
        · omega
      refine zgo 30 [] ?_
      repeat' (first
        | (show vp_in _ _; simp (disch := first | omega | decide) only [zcn, zkpl, zki, zki1, zk8, zk16, zo32, zlt0, zle0, zeq0, zgt0, zLe0, nI_ltI, nI_leI, nI_eq, nI_add, nI_clamp, vp_in_nI, zup_s, zup_n, upd_s, upd_n, ne_eq, not_true_eq_false, not_false_eq_true]; done)
        | (intro hc; exfalso; simp (disch := first | omega | decide) only [zcn, zkpl, zki, zki1, zk8, zk16, zo32, zlt0, zle0, zeq0, zgt0, zLe0, nI_ltI, nI_leI, nI_eq, nI_add, nI_clamp, vp_in_nI, zup_s, zup_n, upd_s, upd_n, ne_eq, not_true_eq_false, not_false_eq_true] at hc <;> omega)
        | (intro hc; exact absurd rfl hc)
        | intro hc
        | apply And.intro
        | exact hQ
        | (show Q _ (SH, _); simp (disch := first | omega | decide) only [zcn, zkpl, zki, zki1, zk8, zk16, zo32, zlt0, zle0, zeq0, zgt0, zLe0, nI_ltI, nI_leI, nI_eq, nI_add, nI_clamp, vp_in_nI, zup_s, zup_n, upd_s, upd_n, ne_eq, not_true_eq_false, not_false_eq_true]; exact hQ)
        | exact Or.inl rfl
        | exact Or.inr rfl
        | (show (_ : Int32) = 0 ∨ _ = 1; simp (disch := first | omega | decide) only [zcn, zkpl, zki, zki1, zk8, zk16, zo32, zlt0, zle0, zeq0, zgt0, zLe0, nI_ltI, nI_leI, nI_eq, nI_add, nI_clamp, vp_in_nI, zup_s, zup_n, upd_s, upd_n, ne_eq, not_true_eq_false, not_false_eq_true, zeq1, true_or, or_true]; done))
    · by_cases e3 : c < 97
      · obtain rfl : b = 0 := by
          rcases hb with hb | hb
          · omega
          · exact hb.1
        refine zgo 30 [] ?_
        repeat' (first
          | (show vp_in _ _; simp (disch := first | omega | decide) only [zcn, zkpl, zki, zki1, zk8, zk16, zo32, zlt0, zle0, zeq0, zgt0, zLe0, nI_ltI, nI_leI, nI_eq, nI_add, nI_clamp, vp_in_nI, zup_s, zup_n, upd_s, upd_n, ne_eq, not_true_eq_false, not_false_eq_true]; done)
          | (intro hc; exfalso; simp (disch := first | omega | decide) only [zcn, zkpl, zki, zki1, zk8, zk16, zo32, zlt0, zle0, zeq0, zgt0, zLe0, nI_ltI, nI_leI, nI_eq, nI_add, nI_clamp, vp_in_nI, zup_s, zup_n, upd_s, upd_n, ne_eq, not_true_eq_false, not_false_eq_true] at hc <;> omega)
          | (intro hc; exact absurd rfl hc)
          | intro hc
          | apply And.intro
          | exact hQ
          | (show Q _ (SH, _); simp (disch := first | omega | decide) only [zcn, zkpl, zki, zki1, zk8, zk16, zo32, zlt0, zle0, zeq0, zgt0, zLe0, nI_ltI, nI_leI, nI_eq, nI_add, nI_clamp, vp_in_nI, zup_s, zup_n, upd_s, upd_n, ne_eq, not_true_eq_false, not_false_eq_true]; exact hQ)
          | exact Or.inl rfl
          | exact Or.inr rfl
          | (show (_ : Int32) = 0 ∨ _ = 1; simp (disch := first | omega | decide) only [zcn, zkpl, zki, zki1, zk8, zk16, zo32, zlt0, zle0, zeq0, zgt0, zLe0, nI_ltI, nI_leI, nI_eq, nI_add, nI_clamp, vp_in_nI, zup_s, zup_n, upd_s, upd_n, ne_eq, not_true_eq_false, not_false_eq_true, zeq1, true_or, or_true]; done))
      · by_cases e4 : c ≤ 122
        · obtain rfl : b = 1 := by
            rcases hb with hb | hb
            · exact hb.1
            · omega
          refine zgo 30 [] ?_
          repeat' (first
            | (show vp_in _ _; simp (disch := first | omega | decide) only [zcn, zkpl, zki, zki1, zk8, zk16, zo32, zlt0, zle0, zeq0, zgt0, zLe0, nI_ltI, nI_leI, nI_eq, nI_add, nI_clamp, vp_in_nI, zup_s, zup_n, upd_s, upd_n, ne_eq, not_true_eq_false, not_false_eq_true]; done)
            | (intro hc; exfalso; simp (disch := first | omega | decide) only [zcn, zkpl, zki, zki1, zk8, zk16, zo32, zlt0, zle0, zeq0, zgt0, zLe0, nI_ltI, nI_leI, nI_eq, nI_add, nI_clamp, vp_in_nI, zup_s, zup_n, upd_s, upd_n, ne_eq, not_true_eq_false, not_false_eq_true] at hc <;> omega)
            | (intro hc; exact absurd rfl hc)
            | intro hc
            | apply And.intro
            | exact hQ
            | (show Q _ (SH, _); simp (disch := first | omega | decide) only [zcn, zkpl, zki, zki1, zk8, zk16, zo32, zlt0, zle0, zeq0, zgt0, zLe0, nI_ltI, nI_leI, nI_eq, nI_add, nI_clamp, vp_in_nI, zup_s, zup_n, upd_s, upd_n, ne_eq, not_true_eq_false, not_false_eq_true]; exact hQ)
            | exact Or.inl rfl
            | exact Or.inr rfl
            | (show (_ : Int32) = 0 ∨ _ = 1; simp (disch := first | omega | decide) only [zcn, zkpl, zki, zki1, zk8, zk16, zo32, zlt0, zle0, zeq0, zgt0, zLe0, nI_ltI, nI_leI, nI_eq, nI_add, nI_clamp, vp_in_nI, zup_s, zup_n, upd_s, upd_n, ne_eq, not_true_eq_false, not_false_eq_true, zeq1, true_or, or_true]; done))
        · obtain rfl : b = 0 := by
            rcases hb with hb | hb
            · omega
            · exact hb.1
          refine zgo 30 [] ?_
          repeat' (first
            | (show vp_in _ _; simp (disch := first | omega | decide) only [zcn, zkpl, zki, zki1, zk8, zk16, zo32, zlt0, zle0, zeq0, zgt0, zLe0, nI_ltI, nI_leI, nI_eq, nI_add, nI_clamp, vp_in_nI, zup_s, zup_n, upd_s, upd_n, ne_eq, not_true_eq_false, not_false_eq_true]; done)
            | (intro hc; exfalso; simp (disch := first | omega | decide) only [zcn, zkpl, zki, zki1, zk8, zk16, zo32, zlt0, zle0, zeq0, zgt0, zLe0, nI_ltI, nI_leI, nI_eq, nI_add, nI_clamp, vp_in_nI, zup_s, zup_n, upd_s, upd_n, ne_eq, not_true_eq_false, not_false_eq_true] at hc <;> omega)
            | (intro hc; exact absurd rfl hc)
            | intro hc
            | apply And.intro
            | exact hQ
            | (show Q _ (SH, _); simp (disch := first | omega | decide) only [zcn, zkpl, zki, zki1, zk8, zk16, zo32, zlt0, zle0, zeq0, zgt0, zLe0, nI_ltI, nI_leI, nI_eq, nI_add, nI_clamp, vp_in_nI, zup_s, zup_n, upd_s, upd_n, ne_eq, not_true_eq_false, not_false_eq_true]; exact hQ)
            | exact Or.inl rfl
            | exact Or.inr rfl
            | (show (_ : Int32) = 0 ∨ _ = 1; simp (disch := first | omega | decide) only [zcn, zkpl, zki, zki1, zk8, zk16, zo32, zlt0, zle0, zeq0, zgt0, zLe0, nI_ltI, nI_leI, nI_eq, nI_add, nI_clamp, vp_in_nI, zup_s, zup_n, upd_s, upd_n, ne_eq, not_true_eq_false, not_false_eq_true, zeq1, true_or, or_true]; done))
theorem ev_close {w : Nat → Nat} {wl a : Nat} {m : zM} (ho : okT w wl) (hx : tX w wl m a) (ha : a ≤ 310) {b : Int32} (hb : (b = 1 ∧ pe w wl a = 62) ∨ (b = 0 ∧ pe w wl a ≠ 62)) : Ev 85 [.ref 9] m (some (.int b)) (zup m 9 3 (nI (a + 1))) := by
  intro Q hQ
  have hp := ev_peek ho hx 0 rfl (by omega) ha
  rw [Nat.add_zero] at hp
  have hl := pe_le ho a
  have e := hx.2.2
  have f1 : ZW 85 (0, 0, 0, 0) 5 [(0, .ref 9)] [.int (nI (pe w wl a))] (SH, m) Q := by
    rcases hb with ⟨rfl, hb⟩ | ⟨rfl, hb⟩
    · refine zgo 30 [] ?_
      repeat' (first
        | (show vp_in _ _; simp (disch := first | omega | decide) only [e, zcn, zkpl, zki, zki1, zk8, zk16, zo32, zlt0, zle0, zeq0, zgt0, zLe0, nI_ltI, nI_leI, nI_eq, nI_add, nI_clamp, vp_in_nI, zup_s, zup_n, upd_s, upd_n, ne_eq, not_true_eq_false, not_false_eq_true]; done)
        | (intro hc; exfalso; simp (disch := first | omega | decide) only [e, zcn, zkpl, zki, zki1, zk8, zk16, zo32, zlt0, zle0, zeq0, zgt0, zLe0, nI_ltI, nI_leI, nI_eq, nI_add, nI_clamp, vp_in_nI, zup_s, zup_n, upd_s, upd_n, ne_eq, not_true_eq_false, not_false_eq_true] at hc <;> omega)
        | (intro hc; exact absurd rfl hc)
        | intro hc
        | apply And.intro
        | exact hQ
        | (show Q _ (SH, _); simp (disch := first | omega | decide) only [e, zcn, zkpl, zki, zki1, zk8, zk16, zo32, zlt0, zle0, zeq0, zgt0, zLe0, nI_ltI, nI_leI, nI_eq, nI_add, nI_clamp, vp_in_nI, zup_s, zup_n, upd_s, upd_n, ne_eq, not_true_eq_false, not_false_eq_true]; exact hQ)
        | exact Or.inl rfl
        | exact Or.inr rfl
        | (show (_ : Int32) = 0 ∨ _ = 1; simp (disch := first | omega | decide) only [e, zcn, zkpl, zki, zki1, zk8, zk16, zo32, zlt0, zle0, zeq0, zgt0, zLe0, nI_ltI, nI_leI, nI_eq, nI_add, nI_clamp, vp_in_nI, zup_s, zup_n, upd_s, upd_n, ne_eq, not_true_eq_false, not_false_eq_true, zeq1, true_or, or_true]; done))
    · refine zgo 30 [] ?_
      repeat' (first
        | (show vp_in _ _; simp (disch := first | omega | decide) only [e, zcn, zkpl, zki, zki1, zk8, zk16, zo32, zlt0, zle0, zeq0, zgt0, zLe0, nI_ltI, nI_leI, nI_eq, nI_add, nI_clamp, vp_in_nI, zup_s, zup_n, upd_s, upd_n, ne_eq, not_true_eq_false, not_false_eq_true]; done)
        | (intro hc; exfalso; simp (disch := first | omega | decide) only [e, zcn, zkpl, zki, zki1, zk8, zk16, zo32, zlt0, zle0, zeq0, zgt0, zLe0, nI_ltI, nI_leI, nI_eq, nI_add, nI_clamp, vp_in_nI, zup_s, zup_n, upd_s, upd_n, ne_eq, not_true_eq_false, not_false_eq_true] at hc <;> omega)
        | (intro hc; exact absurd rfl hc)
        | intro hc
        | apply And.intro
        | exact hQ
        | (show Q _ (SH, _); simp (disch := first | omega | decide) only [e, zcn, zkpl, zki, zki1, zk8, zk16, zo32, zlt0, zle0, zeq0, zgt0, zLe0, nI_ltI, nI_leI, nI_eq, nI_add, nI_clamp, vp_in_nI, zup_s, zup_n, upd_s, upd_n, ne_eq, not_true_eq_false, not_false_eq_true]; exact hQ)
        | exact Or.inl rfl
        | exact Or.inr rfl
        | (show (_ : Int32) = 0 ∨ _ = 1; simp (disch := first | omega | decide) only [e, zcn, zkpl, zki, zki1, zk8, zk16, zo32, zlt0, zle0, zeq0, zgt0, zLe0, nI_ltI, nI_leI, nI_eq, nI_add, nI_clamp, vp_in_nI, zup_s, zup_n, upd_s, upd_n, ne_eq, not_true_eq_false, not_false_eq_true, zeq1, true_or, or_true]; done))
  refine zgo 30 [] ?_
  repeat' (first
    | (exact hp.use f1)
    | (show vp_in _ _; simp (disch := first | omega | decide) only [zcn, zkpl, zki, zki1, zk8, zk16, zo32, zlt0, zle0, zeq0, zgt0, zLe0, nI_ltI, nI_leI, nI_eq, nI_add, nI_clamp, vp_in_nI, zup_s, zup_n, upd_s, upd_n, ne_eq, not_true_eq_false, not_false_eq_true]; done)
    | (intro hc; exfalso; simp (disch := first | omega | decide) only [zcn, zkpl, zki, zki1, zk8, zk16, zo32, zlt0, zle0, zeq0, zgt0, zLe0, nI_ltI, nI_leI, nI_eq, nI_add, nI_clamp, vp_in_nI, zup_s, zup_n, upd_s, upd_n, ne_eq, not_true_eq_false, not_false_eq_true] at hc <;> omega)
    | (intro hc; exact absurd rfl hc)
    | intro hc
    | apply And.intro
    | exact Or.inl rfl
    | exact Or.inr rfl
    | (show (_ : Int32) = 0 ∨ _ = 1; simp (disch := first | omega | decide) only [zcn, zkpl, zki, zki1, zk8, zk16, zo32, zlt0, zle0, zeq0, zgt0, zLe0, nI_ltI, nI_leI, nI_eq, nI_add, nI_clamp, vp_in_nI, zup_s, zup_n, upd_s, upd_n, ne_eq, not_true_eq_false, not_false_eq_true, zeq1, true_or, or_true]; done))
theorem c_80_81 {w : Nat → Nat} {wl a : Nat} {m m' : zM} {b : Int32} (hb1 : b = 0 ∨ b = 1) (ho : okT w wl) (hx : tX w wl m a) (ha : a < wl) (hc1 : w a = 60) (h : Ev 81 [.ref 9] m (some (.int b)) m') : Ev 80 [.ref 9] m (some (.int b)) m' := by
  intro Q hQ
  have hl := ho.1
  have hp := ev_peek ho hx 0 rfl (by omega) (by omega)
  rw [Nat.add_zero, pe_w ha, hc1] at hp
  have f2 : ZW 80 (0, 0, 0, 0) 16 [(1, .int (nI 60)), (0, .ref 9)] [.int b] (SH, m') Q := by
    rcases hb1 with rfl | rfl
    · refine zgo 20 [] ?_
      repeat' (first
        | (show vp_in _ _; simp (disch := first | omega | decide) only [zcn, zkpl, zki, zki1, zk8, zk16, zo32, zlt0, zle0, zeq0, zgt0, zLe0, nI_ltI, nI_leI, nI_eq, nI_add, nI_clamp, vp_in_nI, zup_s, zup_n, upd_s, upd_n, ne_eq, not_true_eq_false, not_false_eq_true]; done)
        | (intro hc; exfalso; simp (disch := first | omega | decide) only [zcn, zkpl, zki, zki1, zk8, zk16, zo32, zlt0, zle0, zeq0, zgt0, zLe0, nI_ltI, nI_leI, nI_eq, nI_add, nI_clamp, vp_in_nI, zup_s, zup_n, upd_s, upd_n, ne_eq, not_true_eq_false, not_false_eq_true] at hc <;> omega)
        | (intro hc; exact absurd rfl hc)
        | intro hc
        | apply And.intro
        | exact hQ
        | (show Q _ (SH, _); simp (disch := first | omega | decide) only [zcn, zkpl, zki, zki1, zk8, zk16, zo32, zlt0, zle0, zeq0, zgt0, zLe0, nI_ltI, nI_leI, nI_eq, nI_add, nI_clamp, vp_in_nI, zup_s, zup_n, upd_s, upd_n, ne_eq, not_true_eq_false, not_false_eq_true]; exact hQ)
        | exact Or.inl rfl
        | exact Or.inr rfl
        | (show (_ : Int32) = 0 ∨ _ = 1; simp (disch := first | omega | decide) only [zcn, zkpl, zki, zki1, zk8, zk16, zo32, zlt0, zle0, zeq0, zgt0, zLe0, nI_ltI, nI_leI, nI_eq, nI_add, nI_clamp, vp_in_nI, zup_s, zup_n, upd_s, upd_n, ne_eq, not_true_eq_false, not_false_eq_true, zeq1, true_or, or_true]; done))
    · refine zgo 20 [] ?_
      repeat' (first
        | (show vp_in _ _; simp (disch := first | omega | decide) only [zcn, zkpl, zki, zki1, zk8, zk16, zo32, zlt0, zle0, zeq0, zgt0, zLe0, nI_ltI, nI_leI, nI_eq, nI_add, nI_clamp, vp_in_nI, zup_s, zup_n, upd_s, upd_n, ne_eq, not_true_eq_false, not_false_eq_true]; done)
        | (intro hc; exfalso; simp (disch := first | omega | decide) only [zcn, zkpl, zki, zki1, zk8, zk16, zo32, zlt0, zle0, zeq0, zgt0, zLe0, nI_ltI, nI_leI, nI_eq, nI_add, nI_clamp, vp_in_nI, zup_s, zup_n, upd_s, upd_n, ne_eq, not_true_eq_false, not_false_eq_true] at hc <;> omega)
        | (intro hc; exact absurd rfl hc)
        | intro hc
        | apply And.intro
        | exact hQ
        | (show Q _ (SH, _); simp (disch := first | omega | decide) only [zcn, zkpl, zki, zki1, zk8, zk16, zo32, zlt0, zle0, zeq0, zgt0, zLe0, nI_ltI, nI_leI, nI_eq, nI_add, nI_clamp, vp_in_nI, zup_s, zup_n, upd_s, upd_n, ne_eq, not_true_eq_false, not_false_eq_true]; exact hQ)
        | exact Or.inl rfl
        | exact Or.inr rfl
        | (show (_ : Int32) = 0 ∨ _ = 1; simp (disch := first | omega | decide) only [zcn, zkpl, zki, zki1, zk8, zk16, zo32, zlt0, zle0, zeq0, zgt0, zLe0, nI_ltI, nI_leI, nI_eq, nI_add, nI_clamp, vp_in_nI, zup_s, zup_n, upd_s, upd_n, ne_eq, not_true_eq_false, not_false_eq_true, zeq1, true_or, or_true]; done))
  have f1 : ZW 80 (0, 0, 0, 0) 5 [(0, .ref 9)] [.int (nI 60)] (SH, m) Q := by
    refine zgo 20 [] ?_
    repeat' (first
      | (exact h.use f2)
      | (show vp_in _ _; simp (disch := first | omega | decide) only [zcn, zkpl, zki, zki1, zk8, zk16, zo32, zlt0, zle0, zeq0, zgt0, zLe0, nI_ltI, nI_leI, nI_eq, nI_add, nI_clamp, vp_in_nI, zup_s, zup_n, upd_s, upd_n, ne_eq, not_true_eq_false, not_false_eq_true]; done)
      | (intro hc; exfalso; simp (disch := first | omega | decide) only [zcn, zkpl, zki, zki1, zk8, zk16, zo32, zlt0, zle0, zeq0, zgt0, zLe0, nI_ltI, nI_leI, nI_eq, nI_add, nI_clamp, vp_in_nI, zup_s, zup_n, upd_s, upd_n, ne_eq, not_true_eq_false, not_false_eq_true] at hc <;> omega)
      | (intro hc; exact absurd rfl hc)
      | intro hc
      | apply And.intro
      | exact Or.inl rfl
      | exact Or.inr rfl
      | (show (_ : Int32) = 0 ∨ _ = 1; simp (disch := first | omega | decide) only [zcn, zkpl, zki, zki1, zk8, zk16, zo32, zlt0, zle0, zeq0, zgt0, zLe0, nI_ltI, nI_leI, nI_eq, nI_add, nI_clamp, vp_in_nI, zup_s, zup_n, upd_s, upd_n, ne_eq, not_true_eq_false, not_false_eq_true, zeq1, true_or, or_true]; done))
  refine zgo 20 [] ?_
  repeat' (first
    | (exact hp.use f1)
    | (show vp_in _ _; simp (disch := first | omega | decide) only [zcn, zkpl, zki, zki1, zk8, zk16, zo32, zlt0, zle0, zeq0, zgt0, zLe0, nI_ltI, nI_leI, nI_eq, nI_add, nI_clamp, vp_in_nI, zup_s, zup_n, upd_s, upd_n, ne_eq, not_true_eq_false, not_false_eq_true]; done)
    | (intro hc; exfalso; simp (disch := first | omega | decide) only [zcn, zkpl, zki, zki1, zk8, zk16, zo32, zlt0, zle0, zeq0, zgt0, zLe0, nI_ltI, nI_leI, nI_eq, nI_add, nI_clamp, vp_in_nI, zup_s, zup_n, upd_s, upd_n, ne_eq, not_true_eq_false, not_false_eq_true] at hc <;> omega)
    | (intro hc; exact absurd rfl hc)
    | intro hc
    | apply And.intro
    | exact Or.inl rfl
    | exact Or.inr rfl
    | (show (_ : Int32) = 0 ∨ _ = 1; simp (disch := first | omega | decide) only [zcn, zkpl, zki, zki1, zk8, zk16, zo32, zlt0, zle0, zeq0, zgt0, zLe0, nI_ltI, nI_leI, nI_eq, nI_add, nI_clamp, vp_in_nI, zup_s, zup_n, upd_s, upd_n, ne_eq, not_true_eq_false, not_false_eq_true, zeq1, true_or, or_true]; done))
theorem c_80_86 {w : Nat → Nat} {wl a : Nat} {m m' : zM} {b : Int32} (hb1 : b = 0 ∨ b = 1) (ho : okT w wl) (hx : tX w wl m a) (ha : a < wl) (hc1 : w a = 38) (h : Ev 86 [.ref 9] m (some (.int b)) m') : Ev 80 [.ref 9] m (some (.int b)) m' := by
  intro Q hQ
  have hl := ho.1
  have hp := ev_peek ho hx 0 rfl (by omega) (by omega)
  rw [Nat.add_zero, pe_w ha, hc1] at hp
  have f2 : ZW 80 (0, 0, 0, 0) 27 [(1, .int (nI 38)), (0, .ref 9)] [.int b] (SH, m') Q := by
    rcases hb1 with rfl | rfl
    · refine zgo 20 [] ?_
      repeat' (first
        | (show vp_in _ _; simp (disch := first | omega | decide) only [zcn, zkpl, zki, zki1, zk8, zk16, zo32, zlt0, zle0, zeq0, zgt0, zLe0, nI_ltI, nI_leI, nI_eq, nI_add, nI_clamp, vp_in_nI, zup_s, zup_n, upd_s, upd_n, ne_eq, not_true_eq_false, not_false_eq_true]; done)
        | (intro hc; exfalso; simp (disch := first | omega | decide) only [zcn, zkpl, zki, zki1, zk8, zk16, zo32, zlt0, zle0, zeq0, zgt0, zLe0, nI_ltI, nI_leI, nI_eq, nI_add, nI_clamp, vp_in_nI, zup_s, zup_n, upd_s, upd_n, ne_eq, not_true_eq_false, not_false_eq_true] at hc <;> omega)
        | (intro hc; exact absurd rfl hc)
        | intro hc
        | apply And.intro
        | exact hQ
        | (show Q _ (SH, _); simp (disch := first | omega | decide) only [zcn, zkpl, zki, zki1, zk8, zk16, zo32, zlt0, zle0, zeq0, zgt0, zLe0, nI_ltI, nI_leI, nI_eq, nI_add, nI_clamp, vp_in_nI, zup_s, zup_n, upd_s, upd_n, ne_eq, not_true_eq_false, not_false_eq_true]; exact hQ)
        | exact Or.inl rfl
        | exact Or.inr rfl
        | (show (_ : Int32) = 0 ∨ _ = 1; simp (disch := first | omega | decide) only [zcn, zkpl, zki, zki1, zk8, zk16, zo32, zlt0, zle0, zeq0, zgt0, zLe0, nI_ltI, nI_leI, nI_eq, nI_add, nI_clamp, vp_in_nI, zup_s, zup_n, upd_s, upd_n, ne_eq, not_true_eq_false, not_false_eq_true, zeq1, true_or, or_true]; done))
    · refine zgo 20 [] ?_
      repeat' (first
        | (show vp_in _ _; simp (disch := first | omega | decide) only [zcn, zkpl, zki, zki1, zk8, zk16, zo32, zlt0, zle0, zeq0, zgt0, zLe0, nI_ltI, nI_leI, nI_eq, nI_add, nI_clamp, vp_in_nI, zup_s, zup_n, upd_s, upd_n, ne_eq, not_true_eq_false, not_false_eq_true]; done)
        | (intro hc; exfalso; simp (disch := first | omega | decide) only [zcn, zkpl, zki, zki1, zk8, zk16, zo32, zlt0, zle0, zeq0, zgt0, zLe0, nI_ltI, nI_leI, nI_eq, nI_add, nI_clamp, vp_in_nI, zup_s, zup_n, upd_s, upd_n, ne_eq, not_true_eq_false, not_false_eq_true] at hc <;> omega)
        | (intro hc; exact absurd rfl hc)
        | intro hc
        | apply And.intro
        | exact hQ
        | (show Q _ (SH, _); simp (disch := first | omega | decide) only [zcn, zkpl, zki, zki1, zk8, zk16, zo32, zlt0, zle0, zeq0, zgt0, zLe0, nI_ltI, nI_leI, nI_eq, nI_add, nI_clamp, vp_in_nI, zup_s, zup_n, upd_s, upd_n, ne_eq, not_true_eq_false, not_false_eq_true]; exact hQ)
        | exact Or.inl rfl
        | exact Or.inr rfl
        | (show (_ : Int32) = 0 ∨ _ = 1; simp (disch := first | omega | decide) only [zcn, zkpl, zki, zki1, zk8, zk16, zo32, zlt0, zle0, zeq0, zgt0, zLe0, nI_ltI, nI_leI, nI_eq, nI_add, nI_clamp, vp_in_nI, zup_s, zup_n, upd_s, upd_n, ne_eq, not_true_eq_false, not_false_eq_true, zeq1, true_or, or_true]; done))
  have f1 : ZW 80 (0, 0, 0, 0) 5 [(0, .ref 9)] [.int (nI 38)] (SH, m) Q := by
    refine zgo 20 [] ?_
    repeat' (first
      | (exact h.use f2)
      | (show vp_in _ _; simp (disch := first | omega | decide) only [zcn, zkpl, zki, zki1, zk8, zk16, zo32, zlt0, zle0, zeq0, zgt0, zLe0, nI_ltI, nI_leI, nI_eq, nI_add, nI_clamp, vp_in_nI, zup_s, zup_n, upd_s, upd_n, ne_eq, not_true_eq_false, not_false_eq_true]; done)
      | (intro hc; exfalso; simp (disch := first | omega | decide) only [zcn, zkpl, zki, zki1, zk8, zk16, zo32, zlt0, zle0, zeq0, zgt0, zLe0, nI_ltI, nI_leI, nI_eq, nI_add, nI_clamp, vp_in_nI, zup_s, zup_n, upd_s, upd_n, ne_eq, not_true_eq_false, not_false_eq_true] at hc <;> omega)
      | (intro hc; exact absurd rfl hc)
      | intro hc
      | apply And.intro
      | exact Or.inl rfl
      | exact Or.inr rfl
      | (show (_ : Int32) = 0 ∨ _ = 1; simp (disch := first | omega | decide) only [zcn, zkpl, zki, zki1, zk8, zk16, zo32, zlt0, zle0, zeq0, zgt0, zLe0, nI_ltI, nI_leI, nI_eq, nI_add, nI_clamp, vp_in_nI, zup_s, zup_n, upd_s, upd_n, ne_eq, not_true_eq_false, not_false_eq_true, zeq1, true_or, or_true]; done))
  refine zgo 20 [] ?_
  repeat' (first
    | (exact hp.use f1)
    | (show vp_in _ _; simp (disch := first | omega | decide) only [zcn, zkpl, zki, zki1, zk8, zk16, zo32, zlt0, zle0, zeq0, zgt0, zLe0, nI_ltI, nI_leI, nI_eq, nI_add, nI_clamp, vp_in_nI, zup_s, zup_n, upd_s, upd_n, ne_eq, not_true_eq_false, not_false_eq_true]; done)
    | (intro hc; exfalso; simp (disch := first | omega | decide) only [zcn, zkpl, zki, zki1, zk8, zk16, zo32, zlt0, zle0, zeq0, zgt0, zLe0, nI_ltI, nI_leI, nI_eq, nI_add, nI_clamp, vp_in_nI, zup_s, zup_n, upd_s, upd_n, ne_eq, not_true_eq_false, not_false_eq_true] at hc <;> omega)
    | (intro hc; exact absurd rfl hc)
    | intro hc
    | apply And.intro
    | exact Or.inl rfl
    | exact Or.inr rfl
    | (show (_ : Int32) = 0 ∨ _ = 1; simp (disch := first | omega | decide) only [zcn, zkpl, zki, zki1, zk8, zk16, zo32, zlt0, zle0, zeq0, zgt0, zLe0, nI_ltI, nI_leI, nI_eq, nI_add, nI_clamp, vp_in_nI, zup_s, zup_n, upd_s, upd_n, ne_eq, not_true_eq_false, not_false_eq_true, zeq1, true_or, or_true]; done))
theorem c_81 {w : Nat → Nat} {wl a : Nat} {m m' : zM} {b : Int32} (hb1 : b = 0 ∨ b = 1) (ho : okT w wl) (hx : tX w wl m a) (ha : a < wl) (h : (pe w wl (a + 1) = 33 ∧ Ev 82 [.ref 9] m (some (.int b)) m') ∨ (pe w wl (a + 1) = 47 ∧ Ev 84 [.ref 9] m (some (.int b)) m') ∨ (pe w wl (a + 1) ≠ 33 ∧ pe w wl (a + 1) ≠ 47 ∧ Ev 83 [.ref 9] m (some (.int b)) m')) : Ev 81 [.ref 9] m (some (.int b)) m' := by
  intro Q hQ
  have hl := ho.1
  have hp := ev_peek ho hx 1 rfl (by omega) (by omega)
  have hb := pe_le ho (a + 1)
  have f1 : ZW 81 (0, 0, 0, 0) 5 [(0, .ref 9)] [.int (nI (pe w wl (a + 1)))] (SH, m) Q := by
    rcases h with ⟨h1, h⟩ | ⟨h1, h⟩ | ⟨h1, h2, h⟩
    · have f2 : ZW 81 (0, 0, 0, 0) 36 [(0, .ref 9)] [.int b] (SH, m') Q := by
        rcases hb1 with rfl | rfl
        · refine zgo 20 [] ?_
          repeat' (first
            | (show vp_in _ _; simp (disch := first | omega | decide) only [zcn, zkpl, zki, zki1, zk8, zk16, zo32, zlt0, zle0, zeq0, zgt0, zLe0, nI_ltI, nI_leI, nI_eq, nI_add, nI_clamp, vp_in_nI, zup_s, zup_n, upd_s, upd_n, ne_eq, not_true_eq_false, not_false_eq_true]; done)
            | (intro hc; exfalso; simp (disch := first | omega | decide) only [zcn, zkpl, zki, zki1, zk8, zk16, zo32, zlt0, zle0, zeq0, zgt0, zLe0, nI_ltI, nI_leI, nI_eq, nI_add, nI_clamp, vp_in_nI, zup_s, zup_n, upd_s, upd_n, ne_eq, not_true_eq_false, not_false_eq_true] at hc <;> omega)
            | (intro hc; exact absurd rfl hc)
            | intro hc
            | apply And.intro
            | exact hQ
            | (show Q _ (SH, _); simp (disch := first | omega | decide) only [zcn, zkpl, zki, zki1, zk8, zk16, zo32, zlt0, zle0, zeq0, zgt0, zLe0, nI_ltI, nI_leI, nI_eq, nI_add, nI_clamp, vp_in_nI, zup_s, zup_n, upd_s, upd_n, ne_eq, not_true_eq_false, not_false_eq_true]; exact hQ)
            | exact Or.inl rfl
            | exact Or.inr rfl
            | (show (_ : Int32) = 0 ∨ _ = 1; simp (disch := first | omega | decide) only [zcn, zkpl, zki, zki1, zk8, zk16, zo32, zlt0, zle0, zeq0, zgt0, zLe0, nI_ltI, nI_leI, nI_eq, nI_add, nI_clamp, vp_in_nI, zup_s, zup_n, upd_s, upd_n, ne_eq, not_true_eq_false, not_false_eq_true, zeq1, true_or, or_true]; done))
        · refine zgo 20 [] ?_
          repeat' (first
            | (show vp_in _ _; simp (disch := first | omega | decide) only [zcn, zkpl, zki, zki1, zk8, zk16, zo32, zlt0, zle0, zeq0, zgt0, zLe0, nI_ltI, nI_leI, nI_eq, nI_add, nI_clamp, vp_in_nI, zup_s, zup_n, upd_s, upd_n, ne_eq, not_true_eq_false, not_false_eq_true]; done)
            | (intro hc; exfalso; simp (disch := first | omega | decide) only [zcn, zkpl, zki, zki1, zk8, zk16, zo32, zlt0, zle0, zeq0, zgt0, zLe0, nI_ltI, nI_leI, nI_eq, nI_add, nI_clamp, vp_in_nI, zup_s, zup_n, upd_s, upd_n, ne_eq, not_true_eq_false, not_false_eq_true] at hc <;> omega)
            | (intro hc; exact absurd rfl hc)
            | intro hc
            | apply And.intro
            | exact hQ
            | (show Q _ (SH, _); simp (disch := first | omega | decide) only [zcn, zkpl, zki, zki1, zk8, zk16, zo32, zlt0, zle0, zeq0, zgt0, zLe0, nI_ltI, nI_leI, nI_eq, nI_add, nI_clamp, vp_in_nI, zup_s, zup_n, upd_s, upd_n, ne_eq, not_true_eq_false, not_false_eq_true]; exact hQ)
            | exact Or.inl rfl
            | exact Or.inr rfl
            | (show (_ : Int32) = 0 ∨ _ = 1; simp (disch := first | omega | decide) only [zcn, zkpl, zki, zki1, zk8, zk16, zo32, zlt0, zle0, zeq0, zgt0, zLe0, nI_ltI, nI_leI, nI_eq, nI_add, nI_clamp, vp_in_nI, zup_s, zup_n, upd_s, upd_n, ne_eq, not_true_eq_false, not_false_eq_true, zeq1, true_or, or_true]; done))
      refine zgo 20 [] ?_
      repeat' (first
        | (exact h.use f2)
        | (show vp_in _ _; simp (disch := first | omega | decide) only [zcn, zkpl, zki, zki1, zk8, zk16, zo32, zlt0, zle0, zeq0, zgt0, zLe0, nI_ltI, nI_leI, nI_eq, nI_add, nI_clamp, vp_in_nI, zup_s, zup_n, upd_s, upd_n, ne_eq, not_true_eq_false, not_false_eq_true]; done)
        | (intro hc; exfalso; simp (disch := first | omega | decide) only [zcn, zkpl, zki, zki1, zk8, zk16, zo32, zlt0, zle0, zeq0, zgt0, zLe0, nI_ltI, nI_leI, nI_eq, nI_add, nI_clamp, vp_in_nI, zup_s, zup_n, upd_s, upd_n, ne_eq, not_true_eq_false, not_false_eq_true] at hc <;> omega)
        | (intro hc; exact absurd rfl hc)
        | intro hc
        | apply And.intro
        | exact Or.inl rfl
        | exact Or.inr rfl
        | (show (_ : Int32) = 0 ∨ _ = 1; simp (disch := first | omega | decide) only [zcn, zkpl, zki, zki1, zk8, zk16, zo32, zlt0, zle0, zeq0, zgt0, zLe0, nI_ltI, nI_leI, nI_eq, nI_add, nI_clamp, vp_in_nI, zup_s, zup_n, upd_s, upd_n, ne_eq, not_true_eq_false, not_false_eq_true, zeq1, true_or, or_true]; done))
    · have f2 : ZW 81 (0, 0, 0, 0) 41 [(0, .ref 9)] [.int b] (SH, m') Q := by
        rcases hb1 with rfl | rfl
        · refine zgo 20 [] ?_
          repeat' (first
            | (show vp_in _ _; simp (disch := first | omega | decide) only [zcn, zkpl, zki, zki1, zk8, zk16, zo32, zlt0, zle0, zeq0, zgt0, zLe0, nI_ltI, nI_leI, nI_eq, nI_add, nI_clamp, vp_in_nI, zup_s, zup_n, upd_s, upd_n, ne_eq, not_true_eq_false, not_false_eq_true]; done)
            | (intro hc; exfalso; simp (disch := first | omega | decide) only [zcn, zkpl, zki, zki1, zk8, zk16, zo32, zlt0, zle0, zeq0, zgt0, zLe0, nI_ltI, nI_leI, nI_eq, nI_add, nI_clamp, vp_in_nI, zup_s, zup_n, upd_s, upd_n, ne_eq, not_true_eq_false, not_false_eq_true] at hc <;> omega)
            | (intro hc; exact absurd rfl hc)
            | intro hc
            | apply And.intro
            | exact hQ
            | (show Q _ (SH, _); simp (disch := first | omega | decide) only [zcn, zkpl, zki, zki1, zk8, zk16, zo32, zlt0, zle0, zeq0, zgt0, zLe0, nI_ltI, nI_leI, nI_eq, nI_add, nI_clamp, vp_in_nI, zup_s, zup_n, upd_s, upd_n, ne_eq, not_true_eq_false, not_false_eq_true]; exact hQ)
            | exact Or.inl rfl
            | exact Or.inr rfl
            | (show (_ : Int32) = 0 ∨ _ = 1; simp (disch := first | omega | decide) only [zcn, zkpl, zki, zki1, zk8, zk16, zo32, zlt0, zle0, zeq0, zgt0, zLe0, nI_ltI, nI_leI, nI_eq, nI_add, nI_clamp, vp_in_nI, zup_s, zup_n, upd_s, upd_n, ne_eq, not_true_eq_false, not_false_eq_true, zeq1, true_or, or_true]; done))
        · refine zgo 20 [] ?_
          repeat' (first
            | (show vp_in _ _; simp (disch := first | omega | decide) only [zcn, zkpl, zki, zki1, zk8, zk16, zo32, zlt0, zle0, zeq0, zgt0, zLe0, nI_ltI, nI_leI, nI_eq, nI_add, nI_clamp, vp_in_nI, zup_s, zup_n, upd_s, upd_n, ne_eq, not_true_eq_false, not_false_eq_true]; done)
            | (intro hc; exfalso; simp (disch := first | omega | decide) only [zcn, zkpl, zki, zki1, zk8, zk16, zo32, zlt0, zle0, zeq0, zgt0, zLe0, nI_ltI, nI_leI, nI_eq, nI_add, nI_clamp, vp_in_nI, zup_s, zup_n, upd_s, upd_n, ne_eq, not_true_eq_false, not_false_eq_true] at hc <;> omega)
            | (intro hc; exact absurd rfl hc)
            | intro hc
            | apply And.intro
            | exact hQ
            | (show Q _ (SH, _); simp (disch := first | omega | decide) only [zcn, zkpl, zki, zki1, zk8, zk16, zo32, zlt0, zle0, zeq0, zgt0, zLe0, nI_ltI, nI_leI, nI_eq, nI_add, nI_clamp, vp_in_nI, zup_s, zup_n, upd_s, upd_n, ne_eq, not_true_eq_false, not_false_eq_true]; exact hQ)
            | exact Or.inl rfl
            | exact Or.inr rfl
            | (show (_ : Int32) = 0 ∨ _ = 1; simp (disch := first | omega | decide) only [zcn, zkpl, zki, zki1, zk8, zk16, zo32, zlt0, zle0, zeq0, zgt0, zLe0, nI_ltI, nI_leI, nI_eq, nI_add, nI_clamp, vp_in_nI, zup_s, zup_n, upd_s, upd_n, ne_eq, not_true_eq_false, not_false_eq_true, zeq1, true_or, or_true]; done))
      refine zgo 20 [] ?_
      repeat' (first
        | (exact h.use f2)
        | (show vp_in _ _; simp (disch := first | omega | decide) only [zcn, zkpl, zki, zki1, zk8, zk16, zo32, zlt0, zle0, zeq0, zgt0, zLe0, nI_ltI, nI_leI, nI_eq, nI_add, nI_clamp, vp_in_nI, zup_s, zup_n, upd_s, upd_n, ne_eq, not_true_eq_false, not_false_eq_true]; done)
        | (intro hc; exfalso; simp (disch := first | omega | decide) only [zcn, zkpl, zki, zki1, zk8, zk16, zo32, zlt0, zle0, zeq0, zgt0, zLe0, nI_ltI, nI_leI, nI_eq, nI_add, nI_clamp, vp_in_nI, zup_s, zup_n, upd_s, upd_n, ne_eq, not_true_eq_false, not_false_eq_true] at hc <;> omega)
        | (intro hc; exact absurd rfl hc)
        | intro hc
        | apply And.intro
        | exact Or.inl rfl
        | exact Or.inr rfl
        | (show (_ : Int32) = 0 ∨ _ = 1; simp (disch := first | omega | decide) only [zcn, zkpl, zki, zki1, zk8, zk16, zo32, zlt0, zle0, zeq0, zgt0, zLe0, nI_ltI, nI_leI, nI_eq, nI_add, nI_clamp, vp_in_nI, zup_s, zup_n, upd_s, upd_n, ne_eq, not_true_eq_false, not_false_eq_true, zeq1, true_or, or_true]; done))
    · have f2 : ZW 81 (0, 0, 0, 0) 46 [(0, .ref 9)] [.int b] (SH, m') Q := by
        rcases hb1 with rfl | rfl
        · refine zgo 20 [] ?_
          repeat' (first
            | (show vp_in _ _; simp (disch := first | omega | decide) only [zcn, zkpl, zki, zki1, zk8, zk16, zo32, zlt0, zle0, zeq0, zgt0, zLe0, nI_ltI, nI_leI, nI_eq, nI_add, nI_clamp, vp_in_nI, zup_s, zup_n, upd_s, upd_n, ne_eq, not_true_eq_false, not_false_eq_true]; done)
            | (intro hc; exfalso; simp (disch := first | omega | decide) only [zcn, zkpl, zki, zki1, zk8, zk16, zo32, zlt0, zle0, zeq0, zgt0, zLe0, nI_ltI, nI_leI, nI_eq, nI_add, nI_clamp, vp_in_nI, zup_s, zup_n, upd_s, upd_n, ne_eq, not_true_eq_false, not_false_eq_true] at hc <;> omega)
            | (intro hc; exact absurd rfl hc)
            | intro hc
            | apply And.intro
            | exact hQ
            | (show Q _ (SH, _); simp (disch := first | omega | decide) only [zcn, zkpl, zki, zki1, zk8, zk16, zo32, zlt0, zle0, zeq0, zgt0, zLe0, nI_ltI, nI_leI, nI_eq, nI_add, nI_clamp, vp_in_nI, zup_s, zup_n, upd_s, upd_n, ne_eq, not_true_eq_false, not_false_eq_true]; exact hQ)
            | exact Or.inl rfl
            | exact Or.inr rfl
            | (show (_ : Int32) = 0 ∨ _ = 1; simp (disch := first | omega | decide) only [zcn, zkpl, zki, zki1, zk8, zk16, zo32, zlt0, zle0, zeq0, zgt0, zLe0, nI_ltI, nI_leI, nI_eq, nI_add, nI_clamp, vp_in_nI, zup_s, zup_n, upd_s, upd_n, ne_eq, not_true_eq_false, not_false_eq_true, zeq1, true_or, or_true]; done))
        · refine zgo 20 [] ?_
          repeat' (first
            | (show vp_in _ _; simp (disch := first | omega | decide) only [zcn, zkpl, zki, zki1, zk8, zk16, zo32, zlt0, zle0, zeq0, zgt0, zLe0, nI_ltI, nI_leI, nI_eq, nI_add, nI_clamp, vp_in_nI, zup_s, zup_n, upd_s, upd_n, ne_eq, not_true_eq_false, not_false_eq_true]; done)
            | (intro hc; exfalso; simp (disch := first | omega | decide) only [zcn, zkpl, zki, zki1, zk8, zk16, zo32, zlt0, zle0, zeq0, zgt0, zLe0, nI_ltI, nI_leI, nI_eq, nI_add, nI_clamp, vp_in_nI, zup_s, zup_n, upd_s, upd_n, ne_eq, not_true_eq_false, not_false_eq_true] at hc <;> omega)
            | (intro hc; exact absurd rfl hc)
            | intro hc
            | apply And.intro
            | exact hQ
            | (show Q _ (SH, _); simp (disch := first | omega | decide) only [zcn, zkpl, zki, zki1, zk8, zk16, zo32, zlt0, zle0, zeq0, zgt0, zLe0, nI_ltI, nI_leI, nI_eq, nI_add, nI_clamp, vp_in_nI, zup_s, zup_n, upd_s, upd_n, ne_eq, not_true_eq_false, not_false_eq_true]; exact hQ)
            | exact Or.inl rfl
            | exact Or.inr rfl
            | (show (_ : Int32) = 0 ∨ _ = 1; simp (disch := first | omega | decide) only [zcn, zkpl, zki, zki1, zk8, zk16, zo32, zlt0, zle0, zeq0, zgt0, zLe0, nI_ltI, nI_leI, nI_eq, nI_add, nI_clamp, vp_in_nI, zup_s, zup_n, upd_s, upd_n, ne_eq, not_true_eq_false, not_false_eq_true, zeq1, true_or, or_true]; done))
      refine zgo 20 [] ?_
      repeat' (first
        | (exact h.use f2)
        | (show vp_in _ _; simp (disch := first | omega | decide) only [zcn, zkpl, zki, zki1, zk8, zk16, zo32, zlt0, zle0, zeq0, zgt0, zLe0, nI_ltI, nI_leI, nI_eq, nI_add, nI_clamp, vp_in_nI, zup_s, zup_n, upd_s, upd_n, ne_eq, not_true_eq_false, not_false_eq_true]; done)
        | (intro hc; exfalso; simp (disch := first | omega | decide) only [zcn, zkpl, zki, zki1, zk8, zk16, zo32, zlt0, zle0, zeq0, zgt0, zLe0, nI_ltI, nI_leI, nI_eq, nI_add, nI_clamp, vp_in_nI, zup_s, zup_n, upd_s, upd_n, ne_eq, not_true_eq_false, not_false_eq_true] at hc <;> omega)
        | (intro hc; exact absurd rfl hc)
        | intro hc
        | apply And.intro
        | exact Or.inl rfl
        | exact Or.inr rfl
        | (show (_ : Int32) = 0 ∨ _ = 1; simp (disch := first | omega | decide) only [zcn, zkpl, zki, zki1, zk8, zk16, zo32, zlt0, zle0, zeq0, zgt0, zLe0, nI_ltI, nI_leI, nI_eq, nI_add, nI_clamp, vp_in_nI, zup_s, zup_n, upd_s, upd_n, ne_eq, not_true_eq_false, not_false_eq_true, zeq1, true_or, or_true]; done))
  refine zgo 20 [] ?_
  repeat' (first
    | (exact hp.use f1)
    | (show vp_in _ _; simp (disch := first | omega | decide) only [zcn, zkpl, zki, zki1, zk8, zk16, zo32, zlt0, zle0, zeq0, zgt0, zLe0, nI_ltI, nI_leI, nI_eq, nI_add, nI_clamp, vp_in_nI, zup_s, zup_n, upd_s, upd_n, ne_eq, not_true_eq_false, not_false_eq_true]; done)
    | (intro hc; exfalso; simp (disch := first | omega | decide) only [zcn, zkpl, zki, zki1, zk8, zk16, zo32, zlt0, zle0, zeq0, zgt0, zLe0, nI_ltI, nI_leI, nI_eq, nI_add, nI_clamp, vp_in_nI, zup_s, zup_n, upd_s, upd_n, ne_eq, not_true_eq_false, not_false_eq_true] at hc <;> omega)
    | (intro hc; exact absurd rfl hc)
    | intro hc
    | apply And.intro
    | exact Or.inl rfl
    | exact Or.inr rfl
    | (show (_ : Int32) = 0 ∨ _ = 1; simp (disch := first | omega | decide) only [zcn, zkpl, zki, zki1, zk8, zk16, zo32, zlt0, zle0, zeq0, zgt0, zLe0, nI_ltI, nI_leI, nI_eq, nI_add, nI_clamp, vp_in_nI, zup_s, zup_n, upd_s, upd_n, ne_eq, not_true_eq_false, not_false_eq_true, zeq1, true_or, or_true]; done))
theorem c_82_no {w : Nat → Nat} {wl a : Nat} {m : zM} (ho : okT w wl) (hx : tX w wl m a) (ha : a < wl) (h : ¬ (pe w wl (a + 2) = 45 ∧ pe w wl (a + 3) = 45)) : Ev 82 [.ref 9] m (some (.int 0)) m := by
  intro Q hQ
  have hl := ho.1
  have hp2 := ev_peek ho hx 2 rfl (by omega) (by omega)
  have hp3 := ev_peek ho hx 3 rfl (by omega) (by omega)
  have hb2 := pe_le ho (a + 2)
  have hb3 := pe_le ho (a + 3)
  have f2 : pe w wl (a + 3) ≠ 45 → ZW 82 (0, 0, 0, 0) 15 [(0, .ref 9)] [.int (nI (pe w wl (a + 3)))] (SH, m) Q := by
    intro e
    refine zgo 20 [] ?_
    repeat' (first
      | (show vp_in _ _; simp (disch := first | omega | decide) only [zcn, zkpl, zki, zki1, zk8, zk16, zo32, zlt0, zle0, zeq0, zgt0, zLe0, nI_ltI, nI_leI, nI_eq, nI_add, nI_clamp, vp_in_nI, zup_s, zup_n, upd_s, upd_n, ne_eq, not_true_eq_false, not_false_eq_true]; done)
      | (intro hc; exfalso; simp (disch := first | omega | decide) only [zcn, zkpl, zki, zki1, zk8, zk16, zo32, zlt0, zle0, zeq0, zgt0, zLe0, nI_ltI, nI_leI, nI_eq, nI_add, nI_clamp, vp_in_nI, zup_s, zup_n, upd_s, upd_n, ne_eq, not_true_eq_false, not_false_eq_true] at hc <;> omega)
      | (intro hc; exact absurd rfl hc)
      | intro hc
      | apply And.intro
      | exact hQ
      | (show Q _ (SH, _); simp (disch := first | omega | decide) only [zcn, zkpl, zki, zki1, zk8, zk16, zo32, zlt0, zle0, zeq0, zgt0, zLe0, nI_ltI, nI_leI, nI_eq, nI_add, nI_clamp, vp_in_nI, zup_s, zup_n, upd_s, upd_n, ne_eq, not_true_eq_false, not_false_eq_true]; exact hQ)
      | exact Or.inl rfl
      | exact Or.inr rfl
      | (show (_ : Int32) = 0 ∨ _ = 1; simp (disch := first | omega | decide) only [zcn, zkpl, zki, zki1, zk8, zk16, zo32, zlt0, zle0, zeq0, zgt0, zLe0, nI_ltI, nI_leI, nI_eq, nI_add, nI_clamp, vp_in_nI, zup_s, zup_n, upd_s, upd_n, ne_eq, not_true_eq_false, not_false_eq_true, zeq1, true_or, or_true]; done))
  have f1 : ZW 82 (0, 0, 0, 0) 5 [(0, .ref 9)] [.int (nI (pe w wl (a + 2)))] (SH, m) Q := by
    by_cases e : pe w wl (a + 2) = 45
    · refine zgo 20 [] ?_
      repeat' (first
        | (exact hp3.use (f2 (fun e2 => h ⟨e, e2⟩)))
        | (show vp_in _ _; simp (disch := first | omega | decide) only [zcn, zkpl, zki, zki1, zk8, zk16, zo32, zlt0, zle0, zeq0, zgt0, zLe0, nI_ltI, nI_leI, nI_eq, nI_add, nI_clamp, vp_in_nI, zup_s, zup_n, upd_s, upd_n, ne_eq, not_true_eq_false, not_false_eq_true]; done)
        | (intro hc; exfalso; simp (disch := first | omega | decide) only [zcn, zkpl, zki, zki1, zk8, zk16, zo32, zlt0, zle0, zeq0, zgt0, zLe0, nI_ltI, nI_leI, nI_eq, nI_add, nI_clamp, vp_in_nI, zup_s, zup_n, upd_s, upd_n, ne_eq, not_true_eq_false, not_false_eq_true] at hc <;> omega)
        | (intro hc; exact absurd rfl hc)
        | intro hc
        | apply And.intro
        | exact Or.inl rfl
        | exact Or.inr rfl
        | (show (_ : Int32) = 0 ∨ _ = 1; simp (disch := first | omega | decide) only [zcn, zkpl, zki, zki1, zk8, zk16, zo32, zlt0, zle0, zeq0, zgt0, zLe0, nI_ltI, nI_leI, nI_eq, nI_add, nI_clamp, vp_in_nI, zup_s, zup_n, upd_s, upd_n, ne_eq, not_true_eq_false, not_false_eq_true, zeq1, true_or, or_true]; done))
    · refine zgo 20 [] ?_
      repeat' (first
        | (show vp_in _ _; simp (disch := first | omega | decide) only [zcn, zkpl, zki, zki1, zk8, zk16, zo32, zlt0, zle0, zeq0, zgt0, zLe0, nI_ltI, nI_leI, nI_eq, nI_add, nI_clamp, vp_in_nI, zup_s, zup_n, upd_s, upd_n, ne_eq, not_true_eq_false, not_false_eq_true]; done)
        | (intro hc; exfalso; simp (disch := first | omega | decide) only [zcn, zkpl, zki, zki1, zk8, zk16, zo32, zlt0, zle0, zeq0, zgt0, zLe0, nI_ltI, nI_leI, nI_eq, nI_add, nI_clamp, vp_in_nI, zup_s, zup_n, upd_s, upd_n, ne_eq, not_true_eq_false, not_false_eq_true] at hc <;> omega)
        | (intro hc; exact absurd rfl hc)
        | intro hc
        | apply And.intro
        | exact hQ
        | (show Q _ (SH, _); simp (disch := first | omega | decide) only [zcn, zkpl, zki, zki1, zk8, zk16, zo32, zlt0, zle0, zeq0, zgt0, zLe0, nI_ltI, nI_leI, nI_eq, nI_add, nI_clamp, vp_in_nI, zup_s, zup_n, upd_s, upd_n, ne_eq, not_true_eq_false, not_false_eq_true]; exact hQ)
        | exact Or.inl rfl
        | exact Or.inr rfl
        | (show (_ : Int32) = 0 ∨ _ = 1; simp (disch := first | omega | decide) only [zcn, zkpl, zki, zki1, zk8, zk16, zo32, zlt0, zle0, zeq0, zgt0, zLe0, nI_ltI, nI_leI, nI_eq, nI_add, nI_clamp, vp_in_nI, zup_s, zup_n, upd_s, upd_n, ne_eq, not_true_eq_false, not_false_eq_true, zeq1, true_or, or_true]; done))
  refine zgo 20 [] ?_
  repeat' (first
    | (exact hp2.use f1)
    | (show vp_in _ _; simp (disch := first | omega | decide) only [zcn, zkpl, zki, zki1, zk8, zk16, zo32, zlt0, zle0, zeq0, zgt0, zLe0, nI_ltI, nI_leI, nI_eq, nI_add, nI_clamp, vp_in_nI, zup_s, zup_n, upd_s, upd_n, ne_eq, not_true_eq_false, not_false_eq_true]; done)
    | (intro hc; exfalso; simp (disch := first | omega | decide) only [zcn, zkpl, zki, zki1, zk8, zk16, zo32, zlt0, zle0, zeq0, zgt0, zLe0, nI_ltI, nI_leI, nI_eq, nI_add, nI_clamp, vp_in_nI, zup_s, zup_n, upd_s, upd_n, ne_eq, not_true_eq_false, not_false_eq_true] at hc <;> omega)
    | (intro hc; exact absurd rfl hc)
    | intro hc
    | apply And.intro
    | exact Or.inl rfl
    | exact Or.inr rfl
    | (show (_ : Int32) = 0 ∨ _ = 1; simp (disch := first | omega | decide) only [zcn, zkpl, zki, zki1, zk8, zk16, zo32, zlt0, zle0, zeq0, zgt0, zLe0, nI_ltI, nI_leI, nI_eq, nI_add, nI_clamp, vp_in_nI, zup_s, zup_n, upd_s, upd_n, ne_eq, not_true_eq_false, not_false_eq_true, zeq1, true_or, or_true]; done))
theorem cm_loop {w : Nat → Nat} {wl : Nat} (ho : okT w wl) (Q : zQ) : ∀ (k b : Nat) (m : zM), tX w wl m b → b ≤ 304 → (∀ j, j < k → b + j < wl ∧ ¬ (pe w wl (b + j) = 45 ∧ pe w wl (b + j + 1) = 45)) → (wl ≤ b + k ∨ (pe w wl (b + k) = 45 ∧ pe w wl (b + k + 1) = 45)) → ZW 82 (0, 0, 0, 0) 76 [(0, .ref 9)] [] (SH, zup m 9 3 (nI (b + k))) Q → ZW 82 (0, 0, 0, 0) 32 [(0, .ref 9)] [] (SH, m) Q := by
  have hl := ho.1
  intro k
  induction k with
  | zero =>
    intro b m hx hb _ he w3
    have h1 := hx.1
    have h3 := hx.2.2
    rw [Nat.add_zero, zup_id h3] at w3
    by_cases e : b < wl
    · have e2 := he.resolve_left (by omega)
      have hp0 := ev_peek ho hx 0 rfl (by omega) (by omega)
      have hp1 := ev_peek ho hx 1 rfl (by omega) (by omega)
      have f2 : ZW 82 (0, 0, 0, 0) 58 [(0, .ref 9)] [.int (nI (pe w wl (b + 1)))] (SH, m) Q := by
        rw [show b + 1 = b + 0 + 1 by omega, e2.2]
        refine zgo 2 [] ?_
        repeat' (first
          | (exact w3)
          | (show vp_in _ _; simp (disch := first | omega | decide) only [zcn, zkpl, zki, zki1, zk8, zk16, zo32, zlt0, zle0, zeq0, zgt0, zLe0, nI_ltI, nI_leI, nI_eq, nI_add, nI_clamp, vp_in_nI, zup_s, zup_n, upd_s, upd_n, ne_eq, not_true_eq_false, not_false_eq_true]; done)
          | (intro hc; exfalso; simp (disch := first | omega | decide) only [zcn, zkpl, zki, zki1, zk8, zk16, zo32, zlt0, zle0, zeq0, zgt0, zLe0, nI_ltI, nI_leI, nI_eq, nI_add, nI_clamp, vp_in_nI, zup_s, zup_n, upd_s, upd_n, ne_eq, not_true_eq_false, not_false_eq_true] at hc <;> omega)
          | (intro hc; exact absurd rfl hc)
          | intro hc
          | apply And.intro
          | exact Or.inl rfl
          | exact Or.inr rfl
          | (show (_ : Int32) = 0 ∨ _ = 1; simp (disch := first | omega | decide) only [zcn, zkpl, zki, zki1, zk8, zk16, zo32, zlt0, zle0, zeq0, zgt0, zLe0, nI_ltI, nI_leI, nI_eq, nI_add, nI_clamp, vp_in_nI, zup_s, zup_n, upd_s, upd_n, ne_eq, not_true_eq_false, not_false_eq_true, zeq1, true_or, or_true]; done))
      have f1 : ZW 82 (0, 0, 0, 0) 48 [(0, .ref 9)] [.int (nI (pe w wl (b + 0)))] (SH, m) Q := by
        rw [e2.1]
        refine zgo 20 [] ?_
        repeat' (first
          | (exact hp1.use f2)
          | (show vp_in _ _; simp (disch := first | omega | decide) only [zcn, zkpl, zki, zki1, zk8, zk16, zo32, zlt0, zle0, zeq0, zgt0, zLe0, nI_ltI, nI_leI, nI_eq, nI_add, nI_clamp, vp_in_nI, zup_s, zup_n, upd_s, upd_n, ne_eq, not_true_eq_false, not_false_eq_true]; done)
          | (intro hc; exfalso; simp (disch := first | omega | decide) only [zcn, zkpl, zki, zki1, zk8, zk16, zo32, zlt0, zle0, zeq0, zgt0, zLe0, nI_ltI, nI_leI, nI_eq, nI_add, nI_clamp, vp_in_nI, zup_s, zup_n, upd_s, upd_n, ne_eq, not_true_eq_false, not_false_eq_true] at hc <;> omega)
          | (intro hc; exact absurd rfl hc)
          | intro hc
          | apply And.intro
          | exact Or.inl rfl
          | exact Or.inr rfl
          | (show (_ : Int32) = 0 ∨ _ = 1; simp (disch := first | omega | decide) only [zcn, zkpl, zki, zki1, zk8, zk16, zo32, zlt0, zle0, zeq0, zgt0, zLe0, nI_ltI, nI_leI, nI_eq, nI_add, nI_clamp, vp_in_nI, zup_s, zup_n, upd_s, upd_n, ne_eq, not_true_eq_false, not_false_eq_true, zeq1, true_or, or_true]; done))
      refine zgo 20 [] ?_
      repeat' (first
        | (exact hp0.use f1)
        | (show vp_in _ _; simp (disch := first | omega | decide) only [h1, h3, zcn, zkpl, zki, zki1, zk8, zk16, zo32, zlt0, zle0, zeq0, zgt0, zLe0, nI_ltI, nI_leI, nI_eq, nI_add, nI_clamp, vp_in_nI, zup_s, zup_n, upd_s, upd_n, ne_eq, not_true_eq_false, not_false_eq_true]; done)
        | (intro hc; exfalso; simp (disch := first | omega | decide) only [h1, h3, zcn, zkpl, zki, zki1, zk8, zk16, zo32, zlt0, zle0, zeq0, zgt0, zLe0, nI_ltI, nI_leI, nI_eq, nI_add, nI_clamp, vp_in_nI, zup_s, zup_n, upd_s, upd_n, ne_eq, not_true_eq_false, not_false_eq_true] at hc <;> omega)
        | (intro hc; exact absurd rfl hc)
        | intro hc
        | apply And.intro
        | exact Or.inl rfl
        | exact Or.inr rfl
        | (show (_ : Int32) = 0 ∨ _ = 1; simp (disch := first | omega | decide) only [h1, h3, zcn, zkpl, zki, zki1, zk8, zk16, zo32, zlt0, zle0, zeq0, zgt0, zLe0, nI_ltI, nI_leI, nI_eq, nI_add, nI_clamp, vp_in_nI, zup_s, zup_n, upd_s, upd_n, ne_eq, not_true_eq_false, not_false_eq_true, zeq1, true_or, or_true]; done))
    · refine zgo 5 [] ?_
      repeat' (first
        | (exact w3)
        | (show vp_in _ _; simp (disch := first | omega | decide) only [h1, h3, zcn, zkpl, zki, zki1, zk8, zk16, zo32, zlt0, zle0, zeq0, zgt0, zLe0, nI_ltI, nI_leI, nI_eq, nI_add, nI_clamp, vp_in_nI, zup_s, zup_n, upd_s, upd_n, ne_eq, not_true_eq_false, not_false_eq_true]; done)
        | (intro hc; exfalso; simp (disch := first | omega | decide) only [h1, h3, zcn, zkpl, zki, zki1, zk8, zk16, zo32, zlt0, zle0, zeq0, zgt0, zLe0, nI_ltI, nI_leI, nI_eq, nI_add, nI_clamp, vp_in_nI, zup_s, zup_n, upd_s, upd_n, ne_eq, not_true_eq_false, not_false_eq_true] at hc <;> omega)
        | (intro hc; exact absurd rfl hc)
        | intro hc
        | apply And.intro
        | exact Or.inl rfl
        | exact Or.inr rfl
        | (show (_ : Int32) = 0 ∨ _ = 1; simp (disch := first | omega | decide) only [h1, h3, zcn, zkpl, zki, zki1, zk8, zk16, zo32, zlt0, zle0, zeq0, zgt0, zLe0, nI_ltI, nI_leI, nI_eq, nI_add, nI_clamp, vp_in_nI, zup_s, zup_n, upd_s, upd_n, ne_eq, not_true_eq_false, not_false_eq_true, zeq1, true_or, or_true]; done))
  | succ k ih =>
    intro b m hx hb hj he w2
    have h1 := hx.1
    have h3 := hx.2.2
    obtain ⟨e, e2⟩ := hj 0 (by omega)
    have w3 := ih (b + 1) _ (hx.mv (b + 1)) (by omega) (fun j g => by rw [show b + 1 + j = b + (j + 1) by omega]; exact hj _ (by omega)) (by rw [show b + 1 + k = b + (k + 1) by omega]; exact he) (by rw [zup2, show b + 1 + k = b + (k + 1) by omega]; exact w2)
    have e1 := ev_tinc hx
    have hp0 := ev_peek ho hx 0 rfl (by omega) (by omega)
    have hp1 := ev_peek ho hx 1 rfl (by omega) (by omega)
    have hb0 := pe_le ho (b + 0)
    have hb1 := pe_le ho (b + 1)
    have f2 : pe w wl (b + 1) ≠ 45 → ZW 82 (0, 0, 0, 0) 58 [(0, .ref 9)] [.int (nI (pe w wl (b + 1)))] (SH, m) Q := by
      intro e4
      refine zgo 20 [] ?_
      repeat' (first
        | (exact zcg (by rw [← e1]) w3)
        | (show vp_in _ _; simp (disch := first | omega | decide) only [zcn, zkpl, zki, zki1, zk8, zk16, zo32, zlt0, zle0, zeq0, zgt0, zLe0, nI_ltI, nI_leI, nI_eq, nI_add, nI_clamp, vp_in_nI, zup_s, zup_n, upd_s, upd_n, ne_eq, not_true_eq_false, not_false_eq_true]; done)
        | (intro hc; exfalso; simp (disch := first | omega | decide) only [zcn, zkpl, zki, zki1, zk8, zk16, zo32, zlt0, zle0, zeq0, zgt0, zLe0, nI_ltI, nI_leI, nI_eq, nI_add, nI_clamp, vp_in_nI, zup_s, zup_n, upd_s, upd_n, ne_eq, not_true_eq_false, not_false_eq_true] at hc <;> omega)
        | (intro hc; exact absurd rfl hc)
        | intro hc
        | apply And.intro
        | exact Or.inl rfl
        | exact Or.inr rfl
        | (show (_ : Int32) = 0 ∨ _ = 1; simp (disch := first | omega | decide) only [zcn, zkpl, zki, zki1, zk8, zk16, zo32, zlt0, zle0, zeq0, zgt0, zLe0, nI_ltI, nI_leI, nI_eq, nI_add, nI_clamp, vp_in_nI, zup_s, zup_n, upd_s, upd_n, ne_eq, not_true_eq_false, not_false_eq_true, zeq1, true_or, or_true]; done))
    have f1 : ZW 82 (0, 0, 0, 0) 48 [(0, .ref 9)] [.int (nI (pe w wl (b + 0)))] (SH, m) Q := by
      by_cases e3 : pe w wl (b + 0) = 45
      · refine zgo 20 [] ?_
        repeat' (first
          | (exact hp1.use (f2 (fun e4 => e2 ⟨e3, e4⟩)))
          | (show vp_in _ _; simp (disch := first | omega | decide) only [zcn, zkpl, zki, zki1, zk8, zk16, zo32, zlt0, zle0, zeq0, zgt0, zLe0, nI_ltI, nI_leI, nI_eq, nI_add, nI_clamp, vp_in_nI, zup_s, zup_n, upd_s, upd_n, ne_eq, not_true_eq_false, not_false_eq_true]; done)
          | (intro hc; exfalso; simp (disch := first | omega | decide) only [zcn, zkpl, zki, zki1, zk8, zk16, zo32, zlt0, zle0, zeq0, zgt0, zLe0, nI_ltI, nI_leI, nI_eq, nI_add, nI_clamp, vp_in_nI, zup_s, zup_n, upd_s, upd_n, ne_eq, not_true_eq_false, not_false_eq_true] at hc <;> omega)
          | (intro hc; exact absurd rfl hc)
          | intro hc
          | apply And.intro
          | exact Or.inl rfl
          | exact Or.inr rfl
          | (show (_ : Int32) = 0 ∨ _ = 1; simp (disch := first | omega | decide) only [zcn, zkpl, zki, zki1, zk8, zk16, zo32, zlt0, zle0, zeq0, zgt0, zLe0, nI_ltI, nI_leI, nI_eq, nI_add, nI_clamp, vp_in_nI, zup_s, zup_n, upd_s, upd_n, ne_eq, not_true_eq_false, not_false_eq_true, zeq1, true_or, or_true]; done))
      · refine zgo 20 [] ?_
        repeat' (first
          | (exact zcg (by rw [← e1]) w3)
          | (show vp_in _ _; simp (disch := first | omega | decide) only [zcn, zkpl, zki, zki1, zk8, zk16, zo32, zlt0, zle0, zeq0, zgt0, zLe0, nI_ltI, nI_leI, nI_eq, nI_add, nI_clamp, vp_in_nI, zup_s, zup_n, upd_s, upd_n, ne_eq, not_true_eq_false, not_false_eq_true]; done)
          | (intro hc; exfalso; simp (disch := first | omega | decide) only [zcn, zkpl, zki, zki1, zk8, zk16, zo32, zlt0, zle0, zeq0, zgt0, zLe0, nI_ltI, nI_leI, nI_eq, nI_add, nI_clamp, vp_in_nI, zup_s, zup_n, upd_s, upd_n, ne_eq, not_true_eq_false, not_false_eq_true] at hc <;> omega)
          | (intro hc; exact absurd rfl hc)
          | intro hc
          | apply And.intro
          | exact Or.inl rfl
          | exact Or.inr rfl
          | (show (_ : Int32) = 0 ∨ _ = 1; simp (disch := first | omega | decide) only [zcn, zkpl, zki, zki1, zk8, zk16, zo32, zlt0, zle0, zeq0, zgt0, zLe0, nI_ltI, nI_leI, nI_eq, nI_add, nI_clamp, vp_in_nI, zup_s, zup_n, upd_s, upd_n, ne_eq, not_true_eq_false, not_false_eq_true, zeq1, true_or, or_true]; done))
    refine zgo 20 [] ?_
    repeat' (first
      | (exact hp0.use f1)
      | (show vp_in _ _; simp (disch := first | omega | decide) only [h1, h3, zcn, zkpl, zki, zki1, zk8, zk16, zo32, zlt0, zle0, zeq0, zgt0, zLe0, nI_ltI, nI_leI, nI_eq, nI_add, nI_clamp, vp_in_nI, zup_s, zup_n, upd_s, upd_n, ne_eq, not_true_eq_false, not_false_eq_true]; done)
      | (intro hc; exfalso; simp (disch := first | omega | decide) only [h1, h3, zcn, zkpl, zki, zki1, zk8, zk16, zo32, zlt0, zle0, zeq0, zgt0, zLe0, nI_ltI, nI_leI, nI_eq, nI_add, nI_clamp, vp_in_nI, zup_s, zup_n, upd_s, upd_n, ne_eq, not_true_eq_false, not_false_eq_true] at hc <;> omega)
      | (intro hc; exact absurd rfl hc)
      | intro hc
      | apply And.intro
      | exact Or.inl rfl
      | exact Or.inr rfl
      | (show (_ : Int32) = 0 ∨ _ = 1; simp (disch := first | omega | decide) only [h1, h3, zcn, zkpl, zki, zki1, zk8, zk16, zo32, zlt0, zle0, zeq0, zgt0, zLe0, nI_ltI, nI_leI, nI_eq, nI_add, nI_clamp, vp_in_nI, zup_s, zup_n, upd_s, upd_n, ne_eq, not_true_eq_false, not_false_eq_true, zeq1, true_or, or_true]; done))
theorem cm_ex (w : Nat → Nat) (wl b : Nat) : ∃ k, (∀ j, j < k → b + j < wl ∧ ¬ (pe w wl (b + j) = 45 ∧ pe w wl (b + j + 1) = 45)) ∧ (wl ≤ b + k ∨ (pe w wl (b + k) = 45 ∧ pe w wl (b + k + 1) = 45)) := by
  generalize hn : wl - b = n
  induction n generalizing b with
  | zero => exact ⟨0, fun j hj => absurd hj (by omega), Or.inl (by omega)⟩
  | succ n ih =>
    by_cases e : pe w wl b = 45 ∧ pe w wl (b + 1) = 45
    · exact ⟨0, fun j hj => absurd hj (by omega), Or.inr e⟩
    · obtain ⟨k, h1, h2⟩ := ih (b + 1) (by omega)
      refine ⟨k + 1, fun j hj => ?_, by rw [show b + (k + 1) = b + 1 + k by omega]; exact h2⟩
      rcases Nat.eq_zero_or_pos j with rfl | hj0
      · exact ⟨by omega, e⟩
      · rw [show b + j = b + 1 + (j - 1) by omega]
        exact h1 _ (by omega)
theorem c_82 {w : Nat → Nat} {wl a k : Nat} {m : zM} (ho : okT w wl) (hx : tX w wl m a) (ha : a < wl) (h2 : pe w wl (a + 2) = 45) (h3 : pe w wl (a + 3) = 45) (hk : ∀ j, j < k → a + 4 + j < wl ∧ ¬ (pe w wl (a + 4 + j) = 45 ∧ pe w wl (a + 4 + j + 1) = 45)) (he : wl ≤ a + 4 + k ∨ (pe w wl (a + 4 + k) = 45 ∧ pe w wl (a + 4 + k + 1) = 45)) {b : Int32} (hb : (b = 1 ∧ pe w wl (a + 4 + k + 2) = 62) ∨ (b = 0 ∧ pe w wl (a + 4 + k + 2) ≠ 62)) : Ev 82 [.ref 9] m (some (.int b)) (zup m 9 3 (nI (a + 4 + k + 3))) := by
  have hl := ho.1
  have h3l := pe_in (w := w) (wl := wl) (j := a + 3) (by omega)
  have hkl : a + 4 + k ≤ 303 := by
    rcases Nat.eq_zero_or_pos k with rfl | g
    · omega
    · have := (hk (k - 1) (by omega)).1
      omega
  have hp2 := ev_peek ho hx 2 rfl (by omega) (by omega)
  have hp3 := ev_peek ho hx 3 rfl (by omega) (by omega)
  rw [h2] at hp2
  rw [h3] at hp3
  intro Q hQ
  have g1 := hx.mv (a + 4 + k)
  have hp := ev_peek ho g1 2 rfl (by omega) (by omega)
  have hpl := pe_le ho (a + 4 + k + 2)
  have e93 := g1.2.2
  rw [← zup2 m 9 3 (nI (a + 4 + k))] at hQ
  have f3 : ZW 82 (0, 0, 0, 0) 81 [(0, .ref 9)] [.int (nI (pe w wl (a + 4 + k + 2)))] (SH, zup m 9 3 (nI (a + 4 + k))) Q := by
    generalize zup m 9 3 (nI (a + 4 + k)) = m' at *
    rcases hb with ⟨rfl, hb⟩ | ⟨rfl, hb⟩
    · refine zgo 30 [] ?_
      repeat' (first
        | (show vp_in _ _; simp (disch := first | omega | decide) only [e93, zcn, zkpl, zki, zki1, zk8, zk16, zo32, zlt0, zle0, zeq0, zgt0, zLe0, nI_ltI, nI_leI, nI_eq, nI_add, nI_clamp, vp_in_nI, zup_s, zup_n, upd_s, upd_n, ne_eq, not_true_eq_false, not_false_eq_true]; done)
        | (intro hc; exfalso; simp (disch := first | omega | decide) only [e93, zcn, zkpl, zki, zki1, zk8, zk16, zo32, zlt0, zle0, zeq0, zgt0, zLe0, nI_ltI, nI_leI, nI_eq, nI_add, nI_clamp, vp_in_nI, zup_s, zup_n, upd_s, upd_n, ne_eq, not_true_eq_false, not_false_eq_true] at hc <;> omega)
        | (intro hc; exact absurd rfl hc)
        | intro hc
        | apply And.intro
        | exact hQ
        | (show Q _ (SH, _); simp (disch := first | omega | decide) only [e93, zcn, zkpl, zki, zki1, zk8, zk16, zo32, zlt0, zle0, zeq0, zgt0, zLe0, nI_ltI, nI_leI, nI_eq, nI_add, nI_clamp, vp_in_nI, zup_s, zup_n, upd_s, upd_n, ne_eq, not_true_eq_false, not_false_eq_true]; exact hQ)
        | exact Or.inl rfl
        | exact Or.inr rfl
        | (show (_ : Int32) = 0 ∨ _ = 1; simp (disch := first | omega | decide) only [e93, zcn, zkpl, zki, zki1, zk8, zk16, zo32, zlt0, zle0, zeq0, zgt0, zLe0, nI_ltI, nI_leI, nI_eq, nI_add, nI_clamp, vp_in_nI, zup_s, zup_n, upd_s, upd_n, ne_eq, not_true_eq_false, not_false_eq_true, zeq1, true_or, or_true]; done))
    · refine zgo 30 [] ?_
      repeat' (first
        | (show vp_in _ _; simp (disch := first | omega | decide) only [e93, zcn, zkpl, zki, zki1, zk8, zk16, zo32, zlt0, zle0, zeq0, zgt0, zLe0, nI_ltI, nI_leI, nI_eq, nI_add, nI_clamp, vp_in_nI, zup_s, zup_n, upd_s, upd_n, ne_eq, not_true_eq_false, not_false_eq_true]; done)
        | (intro hc; exfalso; simp (disch := first | omega | decide) only [e93, zcn, zkpl, zki, zki1, zk8, zk16, zo32, zlt0, zle0, zeq0, zgt0, zLe0, nI_ltI, nI_leI, nI_eq, nI_add, nI_clamp, vp_in_nI, zup_s, zup_n, upd_s, upd_n, ne_eq, not_true_eq_false, not_false_eq_true] at hc <;> omega)
        | (intro hc; exact absurd rfl hc)
        | intro hc
        | apply And.intro
        | exact hQ
        | (show Q _ (SH, _); simp (disch := first | omega | decide) only [e93, zcn, zkpl, zki, zki1, zk8, zk16, zo32, zlt0, zle0, zeq0, zgt0, zLe0, nI_ltI, nI_leI, nI_eq, nI_add, nI_clamp, vp_in_nI, zup_s, zup_n, upd_s, upd_n, ne_eq, not_true_eq_false, not_false_eq_true]; exact hQ)
        | exact Or.inl rfl
        | exact Or.inr rfl
        | (show (_ : Int32) = 0 ∨ _ = 1; simp (disch := first | omega | decide) only [e93, zcn, zkpl, zki, zki1, zk8, zk16, zo32, zlt0, zle0, zeq0, zgt0, zLe0, nI_ltI, nI_leI, nI_eq, nI_add, nI_clamp, vp_in_nI, zup_s, zup_n, upd_s, upd_n, ne_eq, not_true_eq_false, not_false_eq_true, zeq1, true_or, or_true]; done))
  have f4 : ZW 82 (0, 0, 0, 0) 76 [(0, .ref 9)] [] (SH, zup m 9 3 (nI (a + 4 + k))) Q := by
    refine zgo 20 [] ?_
    repeat' (first
      | (exact hp.use f3)
      | (show vp_in _ _; simp (disch := first | omega | decide) only [zcn, zkpl, zki, zki1, zk8, zk16, zo32, zlt0, zle0, zeq0, zgt0, zLe0, nI_ltI, nI_leI, nI_eq, nI_add, nI_clamp, vp_in_nI, zup_s, zup_n, upd_s, upd_n, ne_eq, not_true_eq_false, not_false_eq_true]; done)
      | (intro hc; exfalso; simp (disch := first | omega | decide) only [zcn, zkpl, zki, zki1, zk8, zk16, zo32, zlt0, zle0, zeq0, zgt0, zLe0, nI_ltI, nI_leI, nI_eq, nI_add, nI_clamp, vp_in_nI, zup_s, zup_n, upd_s, upd_n, ne_eq, not_true_eq_false, not_false_eq_true] at hc <;> omega)
      | (intro hc; exact absurd rfl hc)
      | intro hc
      | apply And.intro
      | exact Or.inl rfl
      | exact Or.inr rfl
      | (show (_ : Int32) = 0 ∨ _ = 1; simp (disch := first | omega | decide) only [zcn, zkpl, zki, zki1, zk8, zk16, zo32, zlt0, zle0, zeq0, zgt0, zLe0, nI_ltI, nI_leI, nI_eq, nI_add, nI_clamp, vp_in_nI, zup_s, zup_n, upd_s, upd_n, ne_eq, not_true_eq_false, not_false_eq_true, zeq1, true_or, or_true]; done))
  have f5 := cm_loop ho Q k (a + 4) _ (hx.mv (a + 4)) (by omega) hk he (by rw [zup2]; exact f4)
  have h93 := hx.2.2
  have f2 : ZW 82 (0, 0, 0, 0) 15 [(0, .ref 9)] [.int (nI 45)] (SH, m) Q := by
    refine zgo 20 [] ?_
    repeat' (first
      | (exact zcg (by simp (disch := first | omega | decide) only [h93, zcn, zkpl, zki, zki1, zk8, zk16, zo32, zlt0, zle0, zeq0, zgt0, zLe0, nI_ltI, nI_leI, nI_eq, nI_add, nI_clamp, vp_in_nI, zup_s, zup_n, upd_s, upd_n, ne_eq, not_true_eq_false, not_false_eq_true]) f5)
      | (show vp_in _ _; simp (disch := first | omega | decide) only [zcn, zkpl, zki, zki1, zk8, zk16, zo32, zlt0, zle0, zeq0, zgt0, zLe0, nI_ltI, nI_leI, nI_eq, nI_add, nI_clamp, vp_in_nI, zup_s, zup_n, upd_s, upd_n, ne_eq, not_true_eq_false, not_false_eq_true]; done)
      | (intro hc; exfalso; simp (disch := first | omega | decide) only [zcn, zkpl, zki, zki1, zk8, zk16, zo32, zlt0, zle0, zeq0, zgt0, zLe0, nI_ltI, nI_leI, nI_eq, nI_add, nI_clamp, vp_in_nI, zup_s, zup_n, upd_s, upd_n, ne_eq, not_true_eq_false, not_false_eq_true] at hc <;> omega)
      | (intro hc; exact absurd rfl hc)
      | intro hc
      | apply And.intro
      | exact Or.inl rfl
      | exact Or.inr rfl
      | (show (_ : Int32) = 0 ∨ _ = 1; simp (disch := first | omega | decide) only [zcn, zkpl, zki, zki1, zk8, zk16, zo32, zlt0, zle0, zeq0, zgt0, zLe0, nI_ltI, nI_leI, nI_eq, nI_add, nI_clamp, vp_in_nI, zup_s, zup_n, upd_s, upd_n, ne_eq, not_true_eq_false, not_false_eq_true, zeq1, true_or, or_true]; done))
  have f1 : ZW 82 (0, 0, 0, 0) 5 [(0, .ref 9)] [.int (nI 45)] (SH, m) Q := by
    refine zgo 20 [] ?_
    repeat' (first
      | (exact hp3.use f2)
      | (show vp_in _ _; simp (disch := first | omega | decide) only [zcn, zkpl, zki, zki1, zk8, zk16, zo32, zlt0, zle0, zeq0, zgt0, zLe0, nI_ltI, nI_leI, nI_eq, nI_add, nI_clamp, vp_in_nI, zup_s, zup_n, upd_s, upd_n, ne_eq, not_true_eq_false, not_false_eq_true]; done)
      | (intro hc; exfalso; simp (disch := first | omega | decide) only [zcn, zkpl, zki, zki1, zk8, zk16, zo32, zlt0, zle0, zeq0, zgt0, zLe0, nI_ltI, nI_leI, nI_eq, nI_add, nI_clamp, vp_in_nI, zup_s, zup_n, upd_s, upd_n, ne_eq, not_true_eq_false, not_false_eq_true] at hc <;> omega)
      | (intro hc; exact absurd rfl hc)
      | intro hc
      | apply And.intro
      | exact Or.inl rfl
      | exact Or.inr rfl
      | (show (_ : Int32) = 0 ∨ _ = 1; simp (disch := first | omega | decide) only [zcn, zkpl, zki, zki1, zk8, zk16, zo32, zlt0, zle0, zeq0, zgt0, zLe0, nI_ltI, nI_leI, nI_eq, nI_add, nI_clamp, vp_in_nI, zup_s, zup_n, upd_s, upd_n, ne_eq, not_true_eq_false, not_false_eq_true, zeq1, true_or, or_true]; done))
  refine zgo 20 [] ?_
  repeat' (first
    | (exact hp2.use f1)
    | (show vp_in _ _; simp (disch := first | omega | decide) only [zcn, zkpl, zki, zki1, zk8, zk16, zo32, zlt0, zle0, zeq0, zgt0, zLe0, nI_ltI, nI_leI, nI_eq, nI_add, nI_clamp, vp_in_nI, zup_s, zup_n, upd_s, upd_n, ne_eq, not_true_eq_false, not_false_eq_true]; done)
    | (intro hc; exfalso; simp (disch := first | omega | decide) only [zcn, zkpl, zki, zki1, zk8, zk16, zo32, zlt0, zle0, zeq0, zgt0, zLe0, nI_ltI, nI_leI, nI_eq, nI_add, nI_clamp, vp_in_nI, zup_s, zup_n, upd_s, upd_n, ne_eq, not_true_eq_false, not_false_eq_true] at hc <;> omega)
    | (intro hc; exact absurd rfl hc)
    | intro hc
    | apply And.intro
    | exact Or.inl rfl
    | exact Or.inr rfl
    | (show (_ : Int32) = 0 ∨ _ = 1; simp (disch := first | omega | decide) only [zcn, zkpl, zki, zki1, zk8, zk16, zo32, zlt0, zle0, zeq0, zgt0, zLe0, nI_ltI, nI_leI, nI_eq, nI_add, nI_clamp, vp_in_nI, zup_s, zup_n, upd_s, upd_n, ne_eq, not_true_eq_false, not_false_eq_true, zeq1, true_or, or_true]; done))
/-- an end sign that cannot be one -/
theorem c_84_no {w : Nat → Nat} {wl a : Nat} {m : zM} {s : pS} (ho : okT w wl) (hx : tX w wl m a) (hd : tD m s) (hi : sI a s) (ha : a < wl) (h : ∀ d, s 0 3 = d + 1 → s 2 (s 7 d) ≠ pe w wl (a + 2)) : Ev 84 [.ref 9] m (some (.int 0)) m := by
  have hl := ho.1
  have hp := ev_peek ho hx 2 rfl (by omega) (by omega)
  have hpl := pe_le ho (a + 2)
  intro Q hQ
  have f2 : ZW 84 (0, 0, 0, 0) 14 [(1, .int (nI (pe w wl (a + 2)))), (0, .ref 9)] [.int 0] (SH, m) Q := by
    refine zgo 20 [] ?_
    repeat' (first
      | (show vp_in _ _; simp (disch := first | omega | decide) only [zcn, zkpl, zki, zki1, zk8, zk16, zo32, zlt0, zle0, zeq0, zgt0, zLe0, nI_ltI, nI_leI, nI_eq, nI_add, nI_clamp, vp_in_nI, zup_s, zup_n, upd_s, upd_n, ne_eq, not_true_eq_false, not_false_eq_true]; done)
      | (intro hc; exfalso; simp (disch := first | omega | decide) only [zcn, zkpl, zki, zki1, zk8, zk16, zo32, zlt0, zle0, zeq0, zgt0, zLe0, nI_ltI, nI_leI, nI_eq, nI_add, nI_clamp, vp_in_nI, zup_s, zup_n, upd_s, upd_n, ne_eq, not_true_eq_false, not_false_eq_true] at hc <;> omega)
      | (intro hc; exact absurd rfl hc)
      | intro hc
      | apply And.intro
      | exact hQ
      | (show Q _ (SH, _); simp (disch := first | omega | decide) only [zcn, zkpl, zki, zki1, zk8, zk16, zo32, zlt0, zle0, zeq0, zgt0, zLe0, nI_ltI, nI_leI, nI_eq, nI_add, nI_clamp, vp_in_nI, zup_s, zup_n, upd_s, upd_n, ne_eq, not_true_eq_false, not_false_eq_true]; exact hQ)
      | exact Or.inl rfl
      | exact Or.inr rfl
      | (show (_ : Int32) = 0 ∨ _ = 1; simp (disch := first | omega | decide) only [zcn, zkpl, zki, zki1, zk8, zk16, zo32, zlt0, zle0, zeq0, zgt0, zLe0, nI_ltI, nI_leI, nI_eq, nI_add, nI_clamp, vp_in_nI, zup_s, zup_n, upd_s, upd_n, ne_eq, not_true_eq_false, not_false_eq_true, zeq1, true_or, or_true]; done))
  have he : Ev 113 [.ref 1, .int (nI (pe w wl (a + 2)))] m (some (.int 0)) m := by
    cases e : s 0 3 with
    | zero =>
      have h7 := hd.1.2.2
      rw [e] at h7
      exact et_end0 h7
    | succ d =>
      have := et_end (b := 0) hd hi rfl (by have := hi.1; omega) e hpl (Or.inr ⟨rfl, h d e⟩)
      rwa [if_neg (by decide)] at this
  have f1 : ZW 84 (0, 0, 0, 0) 5 [(0, .ref 9)] [.int (nI (pe w wl (a + 2)))] (SH, m) Q := by
    refine zgo 20 [] ?_
    repeat' (first
      | (exact he.use f2)
      | (show vp_in _ _; simp (disch := first | omega | decide) only [zcn, zkpl, zki, zki1, zk8, zk16, zo32, zlt0, zle0, zeq0, zgt0, zLe0, nI_ltI, nI_leI, nI_eq, nI_add, nI_clamp, vp_in_nI, zup_s, zup_n, upd_s, upd_n, ne_eq, not_true_eq_false, not_false_eq_true]; done)
      | (intro hc; exfalso; simp (disch := first | omega | decide) only [zcn, zkpl, zki, zki1, zk8, zk16, zo32, zlt0, zle0, zeq0, zgt0, zLe0, nI_ltI, nI_leI, nI_eq, nI_add, nI_clamp, vp_in_nI, zup_s, zup_n, upd_s, upd_n, ne_eq, not_true_eq_false, not_false_eq_true] at hc <;> omega)
      | (intro hc; exact absurd rfl hc)
      | intro hc
      | apply And.intro
      | exact Or.inl rfl
      | exact Or.inr rfl
      | (show (_ : Int32) = 0 ∨ _ = 1; simp (disch := first | omega | decide) only [zcn, zkpl, zki, zki1, zk8, zk16, zo32, zlt0, zle0, zeq0, zgt0, zLe0, nI_ltI, nI_leI, nI_eq, nI_add, nI_clamp, vp_in_nI, zup_s, zup_n, upd_s, upd_n, ne_eq, not_true_eq_false, not_false_eq_true, zeq1, true_or, or_true]; done))
  refine zgo 20 [] ?_
  repeat' (first
    | (exact hp.use f1)
    | (show vp_in _ _; simp (disch := first | omega | decide) only [zcn, zkpl, zki, zki1, zk8, zk16, zo32, zlt0, zle0, zeq0, zgt0, zLe0, nI_ltI, nI_leI, nI_eq, nI_add, nI_clamp, vp_in_nI, zup_s, zup_n, upd_s, upd_n, ne_eq, not_true_eq_false, not_false_eq_true]; done)
    | (intro hc; exfalso; simp (disch := first | omega | decide) only [zcn, zkpl, zki, zki1, zk8, zk16, zo32, zlt0, zle0, zeq0, zgt0, zLe0, nI_ltI, nI_leI, nI_eq, nI_add, nI_clamp, vp_in_nI, zup_s, zup_n, upd_s, upd_n, ne_eq, not_true_eq_false, not_false_eq_true] at hc <;> omega)
    | (intro hc; exact absurd rfl hc)
    | intro hc
    | apply And.intro
    | exact Or.inl rfl
    | exact Or.inr rfl
    | (show (_ : Int32) = 0 ∨ _ = 1; simp (disch := first | omega | decide) only [zcn, zkpl, zki, zki1, zk8, zk16, zo32, zlt0, zle0, zeq0, zgt0, zLe0, nI_ltI, nI_leI, nI_eq, nI_add, nI_clamp, vp_in_nI, zup_s, zup_n, upd_s, upd_n, ne_eq, not_true_eq_false, not_false_eq_true, zeq1, true_or, or_true]; done))
theorem c_84 {w : Nat → Nat} {wl a d k : Nat} {m : zM} {s : pS} (ho : okT w wl) (hx : tX w wl m a) (hd : tD m s) (hi : sI a s) (ha : a < wl) (h3 : s 0 3 = d + 1) (h : s 2 (s 7 d) = pe w wl (a + 2)) (hk : ∀ j, j < k → pe w wl (a + 3 + j) = 32) (hk2 : pe w wl (a + 3 + k) ≠ 32) (hk3 : a + 3 + k ≤ 305) {b : Int32} (hb : (b = 1 ∧ pe w wl (a + 3 + k) = 62) ∨ (b = 0 ∧ pe w wl (a + 3 + k) ≠ 62)) : ∃ m', Ev 84 [.ref 9] m (some (.int b)) m' ∧ tX w wl m' (a + 3 + k + 1) ∧ tD m' (endS s d) ∧ cF m m' := by
  have hb1 : b = 0 ∨ b = 1 := hb.elim (fun g => Or.inr g.1) (fun g => Or.inl g.1)
  have hl := ho.1
  have hp := ev_peek ho hx 2 rfl (by omega) (by omega)
  have hpl := pe_le ho (a + 2)
  have he := et_end (b := 1) hd hi rfl (by have := hi.1; omega) h3 hpl (Or.inl ⟨rfl, h⟩)
  rw [if_pos rfl] at he
  have hD := tD_end hd h3
  have hX : tX w wl (zup (zup m 5 (s 7 d) (nI (s 0 2))) 1 7 (nI d)) a := hx.cg (by rw [zup_n _ (by decide), zup_n _ (by decide)]) (by rw [zup_n _ (by decide), zup_n _ (by decide)])
  have hF : cF m (zup (zup m 5 (s 7 d) (nI (s 0 2))) 1 7 (nI d)) := fun b hb => by rw [zup_n _ (by omega), zup_n _ (by omega)]
  generalize zup (zup m 5 (s 7 d) (nI (s 0 2))) 1 7 (nI d) = m1 at *
  have hs := ev_skip ho k (a + 3) _ (hX.mv (a + 3)) (by omega) hk hk2
  rw [zup2] at hs
  have hcl := ev_close ho (hX.mv (a + 3 + k)) (by omega) hb
  rw [zup2] at hcl
  refine ⟨_, fun Q hQ => ?_, hX.mv _, tD_at hD _, hF.tr (cF_at _ _)⟩
  have f4 : ZW 84 (0, 0, 0, 0) 37 [(1, .int (nI (pe w wl (a + 2)))), (0, .ref 9)] [.int b] (SH, zup m1 9 3 (nI (a + 3 + k + 1))) Q := by
    rcases hb1 with rfl | rfl
    · refine zgo 20 [] ?_
      repeat' (first
        | (show vp_in _ _; simp (disch := first | omega | decide) only [zcn, zkpl, zki, zki1, zk8, zk16, zo32, zlt0, zle0, zeq0, zgt0, zLe0, nI_ltI, nI_leI, nI_eq, nI_add, nI_clamp, vp_in_nI, zup_s, zup_n, upd_s, upd_n, ne_eq, not_true_eq_false, not_false_eq_true]; done)
        | (intro hc; exfalso; simp (disch := first | omega | decide) only [zcn, zkpl, zki, zki1, zk8, zk16, zo32, zlt0, zle0, zeq0, zgt0, zLe0, nI_ltI, nI_leI, nI_eq, nI_add, nI_clamp, vp_in_nI, zup_s, zup_n, upd_s, upd_n, ne_eq, not_true_eq_false, not_false_eq_true] at hc <;> omega)
        | (intro hc; exact absurd rfl hc)
        | intro hc
        | apply And.intro
        | exact hQ
        | (show Q _ (SH, _); simp (disch := first | omega | decide) only [zcn, zkpl, zki, zki1, zk8, zk16, zo32, zlt0, zle0, zeq0, zgt0, zLe0, nI_ltI, nI_leI, nI_eq, nI_add, nI_clamp, vp_in_nI, zup_s, zup_n, upd_s, upd_n, ne_eq, not_true_eq_false, not_false_eq_true]; exact hQ)
        | exact Or.inl rfl
        | exact Or.inr rfl
        | (show (_ : Int32) = 0 ∨ _ = 1; simp (disch := first | omega | decide) only [zcn, zkpl, zki, zki1, zk8, zk16, zo32, zlt0, zle0, zeq0, zgt0, zLe0, nI_ltI, nI_leI, nI_eq, nI_add, nI_clamp, vp_in_nI, zup_s, zup_n, upd_s, upd_n, ne_eq, not_true_eq_false, not_false_eq_true, zeq1, true_or, or_true]; done))
    · refine zgo 20 [] ?_
      repeat' (first
        | (show vp_in _ _; simp (disch := first | omega | decide) only [zcn, zkpl, zki, zki1, zk8, zk16, zo32, zlt0, zle0, zeq0, zgt0, zLe0, nI_ltI, nI_leI, nI_eq, nI_add, nI_clamp, vp_in_nI, zup_s, zup_n, upd_s, upd_n, ne_eq, not_true_eq_false, not_false_eq_true]; done)
        | (intro hc; exfalso; simp (disch := first | omega | decide) only [zcn, zkpl, zki, zki1, zk8, zk16, zo32, zlt0, zle0, zeq0, zgt0, zLe0, nI_ltI, nI_leI, nI_eq, nI_add, nI_clamp, vp_in_nI, zup_s, zup_n, upd_s, upd_n, ne_eq, not_true_eq_false, not_false_eq_true] at hc <;> omega)
        | (intro hc; exact absurd rfl hc)
        | intro hc
        | apply And.intro
        | exact hQ
        | (show Q _ (SH, _); simp (disch := first | omega | decide) only [zcn, zkpl, zki, zki1, zk8, zk16, zo32, zlt0, zle0, zeq0, zgt0, zLe0, nI_ltI, nI_leI, nI_eq, nI_add, nI_clamp, vp_in_nI, zup_s, zup_n, upd_s, upd_n, ne_eq, not_true_eq_false, not_false_eq_true]; exact hQ)
        | exact Or.inl rfl
        | exact Or.inr rfl
        | (show (_ : Int32) = 0 ∨ _ = 1; simp (disch := first | omega | decide) only [zcn, zkpl, zki, zki1, zk8, zk16, zo32, zlt0, zle0, zeq0, zgt0, zLe0, nI_ltI, nI_leI, nI_eq, nI_add, nI_clamp, vp_in_nI, zup_s, zup_n, upd_s, upd_n, ne_eq, not_true_eq_false, not_false_eq_true, zeq1, true_or, or_true]; done))
  have f3 : ZW 84 (0, 0, 0, 0) 33 [(1, .int (nI (pe w wl (a + 2)))), (0, .ref 9)] [] (SH, zup m1 9 3 (nI (a + 3 + k))) Q := by
    refine zgo 20 [] ?_
    repeat' (first
      | (exact hcl.use f4)
      | (show vp_in _ _; simp (disch := first | omega | decide) only [zcn, zkpl, zki, zki1, zk8, zk16, zo32, zlt0, zle0, zeq0, zgt0, zLe0, nI_ltI, nI_leI, nI_eq, nI_add, nI_clamp, vp_in_nI, zup_s, zup_n, upd_s, upd_n, ne_eq, not_true_eq_false, not_false_eq_true]; done)
      | (intro hc; exfalso; simp (disch := first | omega | decide) only [zcn, zkpl, zki, zki1, zk8, zk16, zo32, zlt0, zle0, zeq0, zgt0, zLe0, nI_ltI, nI_leI, nI_eq, nI_add, nI_clamp, vp_in_nI, zup_s, zup_n, upd_s, upd_n, ne_eq, not_true_eq_false, not_false_eq_true] at hc <;> omega)
      | (intro hc; exact absurd rfl hc)
      | intro hc
      | apply And.intro
      | exact Or.inl rfl
      | exact Or.inr rfl
      | (show (_ : Int32) = 0 ∨ _ = 1; simp (disch := first | omega | decide) only [zcn, zkpl, zki, zki1, zk8, zk16, zo32, zlt0, zle0, zeq0, zgt0, zLe0, nI_ltI, nI_leI, nI_eq, nI_add, nI_clamp, vp_in_nI, zup_s, zup_n, upd_s, upd_n, ne_eq, not_true_eq_false, not_false_eq_true, zeq1, true_or, or_true]; done))
  have h93 := hX.2.2
  have f2 : ZW 84 (0, 0, 0, 0) 14 [(1, .int (nI (pe w wl (a + 2)))), (0, .ref 9)] [.int 1] (SH, m1) Q := by
    refine zgo 20 [] ?_
    repeat' (first
      | (exact zcm (by simp (disch := first | omega | decide) only [h93, zcn, zkpl, zki, zki1, zk8, zk16, zo32, zlt0, zle0, zeq0, zgt0, zLe0, nI_ltI, nI_leI, nI_eq, nI_add, nI_clamp, vp_in_nI, zup_s, zup_n, upd_s, upd_n, ne_eq, not_true_eq_false, not_false_eq_true]) (hs.use f3))
      | (show vp_in _ _; simp (disch := first | omega | decide) only [z10, zcn, zkpl, zki, zki1, zk8, zk16, zo32, zlt0, zle0, zeq0, zgt0, zLe0, nI_ltI, nI_leI, nI_eq, nI_add, nI_clamp, vp_in_nI, zup_s, zup_n, upd_s, upd_n, ne_eq, not_true_eq_false, not_false_eq_true]; done)
      | (intro hc; exfalso; simp (disch := first | omega | decide) only [z10, zcn, zkpl, zki, zki1, zk8, zk16, zo32, zlt0, zle0, zeq0, zgt0, zLe0, nI_ltI, nI_leI, nI_eq, nI_add, nI_clamp, vp_in_nI, zup_s, zup_n, upd_s, upd_n, ne_eq, not_true_eq_false, not_false_eq_true] at hc <;> omega)
      | (intro hc; exact absurd rfl hc)
      | intro hc
      | apply And.intro
      | exact Or.inl rfl
      | exact Or.inr rfl
      | (show (_ : Int32) = 0 ∨ _ = 1; simp (disch := first | omega | decide) only [z10, zcn, zkpl, zki, zki1, zk8, zk16, zo32, zlt0, zle0, zeq0, zgt0, zLe0, nI_ltI, nI_leI, nI_eq, nI_add, nI_clamp, vp_in_nI, zup_s, zup_n, upd_s, upd_n, ne_eq, not_true_eq_false, not_false_eq_true, zeq1, true_or, or_true]; done))
  have f1 : ZW 84 (0, 0, 0, 0) 5 [(0, .ref 9)] [.int (nI (pe w wl (a + 2)))] (SH, m) Q := by
    refine zgo 20 [] ?_
    repeat' (first
      | (exact he.use f2)
      | (show vp_in _ _; simp (disch := first | omega | decide) only [zcn, zkpl, zki, zki1, zk8, zk16, zo32, zlt0, zle0, zeq0, zgt0, zLe0, nI_ltI, nI_leI, nI_eq, nI_add, nI_clamp, vp_in_nI, zup_s, zup_n, upd_s, upd_n, ne_eq, not_true_eq_false, not_false_eq_true]; done)
      | (intro hc; exfalso; simp (disch := first | omega | decide) only [zcn, zkpl, zki, zki1, zk8, zk16, zo32, zlt0, zle0, zeq0, zgt0, zLe0, nI_ltI, nI_leI, nI_eq, nI_add, nI_clamp, vp_in_nI, zup_s, zup_n, upd_s, upd_n, ne_eq, not_true_eq_false, not_false_eq_true] at hc <;> omega)
      | (intro hc; exact absurd rfl hc)
      | intro hc
      | apply And.intro
      | exact Or.inl rfl
      | exact Or.inr rfl
      | (show (_ : Int32) = 0 ∨ _ = 1; simp (disch := first | omega | decide) only [zcn, zkpl, zki, zki1, zk8, zk16, zo32, zlt0, zle0, zeq0, zgt0, zLe0, nI_ltI, nI_leI, nI_eq, nI_add, nI_clamp, vp_in_nI, zup_s, zup_n, upd_s, upd_n, ne_eq, not_true_eq_false, not_false_eq_true, zeq1, true_or, or_true]; done))
  refine zgo 20 [] ?_
  repeat' (first
    | (exact hp.use f1)
    | (show vp_in _ _; simp (disch := first | omega | decide) only [zcn, zkpl, zki, zki1, zk8, zk16, zo32, zlt0, zle0, zeq0, zgt0, zLe0, nI_ltI, nI_leI, nI_eq, nI_add, nI_clamp, vp_in_nI, zup_s, zup_n, upd_s, upd_n, ne_eq, not_true_eq_false, not_false_eq_true]; done)
    | (intro hc; exfalso; simp (disch := first | omega | decide) only [zcn, zkpl, zki, zki1, zk8, zk16, zo32, zlt0, zle0, zeq0, zgt0, zLe0, nI_ltI, nI_leI, nI_eq, nI_add, nI_clamp, vp_in_nI, zup_s, zup_n, upd_s, upd_n, ne_eq, not_true_eq_false, not_false_eq_true] at hc <;> omega)
    | (intro hc; exact absurd rfl hc)
    | intro hc
    | apply And.intro
    | exact Or.inl rfl
    | exact Or.inr rfl
    | (show (_ : Int32) = 0 ∨ _ = 1; simp (disch := first | omega | decide) only [zcn, zkpl, zki, zki1, zk8, zk16, zo32, zlt0, zle0, zeq0, zgt0, zLe0, nI_ltI, nI_leI, nI_eq, nI_add, nI_clamp, vp_in_nI, zup_s, zup_n, upd_s, upd_n, ne_eq, not_true_eq_false, not_false_eq_true, zeq1, true_or, or_true]; done))
theorem c_83_no {w : Nat → Nat} {wl a : Nat} {m : zM} {s : pS} (ho : okT w wl) (hx : tX w wl m a) (hd : tD m s) (hi : sI a s) (ha : a < wl) (h : ¬ isL (pe w wl (a + 1)) ∨ (s 0 3 = 0 ∧ 0 < s 0 1) ∨ s 0 3 = 4 ∨ s 0 1 = 75) : Ev 83 [.ref 9] m (some (.int 0)) m := by
  have hl := ho.1
  have hp := ev_peek ho hx 1 rfl (by omega) (by omega)
  have hpl := pe_le ho (a + 1)
  have i1 := hi.1
  intro Q hQ
  have f1 : ZW 83 (0, 0, 0, 0) 5 [(0, .ref 9)] [.int (nI (pe w wl (a + 1)))] (SH, m) Q := by
    by_cases e : isL (pe w wl (a + 1))
    · have hb := et_begin0 (x := nI (pe w wl (a + 1))) hd.1.1 hd.1.2.2 (by omega) (by omega) (h.resolve_left (fun g => g e))
      have f3 : ZW 83 (0, 0, 0, 0) 21 [(1, .int (nI (pe w wl (a + 1)))), (0, .ref 9)] [.int 0] (SH, m) Q := by
        refine zgo 20 [] ?_
        repeat' (first
          | (show vp_in _ _; simp (disch := first | omega | decide) only [zcn, zkpl, zki, zki1, zk8, zk16, zo32, zlt0, zle0, zeq0, zgt0, zLe0, nI_ltI, nI_leI, nI_eq, nI_add, nI_clamp, vp_in_nI, zup_s, zup_n, upd_s, upd_n, ne_eq, not_true_eq_false, not_false_eq_true]; done)
          | (intro hc; exfalso; simp (disch := first | omega | decide) only [zcn, zkpl, zki, zki1, zk8, zk16, zo32, zlt0, zle0, zeq0, zgt0, zLe0, nI_ltI, nI_leI, nI_eq, nI_add, nI_clamp, vp_in_nI, zup_s, zup_n, upd_s, upd_n, ne_eq, not_true_eq_false, not_false_eq_true] at hc <;> omega)
          | (intro hc; exact absurd rfl hc)
          | intro hc
          | apply And.intro
          | exact hQ
          | (show Q _ (SH, _); simp (disch := first | omega | decide) only [zcn, zkpl, zki, zki1, zk8, zk16, zo32, zlt0, zle0, zeq0, zgt0, zLe0, nI_ltI, nI_leI, nI_eq, nI_add, nI_clamp, vp_in_nI, zup_s, zup_n, upd_s, upd_n, ne_eq, not_true_eq_false, not_false_eq_true]; exact hQ)
          | exact Or.inl rfl
          | exact Or.inr rfl
          | (show (_ : Int32) = 0 ∨ _ = 1; simp (disch := first | omega | decide) only [zcn, zkpl, zki, zki1, zk8, zk16, zo32, zlt0, zle0, zeq0, zgt0, zLe0, nI_ltI, nI_leI, nI_eq, nI_add, nI_clamp, vp_in_nI, zup_s, zup_n, upd_s, upd_n, ne_eq, not_true_eq_false, not_false_eq_true, zeq1, true_or, or_true]; done))
      have f2 : ZW 83 (0, 0, 0, 0) 10 [(1, .int (nI (pe w wl (a + 1)))), (0, .ref 9)] [.int 1] (SH, m) Q := by
        refine zgo 20 [] ?_
        repeat' (first
          | (exact hb.use f3)
          | (show vp_in _ _; simp (disch := first | omega | decide) only [z10, zcn, zkpl, zki, zki1, zk8, zk16, zo32, zlt0, zle0, zeq0, zgt0, zLe0, nI_ltI, nI_leI, nI_eq, nI_add, nI_clamp, vp_in_nI, zup_s, zup_n, upd_s, upd_n, ne_eq, not_true_eq_false, not_false_eq_true]; done)
          | (intro hc; exfalso; simp (disch := first | omega | decide) only [z10, zcn, zkpl, zki, zki1, zk8, zk16, zo32, zlt0, zle0, zeq0, zgt0, zLe0, nI_ltI, nI_leI, nI_eq, nI_add, nI_clamp, vp_in_nI, zup_s, zup_n, upd_s, upd_n, ne_eq, not_true_eq_false, not_false_eq_true] at hc <;> omega)
          | (intro hc; exact absurd rfl hc)
          | intro hc
          | apply And.intro
          | exact Or.inl rfl
          | exact Or.inr rfl
          | (show (_ : Int32) = 0 ∨ _ = 1; simp (disch := first | omega | decide) only [z10, zcn, zkpl, zki, zki1, zk8, zk16, zo32, zlt0, zle0, zeq0, zgt0, zLe0, nI_ltI, nI_leI, nI_eq, nI_add, nI_clamp, vp_in_nI, zup_s, zup_n, upd_s, upd_n, ne_eq, not_true_eq_false, not_false_eq_true, zeq1, true_or, or_true]; done))
      refine zgo 20 [] ?_
      repeat' (first
        | (exact (ev_isL (b := 1) hpl (Or.inl ⟨rfl, e⟩)).use f2)
        | (show vp_in _ _; simp (disch := first | omega | decide) only [zcn, zkpl, zki, zki1, zk8, zk16, zo32, zlt0, zle0, zeq0, zgt0, zLe0, nI_ltI, nI_leI, nI_eq, nI_add, nI_clamp, vp_in_nI, zup_s, zup_n, upd_s, upd_n, ne_eq, not_true_eq_false, not_false_eq_true]; done)
        | (intro hc; exfalso; simp (disch := first | omega | decide) only [zcn, zkpl, zki, zki1, zk8, zk16, zo32, zlt0, zle0, zeq0, zgt0, zLe0, nI_ltI, nI_leI, nI_eq, nI_add, nI_clamp, vp_in_nI, zup_s, zup_n, upd_s, upd_n, ne_eq, not_true_eq_false, not_false_eq_true] at hc <;> omega)
        | (intro hc; exact absurd rfl hc)
        | intro hc
        | apply And.intro
        | exact Or.inl rfl
        | exact Or.inr rfl
        | (show (_ : Int32) = 0 ∨ _ = 1; simp (disch := first | omega | decide) only [zcn, zkpl, zki, zki1, zk8, zk16, zo32, zlt0, zle0, zeq0, zgt0, zLe0, nI_ltI, nI_leI, nI_eq, nI_add, nI_clamp, vp_in_nI, zup_s, zup_n, upd_s, upd_n, ne_eq, not_true_eq_false, not_false_eq_true, zeq1, true_or, or_true]; done))
    · have f2 : ZW 83 (0, 0, 0, 0) 10 [(1, .int (nI (pe w wl (a + 1)))), (0, .ref 9)] [.int 0] (SH, m) Q := by
        refine zgo 20 [] ?_
        repeat' (first
          | (show vp_in _ _; simp (disch := first | omega | decide) only [zcn, zkpl, zki, zki1, zk8, zk16, zo32, zlt0, zle0, zeq0, zgt0, zLe0, nI_ltI, nI_leI, nI_eq, nI_add, nI_clamp, vp_in_nI, zup_s, zup_n, upd_s, upd_n, ne_eq, not_true_eq_false, not_false_eq_true]; done)
          | (intro hc; exfalso; simp (disch := first | omega | decide) only [zcn, zkpl, zki, zki1, zk8, zk16, zo32, zlt0, zle0, zeq0, zgt0, zLe0, nI_ltI, nI_leI, nI_eq, nI_add, nI_clamp, vp_in_nI, zup_s, zup_n, upd_s, upd_n, ne_eq, not_true_eq_false, not_false_eq_true] at hc <;> omega)
          | (intro hc; exact absurd rfl hc)
          | intro hc
          | apply And.intro
          | exact hQ
          | (show Q _ (SH, _); simp (disch := first | omega | decide) only [zcn, zkpl, zki, zki1, zk8, zk16, zo32, zlt0, zle0, zeq0, zgt0, zLe0, nI_ltI, nI_leI, nI_eq, nI_add, nI_clamp, vp_in_nI, zup_s, zup_n, upd_s, upd_n, ne_eq, not_true_eq_false, not_false_eq_true]; exact hQ)
          | exact Or.inl rfl
          | exact Or.inr rfl
          | (show (_ : Int32) = 0 ∨ _ = 1; simp (disch := first | omega | decide) only [zcn, zkpl, zki, zki1, zk8, zk16, zo32, zlt0, zle0, zeq0, zgt0, zLe0, nI_ltI, nI_leI, nI_eq, nI_add, nI_clamp, vp_in_nI, zup_s, zup_n, upd_s, upd_n, ne_eq, not_true_eq_false, not_false_eq_true, zeq1, true_or, or_true]; done))
      refine zgo 20 [] ?_
      repeat' (first
        | (exact (ev_isL (b := 0) hpl (Or.inr ⟨rfl, e⟩)).use f2)
        | (show vp_in _ _; simp (disch := first | omega | decide) only [zcn, zkpl, zki, zki1, zk8, zk16, zo32, zlt0, zle0, zeq0, zgt0, zLe0, nI_ltI, nI_leI, nI_eq, nI_add, nI_clamp, vp_in_nI, zup_s, zup_n, upd_s, upd_n, ne_eq, not_true_eq_false, not_false_eq_true]; done)
        | (intro hc; exfalso; simp (disch := first | omega | decide) only [zcn, zkpl, zki, zki1, zk8, zk16, zo32, zlt0, zle0, zeq0, zgt0, zLe0, nI_ltI, nI_leI, nI_eq, nI_add, nI_clamp, vp_in_nI, zup_s, zup_n, upd_s, upd_n, ne_eq, not_true_eq_false, not_false_eq_true] at hc <;> omega)
        | (intro hc; exact absurd rfl hc)
        | intro hc
        | apply And.intro
        | exact Or.inl rfl
        | exact Or.inr rfl
        | (show (_ : Int32) = 0 ∨ _ = 1; simp (disch := first | omega | decide) only [zcn, zkpl, zki, zki1, zk8, zk16, zo32, zlt0, zle0, zeq0, zgt0, zLe0, nI_ltI, nI_leI, nI_eq, nI_add, nI_clamp, vp_in_nI, zup_s, zup_n, upd_s, upd_n, ne_eq, not_true_eq_false, not_false_eq_true, zeq1, true_or, or_true]; done))
  refine zgo 20 [] ?_
  repeat' (first
    | (exact hp.use f1)
    | (show vp_in _ _; simp (disch := first | omega | decide) only [zcn, zkpl, zki, zki1, zk8, zk16, zo32, zlt0, zle0, zeq0, zgt0, zLe0, nI_ltI, nI_leI, nI_eq, nI_add, nI_clamp, vp_in_nI, zup_s, zup_n, upd_s, upd_n, ne_eq, not_true_eq_false, not_false_eq_true]; done)
    | (intro hc; exfalso; simp (disch := first | omega | decide) only [zcn, zkpl, zki, zki1, zk8, zk16, zo32, zlt0, zle0, zeq0, zgt0, zLe0, nI_ltI, nI_leI, nI_eq, nI_add, nI_clamp, vp_in_nI, zup_s, zup_n, upd_s, upd_n, ne_eq, not_true_eq_false, not_false_eq_true] at hc <;> omega)
    | (intro hc; exact absurd rfl hc)
    | intro hc
    | apply And.intro
    | exact Or.inl rfl
    | exact Or.inr rfl
    | (show (_ : Int32) = 0 ∨ _ = 1; simp (disch := first | omega | decide) only [zcn, zkpl, zki, zki1, zk8, zk16, zo32, zlt0, zle0, zeq0, zgt0, zLe0, nI_ltI, nI_leI, nI_eq, nI_add, nI_clamp, vp_in_nI, zup_s, zup_n, upd_s, upd_n, ne_eq, not_true_eq_false, not_false_eq_true, zeq1, true_or, or_true]; done))
theorem cbg_o {m : zM} {c N d L b : Nat} (h : b = 0 ∨ 8 ≤ b) : cbg m c N d L b = m b := by
  unfold cbg
  rw [zup_n _ (by omega), zup_n _ (by omega), zup_n _ (by omega), zup_n _ (by omega), zup_n _ (by omega), zup_n _ (by omega), zup_n _ (by omega), zup_n _ (by omega)]
/-- a begin sign; e: it ends its element -/
theorem c_83 {w : Nat → Nat} {wl a k : Nat} {m : zM} {s : pS} (ho : okT w wl) (hx : tX w wl m a) (hd : tD m s) (hi : sI a s) (ha : a < wl) (hL : isL (pe w wl (a + 1))) (h0 : s 0 3 = 0 → s 0 1 = 0) (h4 : s 0 3 < 4) (h5 : s 0 1 < 75) (hk : ∀ j, j < k → pe w wl (a + 2 + j) = 32) (hk2 : pe w wl (a + 2 + k) ≠ 32) (hk3 : a + 2 + k ≤ 303) (hne : pe w wl (a + 2 + k) ≠ 47) {b : Int32} (hb : (b = 1 ∧ pe w wl (a + 2 + k) = 62) ∨ (b = 0 ∧ pe w wl (a + 2 + k) ≠ 62)) : ∃ m', Ev 83 [.ref 9] m (some (.int b)) m' ∧ tX w wl m' (a + 2 + k + 1) ∧ tD m' (begS s (pe w wl (a + 1))) ∧ cF m m' := by
  have hb1 : b = 0 ∨ b = 1 := hb.elim (fun g => Or.inr g.1) (fun g => Or.inl g.1)
  have hl := ho.1
  have hp := ev_peek ho hx 1 rfl (by omega) (by omega)
  have hpl := pe_le ho (a + 1)
  have i1 := hi.1
  have he := et_begin (c := pe w wl (a + 1)) hd.1.1 hd.1.2.1 hd.1.2.2 h5 h4 h0 (by omega)
  have hD := tD_beg (c := pe w wl (a + 1)) hd
  have hX : tX w wl (cbg m (pe w wl (a + 1)) (s 0 1) (s 0 3) (s 0 2)) a := hx.cg (cbg_o (by omega)) (cbg_o (by omega))
  have hF : cF m (cbg m (pe w wl (a + 1)) (s 0 1) (s 0 3) (s 0 2)) := fun b hb => cbg_o (by omega)
  generalize cbg m (pe w wl (a + 1)) (s 0 1) (s 0 3) (s 0 2) = m1 at *
  have hs := ev_skip ho k (a + 2) _ (hX.mv (a + 2)) (by omega) hk hk2
  rw [zup2] at hs
  have hp2 := ev_peek ho (hX.mv (a + 2 + k)) 0 rfl (by omega) (by omega)
  rw [Nat.add_zero] at hp2
  have hpl2 := pe_le ho (a + 2 + k)
  have hcl := ev_close ho (hX.mv (a + 2 + k)) (by omega) hb
  rw [zup2] at hcl
  refine ⟨_, fun Q hQ => ?_, hX.mv _, tD_at hD _, hF.tr (cF_at _ _)⟩
  have f6 : ZW 83 (0, 0, 0, 0) 73 [(1, .int (nI (pe w wl (a + 1)))), (0, .ref 9)] [.int b] (SH, zup m1 9 3 (nI (a + 2 + k + 1))) Q := by
    rcases hb1 with rfl | rfl
    · refine zgo 20 [] ?_
      repeat' (first
        | (show vp_in _ _; simp (disch := first | omega | decide) only [zcn, zkpl, zki, zki1, zk8, zk16, zo32, zlt0, zle0, zeq0, zgt0, zLe0, nI_ltI, nI_leI, nI_eq, nI_add, nI_clamp, vp_in_nI, zup_s, zup_n, upd_s, upd_n, ne_eq, not_true_eq_false, not_false_eq_true]; done)
        | (intro hc; exfalso; simp (disch := first | omega | decide) only [zcn, zkpl, zki, zki1, zk8, zk16, zo32, zlt0, zle0, zeq0, zgt0, zLe0, nI_ltI, nI_leI, nI_eq, nI_add, nI_clamp, vp_in_nI, zup_s, zup_n, upd_s, upd_n, ne_eq, not_true_eq_false, not_false_eq_true] at hc <;> omega)
        | (intro hc; exact absurd rfl hc)
        | intro hc
        | apply And.intro
        | exact hQ
        | (show Q _ (SH, _); simp (disch := first | omega | decide) only [zcn, zkpl, zki, zki1, zk8, zk16, zo32, zlt0, zle0, zeq0, zgt0, zLe0, nI_ltI, nI_leI, nI_eq, nI_add, nI_clamp, vp_in_nI, zup_s, zup_n, upd_s, upd_n, ne_eq, not_true_eq_false, not_false_eq_true]; exact hQ)
        | exact Or.inl rfl
        | exact Or.inr rfl
        | (show (_ : Int32) = 0 ∨ _ = 1; simp (disch := first | omega | decide) only [zcn, zkpl, zki, zki1, zk8, zk16, zo32, zlt0, zle0, zeq0, zgt0, zLe0, nI_ltI, nI_leI, nI_eq, nI_add, nI_clamp, vp_in_nI, zup_s, zup_n, upd_s, upd_n, ne_eq, not_true_eq_false, not_false_eq_true, zeq1, true_or, or_true]; done))
    · refine zgo 20 [] ?_
      repeat' (first
        | (show vp_in _ _; simp (disch := first | omega | decide) only [zcn, zkpl, zki, zki1, zk8, zk16, zo32, zlt0, zle0, zeq0, zgt0, zLe0, nI_ltI, nI_leI, nI_eq, nI_add, nI_clamp, vp_in_nI, zup_s, zup_n, upd_s, upd_n, ne_eq, not_true_eq_false, not_false_eq_true]; done)
        | (intro hc; exfalso; simp (disch := first | omega | decide) only [zcn, zkpl, zki, zki1, zk8, zk16, zo32, zlt0, zle0, zeq0, zgt0, zLe0, nI_ltI, nI_leI, nI_eq, nI_add, nI_clamp, vp_in_nI, zup_s, zup_n, upd_s, upd_n, ne_eq, not_true_eq_false, not_false_eq_true] at hc <;> omega)
        | (intro hc; exact absurd rfl hc)
        | intro hc
        | apply And.intro
        | exact hQ
        | (show Q _ (SH, _); simp (disch := first | omega | decide) only [zcn, zkpl, zki, zki1, zk8, zk16, zo32, zlt0, zle0, zeq0, zgt0, zLe0, nI_ltI, nI_leI, nI_eq, nI_add, nI_clamp, vp_in_nI, zup_s, zup_n, upd_s, upd_n, ne_eq, not_true_eq_false, not_false_eq_true]; exact hQ)
        | exact Or.inl rfl
        | exact Or.inr rfl
        | (show (_ : Int32) = 0 ∨ _ = 1; simp (disch := first | omega | decide) only [zcn, zkpl, zki, zki1, zk8, zk16, zo32, zlt0, zle0, zeq0, zgt0, zLe0, nI_ltI, nI_leI, nI_eq, nI_add, nI_clamp, vp_in_nI, zup_s, zup_n, upd_s, upd_n, ne_eq, not_true_eq_false, not_false_eq_true, zeq1, true_or, or_true]; done))
  have f5 : ZW 83 (0, 0, 0, 0) 45 [(1, .int (nI (pe w wl (a + 1)))), (0, .ref 9)] [.int (nI (pe w wl (a + 2 + k)))] (SH, zup m1 9 3 (nI (a + 2 + k))) Q := by
    refine zgo 20 [] ?_
    repeat' (first
      | (exact hcl.use f6)
      | (show vp_in _ _; simp (disch := first | omega | decide) only [zcn, zkpl, zki, zki1, zk8, zk16, zo32, zlt0, zle0, zeq0, zgt0, zLe0, nI_ltI, nI_leI, nI_eq, nI_add, nI_clamp, vp_in_nI, zup_s, zup_n, upd_s, upd_n, ne_eq, not_true_eq_false, not_false_eq_true]; done)
      | (intro hc; exfalso; simp (disch := first | omega | decide) only [zcn, zkpl, zki, zki1, zk8, zk16, zo32, zlt0, zle0, zeq0, zgt0, zLe0, nI_ltI, nI_leI, nI_eq, nI_add, nI_clamp, vp_in_nI, zup_s, zup_n, upd_s, upd_n, ne_eq, not_true_eq_false, not_false_eq_true] at hc <;> omega)
      | (intro hc; exact absurd rfl hc)
      | intro hc
      | apply And.intro
      | exact Or.inl rfl
      | exact Or.inr rfl
      | (show (_ : Int32) = 0 ∨ _ = 1; simp (disch := first | omega | decide) only [zcn, zkpl, zki, zki1, zk8, zk16, zo32, zlt0, zle0, zeq0, zgt0, zLe0, nI_ltI, nI_leI, nI_eq, nI_add, nI_clamp, vp_in_nI, zup_s, zup_n, upd_s, upd_n, ne_eq, not_true_eq_false, not_false_eq_true, zeq1, true_or, or_true]; done))
  have f4 : ZW 83 (0, 0, 0, 0) 40 [(1, .int (nI (pe w wl (a + 1)))), (0, .ref 9)] [] (SH, zup m1 9 3 (nI (a + 2 + k))) Q := by
    refine zgo 20 [] ?_
    repeat' (first
      | (exact hp2.use f5)
      | (show vp_in _ _; simp (disch := first | omega | decide) only [zcn, zkpl, zki, zki1, zk8, zk16, zo32, zlt0, zle0, zeq0, zgt0, zLe0, nI_ltI, nI_leI, nI_eq, nI_add, nI_clamp, vp_in_nI, zup_s, zup_n, upd_s, upd_n, ne_eq, not_true_eq_false, not_false_eq_true]; done)
      | (intro hc; exfalso; simp (disch := first | omega | decide) only [zcn, zkpl, zki, zki1, zk8, zk16, zo32, zlt0, zle0, zeq0, zgt0, zLe0, nI_ltI, nI_leI, nI_eq, nI_add, nI_clamp, vp_in_nI, zup_s, zup_n, upd_s, upd_n, ne_eq, not_true_eq_false, not_false_eq_true] at hc <;> omega)
      | (intro hc; exact absurd rfl hc)
      | intro hc
      | apply And.intro
      | exact Or.inl rfl
      | exact Or.inr rfl
      | (show (_ : Int32) = 0 ∨ _ = 1; simp (disch := first | omega | decide) only [zcn, zkpl, zki, zki1, zk8, zk16, zo32, zlt0, zle0, zeq0, zgt0, zLe0, nI_ltI, nI_leI, nI_eq, nI_add, nI_clamp, vp_in_nI, zup_s, zup_n, upd_s, upd_n, ne_eq, not_true_eq_false, not_false_eq_true, zeq1, true_or, or_true]; done))
  have h93 := hX.2.2
  have f3 : ZW 83 (0, 0, 0, 0) 21 [(1, .int (nI (pe w wl (a + 1)))), (0, .ref 9)] [.int 1] (SH, m1) Q := by
    refine zgo 20 [] ?_
    repeat' (first
      | (exact zcm (by simp (disch := first | omega | decide) only [h93, zcn, zkpl, zki, zki1, zk8, zk16, zo32, zlt0, zle0, zeq0, zgt0, zLe0, nI_ltI, nI_leI, nI_eq, nI_add, nI_clamp, vp_in_nI, zup_s, zup_n, upd_s, upd_n, ne_eq, not_true_eq_false, not_false_eq_true]) (hs.use f4))
      | (show vp_in _ _; simp (disch := first | omega | decide) only [z10, zcn, zkpl, zki, zki1, zk8, zk16, zo32, zlt0, zle0, zeq0, zgt0, zLe0, nI_ltI, nI_leI, nI_eq, nI_add, nI_clamp, vp_in_nI, zup_s, zup_n, upd_s, upd_n, ne_eq, not_true_eq_false, not_false_eq_true]; done)
      | (intro hc; exfalso; simp (disch := first | omega | decide) only [z10, zcn, zkpl, zki, zki1, zk8, zk16, zo32, zlt0, zle0, zeq0, zgt0, zLe0, nI_ltI, nI_leI, nI_eq, nI_add, nI_clamp, vp_in_nI, zup_s, zup_n, upd_s, upd_n, ne_eq, not_true_eq_false, not_false_eq_true] at hc <;> omega)
      | (intro hc; exact absurd rfl hc)
      | intro hc
      | apply And.intro
      | exact Or.inl rfl
      | exact Or.inr rfl
      | (show (_ : Int32) = 0 ∨ _ = 1; simp (disch := first | omega | decide) only [z10, zcn, zkpl, zki, zki1, zk8, zk16, zo32, zlt0, zle0, zeq0, zgt0, zLe0, nI_ltI, nI_leI, nI_eq, nI_add, nI_clamp, vp_in_nI, zup_s, zup_n, upd_s, upd_n, ne_eq, not_true_eq_false, not_false_eq_true, zeq1, true_or, or_true]; done))
  have f2 : ZW 83 (0, 0, 0, 0) 10 [(1, .int (nI (pe w wl (a + 1)))), (0, .ref 9)] [.int 1] (SH, m) Q := by
    refine zgo 20 [] ?_
    repeat' (first
      | (exact he.use f3)
      | (show vp_in _ _; simp (disch := first | omega | decide) only [z10, zcn, zkpl, zki, zki1, zk8, zk16, zo32, zlt0, zle0, zeq0, zgt0, zLe0, nI_ltI, nI_leI, nI_eq, nI_add, nI_clamp, vp_in_nI, zup_s, zup_n, upd_s, upd_n, ne_eq, not_true_eq_false, not_false_eq_true]; done)
      | (intro hc; exfalso; simp (disch := first | omega | decide) only [z10, zcn, zkpl, zki, zki1, zk8, zk16, zo32, zlt0, zle0, zeq0, zgt0, zLe0, nI_ltI, nI_leI, nI_eq, nI_add, nI_clamp, vp_in_nI, zup_s, zup_n, upd_s, upd_n, ne_eq, not_true_eq_false, not_false_eq_true] at hc <;> omega)
      | (intro hc; exact absurd rfl hc)
      | intro hc
      | apply And.intro
      | exact Or.inl rfl
      | exact Or.inr rfl
      | (show (_ : Int32) = 0 ∨ _ = 1; simp (disch := first | omega | decide) only [z10, zcn, zkpl, zki, zki1, zk8, zk16, zo32, zlt0, zle0, zeq0, zgt0, zLe0, nI_ltI, nI_leI, nI_eq, nI_add, nI_clamp, vp_in_nI, zup_s, zup_n, upd_s, upd_n, ne_eq, not_true_eq_false, not_false_eq_true, zeq1, true_or, or_true]; done))
  have f1 : ZW 83 (0, 0, 0, 0) 5 [(0, .ref 9)] [.int (nI (pe w wl (a + 1)))] (SH, m) Q := by
    refine zgo 20 [] ?_
    repeat' (first
      | (exact (ev_isL (b := 1) hpl (Or.inl ⟨rfl, hL⟩)).use f2)
      | (show vp_in _ _; simp (disch := first | omega | decide) only [zcn, zkpl, zki, zki1, zk8, zk16, zo32, zlt0, zle0, zeq0, zgt0, zLe0, nI_ltI, nI_leI, nI_eq, nI_add, nI_clamp, vp_in_nI, zup_s, zup_n, upd_s, upd_n, ne_eq, not_true_eq_false, not_false_eq_true]; done)
      | (intro hc; exfalso; simp (disch := first | omega | decide) only [zcn, zkpl, zki, zki1, zk8, zk16, zo32, zlt0, zle0, zeq0, zgt0, zLe0, nI_ltI, nI_leI, nI_eq, nI_add, nI_clamp, vp_in_nI, zup_s, zup_n, upd_s, upd_n, ne_eq, not_true_eq_false, not_false_eq_true] at hc <;> omega)
      | (intro hc; exact absurd rfl hc)
      | intro hc
      | apply And.intro
      | exact Or.inl rfl
      | exact Or.inr rfl
      | (show (_ : Int32) = 0 ∨ _ = 1; simp (disch := first | omega | decide) only [zcn, zkpl, zki, zki1, zk8, zk16, zo32, zlt0, zle0, zeq0, zgt0, zLe0, nI_ltI, nI_leI, nI_eq, nI_add, nI_clamp, vp_in_nI, zup_s, zup_n, upd_s, upd_n, ne_eq, not_true_eq_false, not_false_eq_true, zeq1, true_or, or_true]; done))
  refine zgo 20 [] ?_
  repeat' (first
    | (exact hp.use f1)
    | (show vp_in _ _; simp (disch := first | omega | decide) only [zcn, zkpl, zki, zki1, zk8, zk16, zo32, zlt0, zle0, zeq0, zgt0, zLe0, nI_ltI, nI_leI, nI_eq, nI_add, nI_clamp, vp_in_nI, zup_s, zup_n, upd_s, upd_n, ne_eq, not_true_eq_false, not_false_eq_true]; done)
    | (intro hc; exfalso; simp (disch := first | omega | decide) only [zcn, zkpl, zki, zki1, zk8, zk16, zo32, zlt0, zle0, zeq0, zgt0, zLe0, nI_ltI, nI_leI, nI_eq, nI_add, nI_clamp, vp_in_nI, zup_s, zup_n, upd_s, upd_n, ne_eq, not_true_eq_false, not_false_eq_true] at hc <;> omega)
    | (intro hc; exact absurd rfl hc)
    | intro hc
    | apply And.intro
    | exact Or.inl rfl
    | exact Or.inr rfl
    | (show (_ : Int32) = 0 ∨ _ = 1; simp (disch := first | omega | decide) only [zcn, zkpl, zki, zki1, zk8, zk16, zo32, zlt0, zle0, zeq0, zgt0, zLe0, nI_ltI, nI_leI, nI_eq, nI_add, nI_clamp, vp_in_nI, zup_s, zup_n, upd_s, upd_n, ne_eq, not_true_eq_false, not_false_eq_true, zeq1, true_or, or_true]; done))
theorem c_83e {w : Nat → Nat} {wl a k : Nat} {m : zM} {s : pS} (ho : okT w wl) (hx : tX w wl m a) (hd : tD m s) (hi : sI a s) (ha : a < wl) (hL : isL (pe w wl (a + 1))) (h0 : s 0 3 = 0 → s 0 1 = 0) (h4 : s 0 3 < 4) (h5 : s 0 1 < 75) (hk : ∀ j, j < k → pe w wl (a + 2 + j) = 32) (hk3 : a + 2 + k ≤ 303) (hne : pe w wl (a + 2 + k) = 47) {b : Int32} (hb : (b = 1 ∧ pe w wl (a + 2 + k + 1) = 62) ∨ (b = 0 ∧ pe w wl (a + 2 + k + 1) ≠ 62)) : ∃ m', Ev 83 [.ref 9] m (some (.int b)) m' ∧ tX w wl m' (a + 2 + k + 2) ∧ tD m' (endS (begS s (pe w wl (a + 1))) (s 0 3)) ∧ cF m m' := by
  have hb1 : b = 0 ∨ b = 1 := hb.elim (fun g => Or.inr g.1) (fun g => Or.inl g.1)
  have hl := ho.1
  have hp := ev_peek ho hx 1 rfl (by omega) (by omega)
  have hpl := pe_le ho (a + 1)
  have i1 := hi.1
  have he := et_begin (c := pe w wl (a + 1)) hd.1.1 hd.1.2.1 hd.1.2.2 h5 h4 h0 (by omega)
  have hD := tD_beg (c := pe w wl (a + 1)) hd
  have hX : tX w wl (cbg m (pe w wl (a + 1)) (s 0 1) (s 0 3) (s 0 2)) a := hx.cg (cbg_o (by omega)) (cbg_o (by omega))
  have hF : cF m (cbg m (pe w wl (a + 1)) (s 0 1) (s 0 3) (s 0 2)) := fun b hb => cbg_o (by omega)
  have hI := begS_I (a' := a + 3) hi (by omega) (c := pe w wl (a + 1)) (by unfold isL at hL; omega) h0 h4
  generalize cbg m (pe w wl (a + 1)) (s 0 1) (s 0 3) (s 0 2) = m1 at *
  have hs := ev_skip ho k (a + 2) _ (hX.mv (a + 2)) (by omega) hk (by omega)
  rw [zup2] at hs
  have hp2 := ev_peek ho (hX.mv (a + 2 + k)) 0 rfl (by omega) (by omega)
  rw [show pe w wl (a + 2 + k + 0) = 47 from hne] at hp2
  have hD2 := tD_at hD (nI (a + 2 + k + 1))
  have hX2 := hX.mv (a + 2 + k + 1)
  have he2 := et_end (b := 1) (d := s 0 3) hD2 hI rfl (show s 0 1 + 1 ≤ 75 by omega) rfl hpl (Or.inl ⟨rfl, by
    show ud (s 2) (s 0 1) (pe w wl (a + 1)) (ud (s 7) (s 0 3) (s 0 1) (s 0 3)) = _
    rw [ud_s, ud_s]⟩)
  rw [if_pos rfl] at he2
  have hD3 := tD_end hD2 (d := s 0 3) rfl
  have hX3 : tX w wl (zup (zup (zup m1 9 3 (nI (a + 2 + k + 1))) 5 (begS s (pe w wl (a + 1)) 7 (s 0 3)) (nI (begS s (pe w wl (a + 1)) 0 2))) 1 7 (nI (s 0 3))) (a + 2 + k + 1) := hX2.cg (by rw [zup_n _ (by decide), zup_n _ (by decide)]) (by rw [zup_n _ (by decide), zup_n _ (by decide)])
  have hF3 : cF (zup m1 9 3 (nI (a + 2 + k + 1))) (zup (zup (zup m1 9 3 (nI (a + 2 + k + 1))) 5 (begS s (pe w wl (a + 1)) 7 (s 0 3)) (nI (begS s (pe w wl (a + 1)) 0 2))) 1 7 (nI (s 0 3))) := fun b hb => by rw [zup_n _ (by omega), zup_n _ (by omega)]
  generalize zup (zup (zup m1 9 3 (nI (a + 2 + k + 1))) 5 (begS s (pe w wl (a + 1)) 7 (s 0 3)) (nI (begS s (pe w wl (a + 1)) 0 2))) 1 7 (nI (s 0 3)) = m3 at *
  have hcl := ev_close ho hX3 (by omega) hb
  refine ⟨_, fun Q hQ => ?_, hX3.mv _, tD_at hD3 _, hF.tr ((cF_at _ _).tr (hF3.tr (cF_at _ _)))⟩
  have f7 : ZW 83 (0, 0, 0, 0) 73 [(1, .int (nI (pe w wl (a + 1)))), (0, .ref 9)] [.int b] (SH, zup m3 9 3 (nI (a + 2 + k + 1 + 1))) Q := by
    rcases hb1 with rfl | rfl
    · refine zgo 20 [] ?_
      repeat' (first
        | (show vp_in _ _; simp (disch := first | omega | decide) only [zcn, zkpl, zki, zki1, zk8, zk16, zo32, zlt0, zle0, zeq0, zgt0, zLe0, nI_ltI, nI_leI, nI_eq, nI_add, nI_clamp, vp_in_nI, zup_s, zup_n, upd_s, upd_n, ne_eq, not_true_eq_false, not_false_eq_true]; done)
        | (intro hc; exfalso; simp (disch := first | omega | decide) only [zcn, zkpl, zki, zki1, zk8, zk16, zo32, zlt0, zle0, zeq0, zgt0, zLe0, nI_ltI, nI_leI, nI_eq, nI_add, nI_clamp, vp_in_nI, zup_s, zup_n, upd_s, upd_n, ne_eq, not_true_eq_false, not_false_eq_true] at hc <;> omega)
        | (intro hc; exact absurd rfl hc)
        | intro hc
        | apply And.intro
        | exact hQ
        | (show Q _ (SH, _); simp (disch := first | omega | decide) only [zcn, zkpl, zki, zki1, zk8, zk16, zo32, zlt0, zle0, zeq0, zgt0, zLe0, nI_ltI, nI_leI, nI_eq, nI_add, nI_clamp, vp_in_nI, zup_s, zup_n, upd_s, upd_n, ne_eq, not_true_eq_false, not_false_eq_true]; exact hQ)
        | exact Or.inl rfl
        | exact Or.inr rfl
        | (show (_ : Int32) = 0 ∨ _ = 1; simp (disch := first | omega | decide) only [zcn, zkpl, zki, zki1, zk8, zk16, zo32, zlt0, zle0, zeq0, zgt0, zLe0, nI_ltI, nI_leI, nI_eq, nI_add, nI_clamp, vp_in_nI, zup_s, zup_n, upd_s, upd_n, ne_eq, not_true_eq_false, not_false_eq_true, zeq1, true_or, or_true]; done))
    · refine zgo 20 [] ?_
      repeat' (first
        | (show vp_in _ _; simp (disch := first | omega | decide) only [zcn, zkpl, zki, zki1, zk8, zk16, zo32, zlt0, zle0, zeq0, zgt0, zLe0, nI_ltI, nI_leI, nI_eq, nI_add, nI_clamp, vp_in_nI, zup_s, zup_n, upd_s, upd_n, ne_eq, not_true_eq_false, not_false_eq_true]; done)
        | (intro hc; exfalso; simp (disch := first | omega | decide) only [zcn, zkpl, zki, zki1, zk8, zk16, zo32, zlt0, zle0, zeq0, zgt0, zLe0, nI_ltI, nI_leI, nI_eq, nI_add, nI_clamp, vp_in_nI, zup_s, zup_n, upd_s, upd_n, ne_eq, not_true_eq_false, not_false_eq_true] at hc <;> omega)
        | (intro hc; exact absurd rfl hc)
        | intro hc
        | apply And.intro
        | exact hQ
        | (show Q _ (SH, _); simp (disch := first | omega | decide) only [zcn, zkpl, zki, zki1, zk8, zk16, zo32, zlt0, zle0, zeq0, zgt0, zLe0, nI_ltI, nI_leI, nI_eq, nI_add, nI_clamp, vp_in_nI, zup_s, zup_n, upd_s, upd_n, ne_eq, not_true_eq_false, not_false_eq_true]; exact hQ)
        | exact Or.inl rfl
        | exact Or.inr rfl
        | (show (_ : Int32) = 0 ∨ _ = 1; simp (disch := first | omega | decide) only [zcn, zkpl, zki, zki1, zk8, zk16, zo32, zlt0, zle0, zeq0, zgt0, zLe0, nI_ltI, nI_leI, nI_eq, nI_add, nI_clamp, vp_in_nI, zup_s, zup_n, upd_s, upd_n, ne_eq, not_true_eq_false, not_false_eq_true, zeq1, true_or, or_true]; done))
  have f6 : ZW 83 (0, 0, 0, 0) 68 [(1, .int (nI (pe w wl (a + 1)))), (0, .ref 9)] [.int 1] (SH, m3) Q := by
    refine zgo 20 [] ?_
    repeat' (first
      | (exact hcl.use f7)
      | (show vp_in _ _; simp (disch := first | omega | decide) only [zcn, zkpl, zki, zki1, zk8, zk16, zo32, zlt0, zle0, zeq0, zgt0, zLe0, nI_ltI, nI_leI, nI_eq, nI_add, nI_clamp, vp_in_nI, zup_s, zup_n, upd_s, upd_n, ne_eq, not_true_eq_false, not_false_eq_true]; done)
      | (intro hc; exfalso; simp (disch := first | omega | decide) only [zcn, zkpl, zki, zki1, zk8, zk16, zo32, zlt0, zle0, zeq0, zgt0, zLe0, nI_ltI, nI_leI, nI_eq, nI_add, nI_clamp, vp_in_nI, zup_s, zup_n, upd_s, upd_n, ne_eq, not_true_eq_false, not_false_eq_true] at hc <;> omega)
      | (intro hc; exact absurd rfl hc)
      | intro hc
      | apply And.intro
      | exact Or.inl rfl
      | exact Or.inr rfl
      | (show (_ : Int32) = 0 ∨ _ = 1; simp (disch := first | omega | decide) only [zcn, zkpl, zki, zki1, zk8, zk16, zo32, zlt0, zle0, zeq0, zgt0, zLe0, nI_ltI, nI_leI, nI_eq, nI_add, nI_clamp, vp_in_nI, zup_s, zup_n, upd_s, upd_n, ne_eq, not_true_eq_false, not_false_eq_true, zeq1, true_or, or_true]; done))
  have e93 := (hX.mv (a + 2 + k)).2.2
  have f5 : ZW 83 (0, 0, 0, 0) 45 [(1, .int (nI (pe w wl (a + 1)))), (0, .ref 9)] [.int (nI 47)] (SH, zup m1 9 3 (nI (a + 2 + k))) Q := by
    refine zgo 20 [] ?_
    repeat' (first
      | (exact zcm (by simp (disch := first | omega | decide) only [zup2, zcn, zkpl, zki, zki1, zk8, zk16, zo32, zlt0, zle0, zeq0, zgt0, zLe0, nI_ltI, nI_leI, nI_eq, nI_add, nI_clamp, vp_in_nI, zup_s, zup_n, upd_s, upd_n, ne_eq, not_true_eq_false, not_false_eq_true]) (he2.use f6))
      | (show vp_in _ _; simp (disch := first | omega | decide) only [zcn, zkpl, zki, zki1, zk8, zk16, zo32, zlt0, zle0, zeq0, zgt0, zLe0, nI_ltI, nI_leI, nI_eq, nI_add, nI_clamp, vp_in_nI, zup_s, zup_n, upd_s, upd_n, ne_eq, not_true_eq_false, not_false_eq_true]; done)
      | (intro hc; exfalso; simp (disch := first | omega | decide) only [zcn, zkpl, zki, zki1, zk8, zk16, zo32, zlt0, zle0, zeq0, zgt0, zLe0, nI_ltI, nI_leI, nI_eq, nI_add, nI_clamp, vp_in_nI, zup_s, zup_n, upd_s, upd_n, ne_eq, not_true_eq_false, not_false_eq_true] at hc <;> omega)
      | (intro hc; exact absurd rfl hc)
      | intro hc
      | apply And.intro
      | exact Or.inl rfl
      | exact Or.inr rfl
      | (show (_ : Int32) = 0 ∨ _ = 1; simp (disch := first | omega | decide) only [zcn, zkpl, zki, zki1, zk8, zk16, zo32, zlt0, zle0, zeq0, zgt0, zLe0, nI_ltI, nI_leI, nI_eq, nI_add, nI_clamp, vp_in_nI, zup_s, zup_n, upd_s, upd_n, ne_eq, not_true_eq_false, not_false_eq_true, zeq1, true_or, or_true]; done))
  have f4 : ZW 83 (0, 0, 0, 0) 40 [(1, .int (nI (pe w wl (a + 1)))), (0, .ref 9)] [] (SH, zup m1 9 3 (nI (a + 2 + k))) Q := by
    refine zgo 20 [] ?_
    repeat' (first
      | (exact hp2.use f5)
      | (show vp_in _ _; simp (disch := first | omega | decide) only [zcn, zkpl, zki, zki1, zk8, zk16, zo32, zlt0, zle0, zeq0, zgt0, zLe0, nI_ltI, nI_leI, nI_eq, nI_add, nI_clamp, vp_in_nI, zup_s, zup_n, upd_s, upd_n, ne_eq, not_true_eq_false, not_false_eq_true]; done)
      | (intro hc; exfalso; simp (disch := first | omega | decide) only [zcn, zkpl, zki, zki1, zk8, zk16, zo32, zlt0, zle0, zeq0, zgt0, zLe0, nI_ltI, nI_leI, nI_eq, nI_add, nI_clamp, vp_in_nI, zup_s, zup_n, upd_s, upd_n, ne_eq, not_true_eq_false, not_false_eq_true] at hc <;> omega)
      | (intro hc; exact absurd rfl hc)
      | intro hc
      | apply And.intro
      | exact Or.inl rfl
      | exact Or.inr rfl
      | (show (_ : Int32) = 0 ∨ _ = 1; simp (disch := first | omega | decide) only [zcn, zkpl, zki, zki1, zk8, zk16, zo32, zlt0, zle0, zeq0, zgt0, zLe0, nI_ltI, nI_leI, nI_eq, nI_add, nI_clamp, vp_in_nI, zup_s, zup_n, upd_s, upd_n, ne_eq, not_true_eq_false, not_false_eq_true, zeq1, true_or, or_true]; done))
  have h93 := hX.2.2
  have f3 : ZW 83 (0, 0, 0, 0) 21 [(1, .int (nI (pe w wl (a + 1)))), (0, .ref 9)] [.int 1] (SH, m1) Q := by
    refine zgo 20 [] ?_
    repeat' (first
      | (exact zcm (by simp (disch := first | omega | decide) only [h93, zcn, zkpl, zki, zki1, zk8, zk16, zo32, zlt0, zle0, zeq0, zgt0, zLe0, nI_ltI, nI_leI, nI_eq, nI_add, nI_clamp, vp_in_nI, zup_s, zup_n, upd_s, upd_n, ne_eq, not_true_eq_false, not_false_eq_true]) (hs.use f4))
      | (show vp_in _ _; simp (disch := first | omega | decide) only [z10, zcn, zkpl, zki, zki1, zk8, zk16, zo32, zlt0, zle0, zeq0, zgt0, zLe0, nI_ltI, nI_leI, nI_eq, nI_add, nI_clamp, vp_in_nI, zup_s, zup_n, upd_s, upd_n, ne_eq, not_true_eq_false, not_false_eq_true]; done)
      | (intro hc; exfalso; simp (disch := first | omega | decide) only [z10, zcn, zkpl, zki, zki1, zk8, zk16, zo32, zlt0, zle0, zeq0, zgt0, zLe0, nI_ltI, nI_leI, nI_eq, nI_add, nI_clamp, vp_in_nI, zup_s, zup_n, upd_s, upd_n, ne_eq, not_true_eq_false, not_false_eq_true] at hc <;> omega)
      | (intro hc; exact absurd rfl hc)
      | intro hc
      | apply And.intro
      | exact Or.inl rfl
      | exact Or.inr rfl
      | (show (_ : Int32) = 0 ∨ _ = 1; simp (disch := first | omega | decide) only [z10, zcn, zkpl, zki, zki1, zk8, zk16, zo32, zlt0, zle0, zeq0, zgt0, zLe0, nI_ltI, nI_leI, nI_eq, nI_add, nI_clamp, vp_in_nI, zup_s, zup_n, upd_s, upd_n, ne_eq, not_true_eq_false, not_false_eq_true, zeq1, true_or, or_true]; done))
  have f2 : ZW 83 (0, 0, 0, 0) 10 [(1, .int (nI (pe w wl (a + 1)))), (0, .ref 9)] [.int 1] (SH, m) Q := by
    refine zgo 20 [] ?_
    repeat' (first
      | (exact he.use f3)
      | (show vp_in _ _; simp (disch := first | omega | decide) only [z10, zcn, zkpl, zki, zki1, zk8, zk16, zo32, zlt0, zle0, zeq0, zgt0, zLe0, nI_ltI, nI_leI, nI_eq, nI_add, nI_clamp, vp_in_nI, zup_s, zup_n, upd_s, upd_n, ne_eq, not_true_eq_false, not_false_eq_true]; done)
      | (intro hc; exfalso; simp (disch := first | omega | decide) only [z10, zcn, zkpl, zki, zki1, zk8, zk16, zo32, zlt0, zle0, zeq0, zgt0, zLe0, nI_ltI, nI_leI, nI_eq, nI_add, nI_clamp, vp_in_nI, zup_s, zup_n, upd_s, upd_n, ne_eq, not_true_eq_false, not_false_eq_true] at hc <;> omega)
      | (intro hc; exact absurd rfl hc)
      | intro hc
      | apply And.intro
      | exact Or.inl rfl
      | exact Or.inr rfl
      | (show (_ : Int32) = 0 ∨ _ = 1; simp (disch := first | omega | decide) only [z10, zcn, zkpl, zki, zki1, zk8, zk16, zo32, zlt0, zle0, zeq0, zgt0, zLe0, nI_ltI, nI_leI, nI_eq, nI_add, nI_clamp, vp_in_nI, zup_s, zup_n, upd_s, upd_n, ne_eq, not_true_eq_false, not_false_eq_true, zeq1, true_or, or_true]; done))
  have f1 : ZW 83 (0, 0, 0, 0) 5 [(0, .ref 9)] [.int (nI (pe w wl (a + 1)))] (SH, m) Q := by
    refine zgo 20 [] ?_
    repeat' (first
      | (exact (ev_isL (b := 1) hpl (Or.inl ⟨rfl, hL⟩)).use f2)
      | (show vp_in _ _; simp (disch := first | omega | decide) only [zcn, zkpl, zki, zki1, zk8, zk16, zo32, zlt0, zle0, zeq0, zgt0, zLe0, nI_ltI, nI_leI, nI_eq, nI_add, nI_clamp, vp_in_nI, zup_s, zup_n, upd_s, upd_n, ne_eq, not_true_eq_false, not_false_eq_true]; done)
      | (intro hc; exfalso; simp (disch := first | omega | decide) only [zcn, zkpl, zki, zki1, zk8, zk16, zo32, zlt0, zle0, zeq0, zgt0, zLe0, nI_ltI, nI_leI, nI_eq, nI_add, nI_clamp, vp_in_nI, zup_s, zup_n, upd_s, upd_n, ne_eq, not_true_eq_false, not_false_eq_true] at hc <;> omega)
      | (intro hc; exact absurd rfl hc)
      | intro hc
      | apply And.intro
      | exact Or.inl rfl
      | exact Or.inr rfl
      | (show (_ : Int32) = 0 ∨ _ = 1; simp (disch := first | omega | decide) only [zcn, zkpl, zki, zki1, zk8, zk16, zo32, zlt0, zle0, zeq0, zgt0, zLe0, nI_ltI, nI_leI, nI_eq, nI_add, nI_clamp, vp_in_nI, zup_s, zup_n, upd_s, upd_n, ne_eq, not_true_eq_false, not_false_eq_true, zeq1, true_or, or_true]; done))
  refine zgo 20 [] ?_
  repeat' (first
    | (exact hp.use f1)
    | (show vp_in _ _; simp (disch := first | omega | decide) only [zcn, zkpl, zki, zki1, zk8, zk16, zo32, zlt0, zle0, zeq0, zgt0, zLe0, nI_ltI, nI_leI, nI_eq, nI_add, nI_clamp, vp_in_nI, zup_s, zup_n, upd_s, upd_n, ne_eq, not_true_eq_false, not_false_eq_true]; done)
    | (intro hc; exfalso; simp (disch := first | omega | decide) only [zcn, zkpl, zki, zki1, zk8, zk16, zo32, zlt0, zle0, zeq0, zgt0, zLe0, nI_ltI, nI_leI, nI_eq, nI_add, nI_clamp, vp_in_nI, zup_s, zup_n, upd_s, upd_n, ne_eq, not_true_eq_false, not_false_eq_true] at hc <;> omega)
    | (intro hc; exact absurd rfl hc)
    | intro hc
    | apply And.intro
    | exact Or.inl rfl
    | exact Or.inr rfl
    | (show (_ : Int32) = 0 ∨ _ = 1; simp (disch := first | omega | decide) only [zcn, zkpl, zki, zki1, zk8, zk16, zo32, zlt0, zle0, zeq0, zgt0, zLe0, nI_ltI, nI_leI, nI_eq, nI_add, nI_clamp, vp_in_nI, zup_s, zup_n, upd_s, upd_n, ne_eq, not_true_eq_false, not_false_eq_true, zeq1, true_or, or_true]; done))
