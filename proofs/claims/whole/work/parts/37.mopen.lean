/-! the model's begin signs -/
theorem es_isL {m : zM} {c : Nat} (hc8 : c ≤ 126) {b : Int32} (hb : (b = 1 ∧ isL c) ∨ (b = 0 ∧ ¬ isL c)) : Ev 163 [.int (nI c)] m (some (.int b)) m := by
  intro Q hQ
  unfold isL at hb
  by_cases e1 : c < 65
  · obtain rfl : b = 0 := by
      rcases hb with hb | hb
      · omega
      · exact hb.1
    refine zgo 30 [] ?_
    repeat' (first
      | (show vp_in _ _; simp (disch := first | omega | decide) only [zcn, zkpl, zki, zki1, zk8, zk16, zo32, zlt0, zle0, zeq0, zgt0, zLe0, nI_ltI, nI_leI, nI_eq, nI_add, nI_clamp, vp_in_nI, zup_s, zup_n, upd_s, upd_n, ne_eq, not_true_eq_false, not_false_eq_true]; done)
      | (intro hc; exfalso; simp (disch := first | omega | decide) only [zcn, zkpl, zki, zki1, zk8, zk16, zo32, zlt0, zle0, zeq0, zgt0, zLe0, nI_ltI, nI_leI, nI_eq, nI_add, nI_clamp, vp_in_nI, zup_s, zup_n, upd_s, upd_n, ne_eq, not_true_eq_false, not_false_eq_true] at hc <;> omega)
      | (intro hc; exact absurd rfl hc)
      | intro hc
      | apply And.intro
      | exact hQ
      | (show Q _ (SH, _); simp (disch := first | omega | decide) only [zcn, zkpl, zki, zki1, zk8, zk16, zo32, zlt0, zle0, zeq0, zgt0, zLe0, nI_ltI, nI_leI, nI_eq, nI_add, nI_clamp, vp_in_nI, zup_s, zup_n, upd_s, upd_n, ne_eq, not_true_eq_false, not_false_eq_true]; exact hQ)
      | exact Or.inl rfl
      | exact Or.inr rfl
      | (show (_ : Int32) = 0 ∨ _ = 1; simp (disch := first | omega | decide) only [zcn, zkpl, zki, zki1, zk8, zk16, zo32, zlt0, zle0, zeq0, zgt0, zLe0, nI_ltI, nI_leI, nI_eq, nI_add, nI_clamp, vp_in_nI, zup_s, zup_n, upd_s, upd_n, ne_eq, not_true_eq_false, not_false_eq_true, zeq1, true_or, or_true]; done))
  · by_cases e2 : c ≤ 90
    · obtain rfl : b = 1 := by
        rcases hb with hb | hb
        · exact hb.1
        · omega
      refine zgo 30 [] ?_
      repeat' (first
        | (show vp_in _ _; simp (disch := first | omega | decide) only [zcn, zkpl, zki, zki1, zk8, zk16, zo32, zlt0, zle0, zeq0, zgt0, zLe0, nI_ltI, nI_leI, nI_eq, nI_add, nI_clamp, vp_in_nI, zup_s, zup_n, upd_s, upd_n, ne_eq, not_true_eq_false, not_false_eq_true]; done)
        | (intro hc; exfalso; simp (disch := first | omega | decide) only [zcn, zkpl, zki, zki1, zk8, zk16, zo32, zlt0, zle0, zeq0, zgt0, zLe0, nI_ltI, nI_leI, nI_eq, nI_add, nI_clamp, vp_in_nI, zup_s, zup_n, upd_s, upd_n, ne_eq, not_true_eq_false, not_false_eq_true] at hc <;> omega)
        | (intro hc; exact absurd rfl hc)
        | intro hc
        | apply And.intro
        | exact hQ
        | (show Q _ (SH, _); simp (disch := first | omega | decide) only [zcn, zkpl, zki, zki1, zk8, zk16, zo32, zlt0, zle0, zeq0, zgt0, zLe0, nI_ltI, nI_leI, nI_eq, nI_add, nI_clamp, vp_in_nI, zup_s, zup_n, upd_s, upd_n, ne_eq, not_true_eq_false, not_false_eq_true]; exact hQ)
        | exact Or.inl rfl
        | exact Or.inr rfl
        | (show (_ : Int32) = 0 ∨ _ = 1; simp (disch := first | omega | decide) only [zcn, zkpl, zki, zki1, zk8, zk16, zo32, zlt0, zle0, zeq0, zgt0, zLe0, nI_ltI, nI_leI, nI_eq, nI_add, nI_clamp, vp_in_nI, zup_s, zup_n, upd_s, upd_n, ne_eq, not_true_eq_false, not_false_eq_true, zeq1, true_or, or_true]; done))
    · by_cases e3 : c < 97
      · obtain rfl : b = 0 := by
          rcases hb with hb | hb
          · omega
          · exact hb.1
        refine zgo 30 [] ?_
        repeat' (first
          | (show vp_in _ _; simp (disch := first | omega | decide) only [zcn, zkpl, zki, zki1, zk8, zk16, zo32, zlt0, zle0, zeq0, zgt0, zLe0, nI_ltI, nI_leI, nI_eq, nI_add, nI_clamp, vp_in_nI, zup_s, zup_n, upd_s, upd_n, ne_eq, not_true_eq_false, not_false_eq_true]; done)
          | (intro hc; exfalso; simp (disch := first | omega | decide) only [zcn, zkpl, zki, zki1, zk8, zk16, zo32, zlt0, zle0, zeq0, zgt0, zLe0, nI_ltI, nI_leI, nI_eq, nI_add, nI_clamp, vp_in_nI, zup_s, zup_n, upd_s, upd_n, ne_eq, not_true_eq_false, not_false_eq_true] at hc <;> omega)
          | (intro hc; exact absurd rfl hc)
          | intro hc
          | apply And.intro
          | exact hQ
          | (show Q _ (SH, _); simp (disch := first | omega | decide) only [zcn, zkpl, zki, zki1, zk8, zk16, zo32, zlt0, zle0, zeq0, zgt0, zLe0, nI_ltI, nI_leI, nI_eq, nI_add, nI_clamp, vp_in_nI, zup_s, zup_n, upd_s, upd_n, ne_eq, not_true_eq_false, not_false_eq_true]; exact hQ)
          | exact Or.inl rfl
          | exact Or.inr rfl
          | (show (_ : Int32) = 0 ∨ _ = 1; simp (disch := first | omega | decide) only [zcn, zkpl, zki, zki1, zk8, zk16, zo32, zlt0, zle0, zeq0, zgt0, zLe0, nI_ltI, nI_leI, nI_eq, nI_add, nI_clamp, vp_in_nI, zup_s, zup_n, upd_s, upd_n, ne_eq, not_true_eq_false, not_false_eq_true, zeq1, true_or, or_true]; done))
      · by_cases e4 : c ≤ 122
        · obtain rfl : b = 1 := by
            rcases hb with hb | hb
            · exact hb.1
            · omega
          refine zgo 30 [] ?_
          repeat' (first
            | (show vp_in _ _; simp (disch := first | omega | decide) only [zcn, zkpl, zki, zki1, zk8, zk16, zo32, zlt0, zle0, zeq0, zgt0, zLe0, nI_ltI, nI_leI, nI_eq, nI_add, nI_clamp, vp_in_nI, zup_s, zup_n, upd_s, upd_n, ne_eq, not_true_eq_false, not_false_eq_true]; done)
            | (intro hc; exfalso; simp (disch := first | omega | decide) only [zcn, zkpl, zki, zki1, zk8, zk16, zo32, zlt0, zle0, zeq0, zgt0, zLe0, nI_ltI, nI_leI, nI_eq, nI_add, nI_clamp, vp_in_nI, zup_s, zup_n, upd_s, upd_n, ne_eq, not_true_eq_false, not_false_eq_true] at hc <;> omega)
            | (intro hc; exact absurd rfl hc)
            | intro hc
            | apply And.intro
            | exact hQ
            | (show Q _ (SH, _); simp (disch := first | omega | decide) only [zcn, zkpl, zki, zki1, zk8, zk16, zo32, zlt0, zle0, zeq0, zgt0, zLe0, nI_ltI, nI_leI, nI_eq, nI_add, nI_clamp, vp_in_nI, zup_s, zup_n, upd_s, upd_n, ne_eq, not_true_eq_false, not_false_eq_true]; exact hQ)
            | exact Or.inl rfl
            | exact Or.inr rfl
            | (show (_ : Int32) = 0 ∨ _ = 1; simp (disch := first | omega | decide) only [zcn, zkpl, zki, zki1, zk8, zk16, zo32, zlt0, zle0, zeq0, zgt0, zLe0, nI_ltI, nI_leI, nI_eq, nI_add, nI_clamp, vp_in_nI, zup_s, zup_n, upd_s, upd_n, ne_eq, not_true_eq_false, not_false_eq_true, zeq1, true_or, or_true]; done))
        · obtain rfl : b = 0 := by
            rcases hb with hb | hb
            · omega
            · exact hb.1
          refine zgo 30 [] ?_
          repeat' (first
            | (show vp_in _ _; simp (disch := first | omega | decide) only [zcn, zkpl, zki, zki1, zk8, zk16, zo32, zlt0, zle0, zeq0, zgt0, zLe0, nI_ltI, nI_leI, nI_eq, nI_add, nI_clamp, vp_in_nI, zup_s, zup_n, upd_s, upd_n, ne_eq, not_true_eq_false, not_false_eq_true]; done)
            | (intro hc; exfalso; simp (disch := first | omega | decide) only [zcn, zkpl, zki, zki1, zk8, zk16, zo32, zlt0, zle0, zeq0, zgt0, zLe0, nI_ltI, nI_leI, nI_eq, nI_add, nI_clamp, vp_in_nI, zup_s, zup_n, upd_s, upd_n, ne_eq, not_true_eq_false, not_false_eq_true] at hc <;> omega)
            | (intro hc; exact absurd rfl hc)
            | intro hc
            | apply And.intro
            | exact hQ
            | (show Q _ (SH, _); simp (disch := first | omega | decide) only [zcn, zkpl, zki, zki1, zk8, zk16, zo32, zlt0, zle0, zeq0, zgt0, zLe0, nI_ltI, nI_leI, nI_eq, nI_add, nI_clamp, vp_in_nI, zup_s, zup_n, upd_s, upd_n, ne_eq, not_true_eq_false, not_false_eq_true]; exact hQ)
            | exact Or.inl rfl
            | exact Or.inr rfl
            | (show (_ : Int32) = 0 ∨ _ = 1; simp (disch := first | omega | decide) only [zcn, zkpl, zki, zki1, zk8, zk16, zo32, zlt0, zle0, zeq0, zgt0, zLe0, nI_ltI, nI_leI, nI_eq, nI_add, nI_clamp, vp_in_nI, zup_s, zup_n, upd_s, upd_n, ne_eq, not_true_eq_false, not_false_eq_true, zeq1, true_or, or_true]; done))
theorem m_168_no {w : Nat → Nat} {wl a : Nat} (ho : okT w wl) {u : zM} {s : pS} (hx : mX w wl u a) (hd : mD u s) (hi : sI a s) (ha : a < wl) (h : ¬ isL (pe w wl (a + 1)) ∨ (s 0 3 = 0 ∧ 0 < s 0 1) ∨ s 0 3 = 4) : Ev 168 [.ref 42] u none (zup u 42 21 0) := by
  have hl := ho.1
  obtain ⟨h1, h2, h3⟩ := hx
  have i1 := hi.1
  have d3 := hd.1.2.2.1
  have d4 := hd.1.2.2.2
  intro Q hQ
  by_cases e : a + 1 < wl
  · have g2 := h2 (a + 1) e
    have g3 := (ho.2 (a + 1) e).2
    rw [pe_w e] at h
    have f1 : ∀ b : Int32, (b = 1 ∧ isL (w (a + 1))) ∨ (b = 0 ∧ ¬ isL (w (a + 1))) → ZW 168 (0, 0, 0, 0) 28 [(0, .ref 42)] [.int b, .ref 42] (SH, u) Q := by
      intro b hb
      rcases hb with ⟨rfl, hb⟩ | ⟨rfl, hb⟩
      · have h' := h.resolve_left (fun g => g hb)
        by_cases e0 : s 0 3 = 0
        · rw [e0] at d3
          rw [if_neg (by omega)] at d4
          refine zgo 40 [] ?_
          repeat' (first
            | (show vp_in _ _; simp (disch := first | omega | decide) only [d3, d4, z10, zcn, zkpl, zki, zki1, zk8, zk16, zo32, zlt0, zle0, zeq0, zgt0, zLe0, nI_ltI, nI_leI, nI_eq, nI_add, nI_clamp, vp_in_nI, zup_s, zup_n, upd_s, upd_n, ne_eq, not_true_eq_false, not_false_eq_true]; done)
            | (intro hc; exfalso; simp (disch := first | omega | decide) only [d3, d4, z10, zcn, zkpl, zki, zki1, zk8, zk16, zo32, zlt0, zle0, zeq0, zgt0, zLe0, nI_ltI, nI_leI, nI_eq, nI_add, nI_clamp, vp_in_nI, zup_s, zup_n, upd_s, upd_n, ne_eq, not_true_eq_false, not_false_eq_true] at hc <;> omega)
            | (intro hc; exact absurd rfl hc)
            | intro hc
            | apply And.intro
            | exact hQ
            | (show Q _ (SH, _); simp (disch := first | omega | decide) only [d3, d4, z10, zcn, zkpl, zki, zki1, zk8, zk16, zo32, zlt0, zle0, zeq0, zgt0, zLe0, nI_ltI, nI_leI, nI_eq, nI_add, nI_clamp, vp_in_nI, zup_s, zup_n, upd_s, upd_n, ne_eq, not_true_eq_false, not_false_eq_true]; exact hQ)
            | exact Or.inl rfl
            | exact Or.inr rfl
            | (show (_ : Int32) = 0 ∨ _ = 1; simp (disch := first | omega | decide) only [d3, d4, z10, zcn, zkpl, zki, zki1, zk8, zk16, zo32, zlt0, zle0, zeq0, zgt0, zLe0, nI_ltI, nI_leI, nI_eq, nI_add, nI_clamp, vp_in_nI, zup_s, zup_n, upd_s, upd_n, ne_eq, not_true_eq_false, not_false_eq_true, zeq1, true_or, or_true]; done))
        · have e4 : s 0 3 = 4 := by omega
          rw [e4] at d3
          refine zgo 40 [] ?_
          repeat' (first
            | (show vp_in _ _; simp (disch := first | omega | decide) only [d3, z10, zcn, zkpl, zki, zki1, zk8, zk16, zo32, zlt0, zle0, zeq0, zgt0, zLe0, nI_ltI, nI_leI, nI_eq, nI_add, nI_clamp, vp_in_nI, zup_s, zup_n, upd_s, upd_n, ne_eq, not_true_eq_false, not_false_eq_true]; done)
            | (intro hc; exfalso; simp (disch := first | omega | decide) only [d3, z10, zcn, zkpl, zki, zki1, zk8, zk16, zo32, zlt0, zle0, zeq0, zgt0, zLe0, nI_ltI, nI_leI, nI_eq, nI_add, nI_clamp, vp_in_nI, zup_s, zup_n, upd_s, upd_n, ne_eq, not_true_eq_false, not_false_eq_true] at hc <;> omega)
            | (intro hc; exact absurd rfl hc)
            | intro hc
            | apply And.intro
            | exact hQ
            | (show Q _ (SH, _); simp (disch := first | omega | decide) only [d3, z10, zcn, zkpl, zki, zki1, zk8, zk16, zo32, zlt0, zle0, zeq0, zgt0, zLe0, nI_ltI, nI_leI, nI_eq, nI_add, nI_clamp, vp_in_nI, zup_s, zup_n, upd_s, upd_n, ne_eq, not_true_eq_false, not_false_eq_true]; exact hQ)
            | exact Or.inl rfl
            | exact Or.inr rfl
            | (show (_ : Int32) = 0 ∨ _ = 1; simp (disch := first | omega | decide) only [d3, z10, zcn, zkpl, zki, zki1, zk8, zk16, zo32, zlt0, zle0, zeq0, zgt0, zLe0, nI_ltI, nI_leI, nI_eq, nI_add, nI_clamp, vp_in_nI, zup_s, zup_n, upd_s, upd_n, ne_eq, not_true_eq_false, not_false_eq_true, zeq1, true_or, or_true]; done))
      · refine zgo 40 [] ?_
        repeat' (first
          | (show vp_in _ _; simp (disch := first | omega | decide) only [z10, zcn, zkpl, zki, zki1, zk8, zk16, zo32, zlt0, zle0, zeq0, zgt0, zLe0, nI_ltI, nI_leI, nI_eq, nI_add, nI_clamp, vp_in_nI, zup_s, zup_n, upd_s, upd_n, ne_eq, not_true_eq_false, not_false_eq_true]; done)
          | (intro hc; exfalso; simp (disch := first | omega | decide) only [z10, zcn, zkpl, zki, zki1, zk8, zk16, zo32, zlt0, zle0, zeq0, zgt0, zLe0, nI_ltI, nI_leI, nI_eq, nI_add, nI_clamp, vp_in_nI, zup_s, zup_n, upd_s, upd_n, ne_eq, not_true_eq_false, not_false_eq_true] at hc <;> omega)
          | (intro hc; exact absurd rfl hc)
          | intro hc
          | apply And.intro
          | exact hQ
          | (show Q _ (SH, _); simp (disch := first | omega | decide) only [z10, zcn, zkpl, zki, zki1, zk8, zk16, zo32, zlt0, zle0, zeq0, zgt0, zLe0, nI_ltI, nI_leI, nI_eq, nI_add, nI_clamp, vp_in_nI, zup_s, zup_n, upd_s, upd_n, ne_eq, not_true_eq_false, not_false_eq_true]; exact hQ)
          | exact Or.inl rfl
          | exact Or.inr rfl
          | (show (_ : Int32) = 0 ∨ _ = 1; simp (disch := first | omega | decide) only [z10, zcn, zkpl, zki, zki1, zk8, zk16, zo32, zlt0, zle0, zeq0, zgt0, zLe0, nI_ltI, nI_leI, nI_eq, nI_add, nI_clamp, vp_in_nI, zup_s, zup_n, upd_s, upd_n, ne_eq, not_true_eq_false, not_false_eq_true, zeq1, true_or, or_true]; done))
    have e4 : u 43 (u 42 20 + Int32.ofInt 1).toNatClampNeg = nI (w (a + 1)) := by
      simp (disch := first | omega | decide) only [h3, g2, zcn, zkpl, zki, zki1, zk8, zk16, zo32, zlt0, zle0, zeq0, zgt0, zLe0, nI_ltI, nI_leI, nI_eq, nI_add, nI_clamp, vp_in_nI, zup_s, zup_n, upd_s, upd_n, ne_eq, not_true_eq_false, not_false_eq_true]
    by_cases e3 : isL (w (a + 1))
    · have s1 := es_isL (m := u) (b := 1) g3 (Or.inl ⟨rfl, e3⟩)
      rw [← e4] at s1
      refine zgo 40 [] ?_
      repeat' (first
        | (exact s1.use (f1 1 (Or.inl ⟨rfl, e3⟩)))
        | (show vp_in _ _; simp (disch := first | omega | decide) only [h1, h3, zcn, zkpl, zki, zki1, zk8, zk16, zo32, zlt0, zle0, zeq0, zgt0, zLe0, nI_ltI, nI_leI, nI_eq, nI_add, nI_clamp, vp_in_nI, zup_s, zup_n, upd_s, upd_n, ne_eq, not_true_eq_false, not_false_eq_true]; done)
        | (intro hc; exfalso; simp (disch := first | omega | decide) only [h1, h3, zcn, zkpl, zki, zki1, zk8, zk16, zo32, zlt0, zle0, zeq0, zgt0, zLe0, nI_ltI, nI_leI, nI_eq, nI_add, nI_clamp, vp_in_nI, zup_s, zup_n, upd_s, upd_n, ne_eq, not_true_eq_false, not_false_eq_true] at hc <;> omega)
        | (intro hc; exact absurd rfl hc)
        | intro hc
        | apply And.intro
        | exact Or.inl rfl
        | exact Or.inr rfl
        | (show (_ : Int32) = 0 ∨ _ = 1; simp (disch := first | omega | decide) only [h1, h3, zcn, zkpl, zki, zki1, zk8, zk16, zo32, zlt0, zle0, zeq0, zgt0, zLe0, nI_ltI, nI_leI, nI_eq, nI_add, nI_clamp, vp_in_nI, zup_s, zup_n, upd_s, upd_n, ne_eq, not_true_eq_false, not_false_eq_true, zeq1, true_or, or_true]; done))
    · have s1 := es_isL (m := u) (b := 0) g3 (Or.inr ⟨rfl, e3⟩)
      rw [← e4] at s1
      refine zgo 40 [] ?_
      repeat' (first
        | (exact s1.use (f1 0 (Or.inr ⟨rfl, e3⟩)))
        | (show vp_in _ _; simp (disch := first | omega | decide) only [h1, h3, zcn, zkpl, zki, zki1, zk8, zk16, zo32, zlt0, zle0, zeq0, zgt0, zLe0, nI_ltI, nI_leI, nI_eq, nI_add, nI_clamp, vp_in_nI, zup_s, zup_n, upd_s, upd_n, ne_eq, not_true_eq_false, not_false_eq_true]; done)
        | (intro hc; exfalso; simp (disch := first | omega | decide) only [h1, h3, zcn, zkpl, zki, zki1, zk8, zk16, zo32, zlt0, zle0, zeq0, zgt0, zLe0, nI_ltI, nI_leI, nI_eq, nI_add, nI_clamp, vp_in_nI, zup_s, zup_n, upd_s, upd_n, ne_eq, not_true_eq_false, not_false_eq_true] at hc <;> omega)
        | (intro hc; exact absurd rfl hc)
        | intro hc
        | apply And.intro
        | exact Or.inl rfl
        | exact Or.inr rfl
        | (show (_ : Int32) = 0 ∨ _ = 1; simp (disch := first | omega | decide) only [h1, h3, zcn, zkpl, zki, zki1, zk8, zk16, zo32, zlt0, zle0, zeq0, zgt0, zLe0, nI_ltI, nI_leI, nI_eq, nI_add, nI_clamp, vp_in_nI, zup_s, zup_n, upd_s, upd_n, ne_eq, not_true_eq_false, not_false_eq_true, zeq1, true_or, or_true]; done))
  · refine zgo 40 [] ?_
    repeat' (first
      | (show vp_in _ _; simp (disch := first | omega | decide) only [h1, h3, zcn, zkpl, zki, zki1, zk8, zk16, zo32, zlt0, zle0, zeq0, zgt0, zLe0, nI_ltI, nI_leI, nI_eq, nI_add, nI_clamp, vp_in_nI, zup_s, zup_n, upd_s, upd_n, ne_eq, not_true_eq_false, not_false_eq_true]; done)
      | (intro hc; exfalso; simp (disch := first | omega | decide) only [h1, h3, zcn, zkpl, zki, zki1, zk8, zk16, zo32, zlt0, zle0, zeq0, zgt0, zLe0, nI_ltI, nI_leI, nI_eq, nI_add, nI_clamp, vp_in_nI, zup_s, zup_n, upd_s, upd_n, ne_eq, not_true_eq_false, not_false_eq_true] at hc <;> omega)
      | (intro hc; exact absurd rfl hc)
      | intro hc
      | apply And.intro
      | exact hQ
      | (show Q _ (SH, _); simp (disch := first | omega | decide) only [h1, h3, zcn, zkpl, zki, zki1, zk8, zk16, zo32, zlt0, zle0, zeq0, zgt0, zLe0, nI_ltI, nI_leI, nI_eq, nI_add, nI_clamp, vp_in_nI, zup_s, zup_n, upd_s, upd_n, ne_eq, not_true_eq_false, not_false_eq_true]; exact hQ)
      | exact Or.inl rfl
      | exact Or.inr rfl
      | (show (_ : Int32) = 0 ∨ _ = 1; simp (disch := first | omega | decide) only [h1, h3, zcn, zkpl, zki, zki1, zk8, zk16, zo32, zlt0, zle0, zeq0, zgt0, zLe0, nI_ltI, nI_leI, nI_eq, nI_add, nI_clamp, vp_in_nI, zup_s, zup_n, upd_s, upd_n, ne_eq, not_true_eq_false, not_false_eq_true, zeq1, true_or, or_true]; done))
def mbA (u : zM) (s : pS) (c : Nat) (x : Int32) : zM := zup (zup (zup (zup (zup (zup (zup (zup (zup u 42 21 1) 44 (s 0 1) (nI c)) 45 (s 0 1) x) 46 (s 0 1) (nI 0)) 47 (s 0 1) (nI 0)) 48 (s 0 1) (nI (s 0 2))) 49 (s 0 1) (nI (s 0 2))) 42 14 (nI (s 0 1 + 1))) 42 19 1
/-- an element begun, not yet open -/
def mbg (u : zM) (s : pS) (c : Nat) : zM := if s 0 3 = 0 then mbA u s c (-1) else zup (mbA u s c (nI (s 7 (s 0 3 - 1)))) 46 (s 7 (s 0 3 - 1)) (nI (kc (s 9) (s 7 (s 0 3 - 1)) (s 0 1) + 1))
theorem mbg_x {w : Nat → Nat} {wl a c : Nat} {u : zM} {s : pS} (hx : mX w wl u a) : mX w wl (mbg u s c) a := by
  refine hx.cg ?_ ?_ ?_ <;> (unfold mbg; split <;> rfl)
theorem mbg_G {u : zM} {s : pS} {c : Nat} : mG u (mbg u s c) := by
  have hA : ∀ x, mG u (mbA u s c x) := fun x => (mG_f u _ (by decide)).tr ((mG_a _ _ (by decide)).tr ((mG_a _ _ (by decide)).tr ((mG_a _ _ (by decide)).tr ((mG_a _ _ (by decide)).tr ((mG_a _ _ (by decide)).tr ((mG_a _ _ (by decide)).tr ((mG_f _ _ (by decide)).tr (mG_f _ _ (by decide)))))))))
  unfold mbg
  split
  · exact hA _
  · exact (hA _).tr (mG_a _ _ (by decide))
theorem mbg_kc {u : zM} {s : pS} {a c : Nat} (h : mD u s) (hi : sI a s) (h0 : s 0 3 = 0 → s 0 1 = 0) : ∀ j, j < s 0 1 + 1 → mbg u s c 46 j = nI (kc (ud (s 9) (s 0 1) (s 7 (s 0 3 - 1))) j (s 0 1 + 1)) := by
  intro j hj
  have hk := h.2.2.2.2.2.2
  obtain ⟨⟨i1, i2, i3⟩, i4, i5, i6, i7, i8⟩ := hi
  rw [kc, kc_ud _ (Nat.le_refl _), ud_s]
  unfold mbg
  by_cases e : s 0 3 = 0
  · rw [if_pos e, h0 e, if_neg (by omega)]
    have := h0 e
    obtain rfl : j = 0 := by omega
    show upd (u 46) (s 0 1) (nI 0) 0 = _
    rw [this, upd_s]
    rfl
  · rw [if_neg e]
    obtain ⟨x1, x2, x3⟩ := i6 (s 0 3 - 1) (by omega)
    show upd (upd (u 46) (s 0 1) (nI 0)) (s 7 (s 0 3 - 1)) (nI (kc (s 9) (s 7 (s 0 3 - 1)) (s 0 1) + 1)) j = _
    by_cases e1 : j = s 7 (s 0 3 - 1)
    · rw [← e1, upd_s, if_pos ⟨by omega, rfl⟩]
    · rw [upd_n _ e1, if_neg (fun g => e1 g.2.symm), Nat.add_zero]
      by_cases e2 : j = s 0 1
      · rw [e2, upd_s, kc_0 _ (fun i g1 g2 => by have := (i8 i g1 g2).1; omega)]
      · rw [upd_n _ e2]
        exact hk j (by omega)
theorem ud2 (f : Nat → Nat) (k v v' : Nat) : ud (ud f k v) k v' = ud f k v' := by
  funext j
  unfold ud
  split <;> rfl
theorem mD_bgE {u : zM} {s : pS} {a c : Nat} (h : mD u s) (hi : sI a s) (h0 : s 0 3 = 0 → s 0 1 = 0) : mD (mbg u s c) (endS (begS s c) (s 0 3)) := by
  have hk := mbg_kc (c := c) h hi h0
  have i6 := hi.2.2.2.1
  obtain ⟨⟨h1, h2, h3, h4⟩, ⟨h5, h6, h7, h8⟩, h9, h10, h11, h12, h13⟩ := h
  have g19 : (1 : Int32) = nI (if s 0 1 + 1 = 0 then 0 else 1) := by
    rw [if_neg (by omega)]
    rfl
  have g49 : aR (upd (u 49) (s 0 1) (nI (s 0 2))) (ud (ud (s 5) (s 0 1) (s 0 2)) (ud (s 7) (s 0 3) (s 0 1) (s 0 3)) (s 0 2)) (s 0 1 + 1) := by
    rw [ud_s, ud2]
    exact aR_push h7 _
  have g51 : aR (u 51) (ud (s 7) (s 0 3) (s 0 1)) (s 0 3) := fun j hj => by
    rw [ud_n _ (by omega)]
    exact h9 j hj
  by_cases e : s 0 3 = 0
  · have eq : mbg u s c = mbA u s c (-1) := if_pos e
    rw [eq] at hk ⊢
    refine ⟨⟨rfl, h2, h3, g19⟩, ⟨aR_push h5 c, aR_push h6 _, g49, aR_push h8 0⟩, g51, h10, fun j g0 g1 => ?_, fun _ => ?_, hk⟩
    · have := h0 e
      have g1 : j < s 0 1 + 1 := g1
      omega
    · show upd (u 45) (s 0 1) (-1) 0 = -1
      rw [h0 e, upd_s]
  · have eq : mbg u s c = zup (mbA u s c (nI (s 7 (s 0 3 - 1)))) 46 (s 7 (s 0 3 - 1)) (nI (kc (s 9) (s 7 (s 0 3 - 1)) (s 0 1) + 1)) := if_neg e
    have x1 := (i6 (s 0 3 - 1) (by omega)).1
    rw [eq] at hk ⊢
    refine ⟨⟨rfl, h2, h3, g19⟩, ⟨aR_push h5 c, aR_push h6 _, g49, aR_push h8 0⟩, g51, h10, fun j g0 g1 => ?_, fun _ => ?_, hk⟩
    · have g1 : j < s 0 1 + 1 := g1
      show upd (u 45) (s 0 1) (nI (s 7 (s 0 3 - 1))) j = nI (ud (s 9) (s 0 1) (s 7 (s 0 3 - 1)) j)
      by_cases e2 : j = s 0 1
      · rw [e2, upd_s, ud_s]
      · rw [upd_n _ e2, ud_n _ e2]
        exact h11 j g0 (by omega)
    · show upd (u 45) (s 0 1) (nI (s 7 (s 0 3 - 1))) 0 = -1
      rw [upd_n _ (by omega)]
      exact h12 (by omega)
theorem mD_bgO {u : zM} {s : pS} {a c : Nat} (h : mD u s) (hi : sI a s) (h0 : s 0 3 = 0 → s 0 1 = 0) : mD (zup (zup (mbg u s c) 51 (s 0 3) (nI (s 0 1))) 42 18 (nI (s 0 3 + 1))) (begS s c) := by
  obtain ⟨⟨h1, h2, h3, h4⟩, ⟨h5, h6, h7, h8⟩, h9, h10, h11, h12, h13⟩ := mD_bgE (c := c) h hi h0
  have g49 : aR (mbg u s c 49) (ud (s 5) (s 0 1) (s 0 2)) (s 0 1 + 1) := by
    have : endS (begS s c) (s 0 3) 5 = ud (s 5) (s 0 1) (s 0 2) := by
      show ud (ud (s 5) (s 0 1) (s 0 2)) (ud (s 7) (s 0 3) (s 0 1) (s 0 3)) (s 0 2) = _
      rw [ud_s, ud2]
    rw [this] at h7
    exact h7
  have g51 : aR (upd (mbg u s c 51) (s 0 3) (nI (s 0 1))) (ud (s 7) (s 0 3) (s 0 1)) (s 0 3 + 1) := by
    have := aR_push h9 (s 0 1)
    rw [show endS (begS s c) (s 0 3) 7 = ud (s 7) (s 0 3) (s 0 1) from rfl, show endS (begS s c) (s 0 3) 0 3 = s 0 3 from rfl, ud2] at this
    exact this
  exact ⟨⟨h1, h2, rfl, h4⟩, ⟨h5, h6, g49, h8⟩, g51, h10, h11, h12, h13⟩
theorem m_168_to {w : Nat → Nat} {wl a k : Nat} (ho : okT w wl) {u : zM} {s : pS} (hx : mX w wl u a) (hd : mD u s) (hi : sI a s) (ha : a < wl) (hL : isL (pe w wl (a + 1))) (h0 : s 0 3 = 0 → s 0 1 = 0) (h4 : s 0 3 < 4) (hk : ∀ j, j < k → pe w wl (a + 2 + j) = 32) (hk2 : pe w wl (a + 2 + k) ≠ 32) (Q : zQ) (W : ∀ x, x = nI (s 0 1) → ZW 168 (0, 0, 0, 0) 209 [(1, .int x), (0, .ref 42)] [] (SH, zup (mbg u s (pe w wl (a + 1))) 42 20 (nI (a + 2 + k))) Q) : ZM 168 0 0 [.ref 42] (SH, u) Q := by
  have hl := ho.1
  have hx0 := hx
  obtain ⟨h1, h2, h3⟩ := hx
  have i1 := hi.1
  have e : a + 1 < wl := pe_in (w := w) (by unfold isL at hL; omega)
  have hs := es_skip ho k (a + 2) _ ((mbg_x (s := s) (c := pe w wl (a + 1)) hx0).mv (a + 2)) (by omega) hk hk2
  rw [zup2] at hs
  rw [pe_w e] at W hL hs
  have g2 := h2 (a + 1) e
  have g3 := (ho.2 (a + 1) e).2
  have hvc := vch (b := w (a + 1)) (by omega)
  have d1 := hd.1.1
  have d2 := hd.1.2.1
  have d3 := hd.1.2.2.1
  have d4 := hd.1.2.2.2
  have W1 := W (u 42 14) d1
  have hN : s 0 1 < 100 := by omega
  have f1 : ZW 168 (0, 0, 0, 0) 28 [(0, .ref 42)] [.int 1, .ref 42] (SH, u) Q := by
    by_cases e0 : s 0 3 = 0
    · rw [mbg, if_pos e0] at hs W1
      rw [h0 e0, if_pos rfl] at d4
      rw [e0] at d3
      unfold mbA at hs W1
      generalize s 0 1 = N at *
      generalize s 0 2 = L at *
      refine zgo 120 [] ?_
      repeat' (first
        | (exact zcm (by simp (disch := first | omega | decide) only [d1, d2, d3, d4, h3, g2, hvc, zboo0, zki1, zcn, zkpl, zki, zki1, zk8, zk16, zo32, zlt0, zle0, zeq0, zgt0, zLe0, nI_ltI, nI_leI, nI_eq, nI_add, nI_clamp, vp_in_nI, zup_s, zup_n, upd_s, upd_n, ne_eq, not_true_eq_false, not_false_eq_true] <;> rfl) (hs.use W1))
        | (show vp_in _ _; simp (disch := first | omega | decide) only [d1, d2, d3, d4, h3, g2, hvc, z10, zboo0, zcn, zkpl, zki, zki1, zk8, zk16, zo32, zlt0, zle0, zeq0, zgt0, zLe0, nI_ltI, nI_leI, nI_eq, nI_add, nI_clamp, vp_in_nI, zup_s, zup_n, upd_s, upd_n, ne_eq, not_true_eq_false, not_false_eq_true]; done)
        | (intro hc; exfalso; simp (disch := first | omega | decide) only [d1, d2, d3, d4, h3, g2, hvc, z10, zboo0, zcn, zkpl, zki, zki1, zk8, zk16, zo32, zlt0, zle0, zeq0, zgt0, zLe0, nI_ltI, nI_leI, nI_eq, nI_add, nI_clamp, vp_in_nI, zup_s, zup_n, upd_s, upd_n, ne_eq, not_true_eq_false, not_false_eq_true] at hc <;> omega)
        | (intro hc; exact absurd rfl hc)
        | intro hc
        | apply And.intro
        | exact Or.inl rfl
        | exact Or.inr rfl
        | (show (_ : Int32) = 0 ∨ _ = 1; simp (disch := first | omega | decide) only [d1, d2, d3, d4, h3, g2, hvc, z10, zboo0, zcn, zkpl, zki, zki1, zk8, zk16, zo32, zlt0, zle0, zeq0, zgt0, zLe0, nI_ltI, nI_leI, nI_eq, nI_add, nI_clamp, vp_in_nI, zup_s, zup_n, upd_s, upd_n, ne_eq, not_true_eq_false, not_false_eq_true, zeq1, true_or, or_true]; done))
    · obtain ⟨d, ed⟩ : ∃ d, s 0 3 = d + 1 := ⟨s 0 3 - 1, by omega⟩
      rw [mbg, if_neg e0] at hs W1
      have e46 := hd.2.2.2.2.2.2 (s 7 d) (hi.2.2.2.1 d (by omega)).1
      have e51 := hd.2.2.1 d (by omega)
      have p1 := (hi.2.2.2.1 d (by omega)).1
      rw [ed] at d3
      rw [show s 0 3 - 1 = d by omega] at hs W1
      unfold mbA at hs W1
      generalize s 0 1 = N at *
      generalize s 0 2 = L at *
      generalize s 7 d = i at *
      generalize kc (s 9) i N = kk at *
      have en : i ≠ N := by omega
      refine zgo 120 [] ?_
      repeat' (first
        | (exact zcm (by simp (disch := first | omega | decide) only [d1, d2, d3, d4, h3, g2, hvc, zboo0, e51, e46, pk_sub, Nat.add_sub_cancel, zcn, zkpl, zki, zki1, zk8, zk16, zo32, zlt0, zle0, zeq0, zgt0, zLe0, nI_ltI, nI_leI, nI_eq, nI_add, nI_clamp, vp_in_nI, zup_s, zup_n, upd_s, upd_n, ne_eq, not_true_eq_false, not_false_eq_true] <;> rfl) (hs.use W1))
        | (show vp_in _ _; simp (disch := first | omega | decide) only [d1, d2, d3, d4, h3, g2, hvc, z10, zboo0, e51, e46, pk_sub, Nat.add_sub_cancel, zcn, zkpl, zki, zki1, zk8, zk16, zo32, zlt0, zle0, zeq0, zgt0, zLe0, nI_ltI, nI_leI, nI_eq, nI_add, nI_clamp, vp_in_nI, zup_s, zup_n, upd_s, upd_n, ne_eq, not_true_eq_false, not_false_eq_true]; done)
        | (intro hc; exfalso; simp (disch := first | omega | decide) only [d1, d2, d3, d4, h3, g2, hvc, z10, zboo0, e51, e46, pk_sub, Nat.add_sub_cancel, zcn, zkpl, zki, zki1, zk8, zk16, zo32, zlt0, zle0, zeq0, zgt0, zLe0, nI_ltI, nI_leI, nI_eq, nI_add, nI_clamp, vp_in_nI, zup_s, zup_n, upd_s, upd_n, ne_eq, not_true_eq_false, not_false_eq_true] at hc <;> omega)
        | (intro hc; exact absurd rfl hc)
        | intro hc
        | apply And.intro
        | exact Or.inl rfl
        | exact Or.inr rfl
        | (show (_ : Int32) = 0 ∨ _ = 1; simp (disch := first | omega | decide) only [d1, d2, d3, d4, h3, g2, hvc, z10, zboo0, e51, e46, pk_sub, Nat.add_sub_cancel, zcn, zkpl, zki, zki1, zk8, zk16, zo32, zlt0, zle0, zeq0, zgt0, zLe0, nI_ltI, nI_leI, nI_eq, nI_add, nI_clamp, vp_in_nI, zup_s, zup_n, upd_s, upd_n, ne_eq, not_true_eq_false, not_false_eq_true, zeq1, true_or, or_true]; done))
  have e4 : u 43 (u 42 20 + Int32.ofInt 1).toNatClampNeg = nI (w (a + 1)) := by
    simp (disch := first | omega | decide) only [h3, g2, zcn, zkpl, zki, zki1, zk8, zk16, zo32, zlt0, zle0, zeq0, zgt0, zLe0, nI_ltI, nI_leI, nI_eq, nI_add, nI_clamp, vp_in_nI, zup_s, zup_n, upd_s, upd_n, ne_eq, not_true_eq_false, not_false_eq_true]
  have s1 := es_isL (m := u) (b := 1) g3 (Or.inl ⟨rfl, hL⟩)
  rw [← e4] at s1
  refine zgo 40 [] ?_
  repeat' (first
    | (exact s1.use f1)
    | (show vp_in _ _; simp (disch := first | omega | decide) only [h1, h3, zcn, zkpl, zki, zki1, zk8, zk16, zo32, zlt0, zle0, zeq0, zgt0, zLe0, nI_ltI, nI_leI, nI_eq, nI_add, nI_clamp, vp_in_nI, zup_s, zup_n, upd_s, upd_n, ne_eq, not_true_eq_false, not_false_eq_true]; done)
    | (intro hc; exfalso; simp (disch := first | omega | decide) only [h1, h3, zcn, zkpl, zki, zki1, zk8, zk16, zo32, zlt0, zle0, zeq0, zgt0, zLe0, nI_ltI, nI_leI, nI_eq, nI_add, nI_clamp, vp_in_nI, zup_s, zup_n, upd_s, upd_n, ne_eq, not_true_eq_false, not_false_eq_true] at hc <;> omega)
    | (intro hc; exact absurd rfl hc)
    | intro hc
    | apply And.intro
    | exact Or.inl rfl
    | exact Or.inr rfl
    | (show (_ : Int32) = 0 ∨ _ = 1; simp (disch := first | omega | decide) only [h1, h3, zcn, zkpl, zki, zki1, zk8, zk16, zo32, zlt0, zle0, zeq0, zgt0, zLe0, nI_ltI, nI_leI, nI_eq, nI_add, nI_clamp, vp_in_nI, zup_s, zup_n, upd_s, upd_n, ne_eq, not_true_eq_false, not_false_eq_true, zeq1, true_or, or_true]; done))
theorem zup_c (m : zM) {a k b j : Nat} (v v' : Int32) (h : a ≠ b ∨ k ≠ j) : zup (zup m a k v) b j v' = zup (zup m b j v') a k v := by
  funext c i
  unfold zup upd
  by_cases e1 : c = b
  · subst e1
    by_cases e2 : c = a
    · subst e2
      have hkj : k ≠ j := by omega
      simp only [if_true]
      by_cases e3 : i = j
      · rw [if_pos e3, if_neg (by omega), if_pos e3]
      · rw [if_neg e3, if_neg e3]
    · simp only [if_true, e2, if_false]
  · by_cases e2 : c = a
    · subst e2
      simp only [e1, if_false, if_true]
    · simp only [e1, e2, if_false]
theorem m_168o {w : Nat → Nat} {wl a k : Nat} (ho : okT w wl) {u : zM} {s : pS} (hx : mX w wl u a) (hd : mD u s) (hi : sI a s) (ha : a < wl) (hL : isL (pe w wl (a + 1))) (h0 : s 0 3 = 0 → s 0 1 = 0) (h4 : s 0 3 < 4) (hk : ∀ j, j < k → pe w wl (a + 2 + j) = 32) (he : pe w wl (a + 2 + k) = 62) : ∃ u', Ev 168 [.ref 42] u none u' ∧ mX w wl u' (a + 2 + k + 1) ∧ mD u' (begS s (pe w wl (a + 1))) ∧ u' 42 21 = 1 ∧ mG u u' := by
  have hl := ho.1
  have hin := pe_in (w := w) (wl := wl) (j := a + 2 + k) (by omega)
  have to := m_168_to ho hx hd hi ha hL h0 h4 hk (by omega)
  have hO := mD_bgO (c := pe w wl (a + 1)) hd hi h0
  have d1 := (mD_bgE (c := pe w wl (a + 1)) hd hi h0).1
  have hX := mbg_x (s := s) (c := pe w wl (a + 1)) hx
  have hG := mbg_G (u := u) (s := s) (c := pe w wl (a + 1))
  have d3 : mbg u s (pe w wl (a + 1)) 42 18 = nI (s 0 3) := d1.2.2.1
  have d21 : mbg u s (pe w wl (a + 1)) 42 21 = 1 := by
    unfold mbg
    split <;> rfl
  have i1 := hi.1
  generalize mbg u s (pe w wl (a + 1)) = U at *
  have hv := hX.mv (a + 2 + k)
  have e18 : zup U 42 20 (nI (a + 2 + k)) 42 18 = nI (s 0 3) := by rw [zup_s, upd_n _ (by decide), d3]
  have ez : zup (zup (zup (zup U 42 20 (nI (a + 2 + k))) 51 (s 0 3) (nI (s 0 1))) 42 18 (nI (s 0 3 + 1))) 42 20 (nI (a + 2 + k + 1)) = zup (zup (zup U 51 (s 0 3) (nI (s 0 1))) 42 18 (nI (s 0 3 + 1))) 42 20 (nI (a + 2 + k + 1)) := by
    rw [zup_c U _ _ (Or.inl (by decide)), zup_c _ (a := 42) (k := 20) (b := 42) (j := 18) _ _ (Or.inr (by decide)), zup2]
  refine ⟨zup (zup (zup U 51 (s 0 3) (nI (s 0 1))) 42 18 (nI (s 0 3 + 1))) 42 20 (nI (a + 2 + k + 1)), fun Q hQ => to Q (fun x hx' => ?_), ?_, hO.f _ (Or.inl rfl), d21, hG.tr ((mG_a _ _ (by decide)).tr ((mG_f _ _ (by decide)).tr (mG_f _ _ (by decide))))⟩
  · have sv := es_sees (b := 1) ho hv.1 hv.2.1 (x := nI (a + 2 + k)) (y := (Int8.ofInt 62).toInt32) (a + 2 + k) 62 rfl (by decide) (by omega) (by decide) (Or.inl ⟨rfl, he⟩)
    have e20 := hv.2.2
    rw [← ez] at hQ
    generalize zup U 42 20 (nI (a + 2 + k)) = u1 at *
    rw [← e20] at sv
    subst hx'
    have f3 : ZW 168 (0, 0, 0, 0) 252 [(1, .int (nI (s 0 1))), (0, .ref 42)] [] (SH, zup (zup (zup u1 51 (s 0 3) (nI (s 0 1))) 42 18 (nI (s 0 3 + 1))) 42 20 (nI (a + 2 + k + 1))) Q := by
      refine zgo 5 [] ?_
      exact hQ
    have f2 : ZW 168 (0, 0, 0, 0) 219 [(1, .int (nI (s 0 1))), (0, .ref 42)] [.int 1] (SH, u1) Q := by
      clear hO d1 to sv hd hi h0
      generalize s 0 3 = dd at *
      generalize s 0 1 = N at *
      refine zgo 19 [] ?_
      repeat' (first
        | (exact zcg (by simp (disch := first | omega | decide) only [e20, e18, zcn, zkpl, zki, zki1, zk8, zk16, zo32, zlt0, zle0, zeq0, zgt0, zLe0, nI_ltI, nI_leI, nI_eq, nI_add, nI_clamp, vp_in_nI, zup_s, zup_n, upd_s, upd_n, ne_eq, not_true_eq_false, not_false_eq_true] <;> rfl) f3)
        | (show vp_in _ _; simp (disch := first | omega | decide) only [e20, e18, z10, zcn, zkpl, zki, zki1, zk8, zk16, zo32, zlt0, zle0, zeq0, zgt0, zLe0, nI_ltI, nI_leI, nI_eq, nI_add, nI_clamp, vp_in_nI, zup_s, zup_n, upd_s, upd_n, ne_eq, not_true_eq_false, not_false_eq_true]; done)
        | (intro hc; exfalso; simp (disch := first | omega | decide) only [e20, e18, z10, zcn, zkpl, zki, zki1, zk8, zk16, zo32, zlt0, zle0, zeq0, zgt0, zLe0, nI_ltI, nI_leI, nI_eq, nI_add, nI_clamp, vp_in_nI, zup_s, zup_n, upd_s, upd_n, ne_eq, not_true_eq_false, not_false_eq_true] at hc <;> omega)
        | (intro hc; exact absurd rfl hc)
        | intro hc
        | apply And.intro
        | exact Or.inl rfl
        | exact Or.inr rfl
        | (show (_ : Int32) = 0 ∨ _ = 1; simp (disch := first | omega | decide) only [e20, e18, z10, zcn, zkpl, zki, zki1, zk8, zk16, zo32, zlt0, zle0, zeq0, zgt0, zLe0, nI_ltI, nI_leI, nI_eq, nI_add, nI_clamp, vp_in_nI, zup_s, zup_n, upd_s, upd_n, ne_eq, not_true_eq_false, not_false_eq_true, zeq1, true_or, or_true]; done))
    refine zgo 40 [] ?_
    repeat' (first
      | (exact sv.use f2)
      | (show vp_in _ _; simp (disch := first | omega | decide) only [zcn, zkpl, zki, zki1, zk8, zk16, zo32, zlt0, zle0, zeq0, zgt0, zLe0, nI_ltI, nI_leI, nI_eq, nI_add, nI_clamp, vp_in_nI, zup_s, zup_n, upd_s, upd_n, ne_eq, not_true_eq_false, not_false_eq_true]; done)
      | (intro hc; exfalso; simp (disch := first | omega | decide) only [zcn, zkpl, zki, zki1, zk8, zk16, zo32, zlt0, zle0, zeq0, zgt0, zLe0, nI_ltI, nI_leI, nI_eq, nI_add, nI_clamp, vp_in_nI, zup_s, zup_n, upd_s, upd_n, ne_eq, not_true_eq_false, not_false_eq_true] at hc <;> omega)
      | (intro hc; exact absurd rfl hc)
      | intro hc
      | apply And.intro
      | exact Or.inl rfl
      | exact Or.inr rfl
      | (show (_ : Int32) = 0 ∨ _ = 1; simp (disch := first | omega | decide) only [zcn, zkpl, zki, zki1, zk8, zk16, zo32, zlt0, zle0, zeq0, zgt0, zLe0, nI_ltI, nI_leI, nI_eq, nI_add, nI_clamp, vp_in_nI, zup_s, zup_n, upd_s, upd_n, ne_eq, not_true_eq_false, not_false_eq_true, zeq1, true_or, or_true]; done))
  · exact (mX.cg (u' := zup (zup U 51 (s 0 3) (nI (s 0 1))) 42 18 (nI (s 0 3 + 1))) hX rfl rfl rfl).mv _
theorem m_168e {w : Nat → Nat} {wl a k : Nat} (ho : okT w wl) {u : zM} {s : pS} (hx : mX w wl u a) (hd : mD u s) (hi : sI a s) (ha : a < wl) (hL : isL (pe w wl (a + 1))) (h0 : s 0 3 = 0 → s 0 1 = 0) (h4 : s 0 3 < 4) (hk : ∀ j, j < k → pe w wl (a + 2 + j) = 32) (hk2 : pe w wl (a + 2 + k) ≠ 32) (hk3 : a + 2 + k ≤ 310) (he : pe w wl (a + 2 + k) ≠ 62) {b : Int32} (hb : (b = 1 ∧ pe w wl (a + 2 + k) = 47 ∧ pe w wl (a + 2 + k + 1) = 62) ∨ (b = 0 ∧ ¬ (pe w wl (a + 2 + k) = 47 ∧ pe w wl (a + 2 + k + 1) = 62))) : ∃ u', Ev 168 [.ref 42] u none u' ∧ mX w wl u' (a + 2 + k + 2) ∧ mD u' (endS (begS s (pe w wl (a + 1))) (s 0 3)) ∧ u' 42 21 = b ∧ mG u u' := by
  have hl := ho.1
  have to := m_168_to ho hx hd hi ha hL h0 h4 hk hk2
  have hE := mD_bgE (c := pe w wl (a + 1)) hd hi h0
  have hX := mbg_x (s := s) (c := pe w wl (a + 1)) hx
  have hG := mbg_G (u := u) (s := s) (c := pe w wl (a + 1))
  generalize mbg u s (pe w wl (a + 1)) = U at *
  have hv := hX.mv (a + 2 + k)
  have ez : zup (zup (zup U 42 20 (nI (a + 2 + k))) 42 21 b) 42 20 (nI (a + 2 + k + 2)) = zup (zup U 42 21 b) 42 20 (nI (a + 2 + k + 2)) := by
    funext b j
    unfold zup upd
    by_cases e : b = 42
    · simp only [e, if_true]
      by_cases e2 : j = 20
      · simp only [e2, if_true]
      · simp only [e2, if_false]
    · simp only [e, if_false]
  refine ⟨zup (zup U 42 21 b) 42 20 (nI (a + 2 + k + 2)), fun Q hQ => to Q (fun x hx' => ?_), ?_, (hE.f _ (Or.inr rfl)).f _ (Or.inl rfl), rfl, hG.tr ((mG_f _ _ (by decide)).tr (mG_f _ _ (by decide)))⟩
  · have sv := es_sees (b := 0) ho hv.1 hv.2.1 (x := nI (a + 2 + k)) (y := (Int8.ofInt 62).toInt32) (a + 2 + k) 62 rfl (by decide) (by omega) (by decide) (Or.inr ⟨rfl, he⟩)
    have sv2 : ∀ b0 : Int32, ((b0 = 1 ∧ pe w wl (a + 2 + k) = 47) ∨ (b0 = 0 ∧ pe w wl (a + 2 + k) ≠ 47)) → _ := fun b0 g => es_sees (b := b0) ho hv.1 hv.2.1 (x := nI (a + 2 + k)) (y := (Int8.ofInt 47).toInt32) (a + 2 + k) 47 rfl (by decide) (by omega) (by decide) g
    have e20 := hv.2.2
    have sv3 : ∀ b0 : Int32, ((b0 = 1 ∧ pe w wl (a + 2 + k + 1) = 62) ∨ (b0 = 0 ∧ pe w wl (a + 2 + k + 1) ≠ 62)) → _ := fun b0 g => es_sees (b := b0) ho hv.1 hv.2.1 (x := zup U 42 20 (nI (a + 2 + k)) 42 20 + Int32.ofInt 1) (y := (Int8.ofInt 62).toInt32) (a + 2 + k + 1) 62 (by rw [e20, zki, nI_add]) (by decide) (by omega) (by decide) g
    rw [← ez] at hQ
    generalize zup U 42 20 (nI (a + 2 + k)) = u1 at *
    rw [← e20] at sv sv2
    subst hx'
    have f2 : ZW 168 (0, 0, 0, 0) 219 [(1, .int (nI (s 0 1))), (0, .ref 42)] [.int 0] (SH, u1) Q := by
      by_cases e1 : pe w wl (a + 2 + k) = 47
      · by_cases e2 : pe w wl (a + 2 + k + 1) = 62
        · obtain rfl : b = 1 := by
            rcases hb with hb | hb
            · exact hb.1
            · exact absurd ⟨e1, e2⟩ hb.2
          have f4 : ZW 168 (0, 0, 0, 0) 281 [(1, .int (nI (s 0 1))), (0, .ref 42)] [.int 1, .ref 42] (SH, u1) Q := by
            refine zgo 40 [] ?_
            repeat' (first
              | (show vp_in _ _; simp (disch := first | omega | decide) only [e20, z10, zcn, zkpl, zki, zki1, zk8, zk16, zo32, zlt0, zle0, zeq0, zgt0, zLe0, nI_ltI, nI_leI, nI_eq, nI_add, nI_clamp, vp_in_nI, zup_s, zup_n, upd_s, upd_n, ne_eq, not_true_eq_false, not_false_eq_true]; done)
              | (intro hc; exfalso; simp (disch := first | omega | decide) only [e20, z10, zcn, zkpl, zki, zki1, zk8, zk16, zo32, zlt0, zle0, zeq0, zgt0, zLe0, nI_ltI, nI_leI, nI_eq, nI_add, nI_clamp, vp_in_nI, zup_s, zup_n, upd_s, upd_n, ne_eq, not_true_eq_false, not_false_eq_true] at hc <;> omega)
              | (intro hc; exact absurd rfl hc)
              | intro hc
              | apply And.intro
              | exact hQ
              | (show Q _ (SH, _); simp (disch := first | omega | decide) only [e20, z10, zcn, zkpl, zki, zki1, zk8, zk16, zo32, zlt0, zle0, zeq0, zgt0, zLe0, nI_ltI, nI_leI, nI_eq, nI_add, nI_clamp, vp_in_nI, zup_s, zup_n, upd_s, upd_n, ne_eq, not_true_eq_false, not_false_eq_true]; exact hQ)
              | exact Or.inl rfl
              | exact Or.inr rfl
              | (show (_ : Int32) = 0 ∨ _ = 1; simp (disch := first | omega | decide) only [e20, z10, zcn, zkpl, zki, zki1, zk8, zk16, zo32, zlt0, zle0, zeq0, zgt0, zLe0, nI_ltI, nI_leI, nI_eq, nI_add, nI_clamp, vp_in_nI, zup_s, zup_n, upd_s, upd_n, ne_eq, not_true_eq_false, not_false_eq_true, zeq1, true_or, or_true]; done))
          have f3 : ZW 168 (0, 0, 0, 0) 266 [(1, .int (nI (s 0 1))), (0, .ref 42)] [.int 1, .ref 42] (SH, u1) Q := by
            refine zgo 40 [] ?_
            repeat' (first
              | (exact (sv3 1 (Or.inl ⟨rfl, e2⟩)).use f4)
              | (show vp_in _ _; simp (disch := first | omega | decide) only [z10, zcn, zkpl, zki, zki1, zk8, zk16, zo32, zlt0, zle0, zeq0, zgt0, zLe0, nI_ltI, nI_leI, nI_eq, nI_add, nI_clamp, vp_in_nI, zup_s, zup_n, upd_s, upd_n, ne_eq, not_true_eq_false, not_false_eq_true]; done)
              | (intro hc; exfalso; simp (disch := first | omega | decide) only [z10, zcn, zkpl, zki, zki1, zk8, zk16, zo32, zlt0, zle0, zeq0, zgt0, zLe0, nI_ltI, nI_leI, nI_eq, nI_add, nI_clamp, vp_in_nI, zup_s, zup_n, upd_s, upd_n, ne_eq, not_true_eq_false, not_false_eq_true] at hc <;> omega)
              | (intro hc; exact absurd rfl hc)
              | intro hc
              | apply And.intro
              | exact Or.inl rfl
              | exact Or.inr rfl
              | (show (_ : Int32) = 0 ∨ _ = 1; simp (disch := first | omega | decide) only [z10, zcn, zkpl, zki, zki1, zk8, zk16, zo32, zlt0, zle0, zeq0, zgt0, zLe0, nI_ltI, nI_leI, nI_eq, nI_add, nI_clamp, vp_in_nI, zup_s, zup_n, upd_s, upd_n, ne_eq, not_true_eq_false, not_false_eq_true, zeq1, true_or, or_true]; done))
          refine zgo 40 [] ?_
          repeat' (first
            | (exact (sv2 1 (Or.inl ⟨rfl, e1⟩)).use f3)
            | (show vp_in _ _; simp (disch := first | omega | decide) only [z10, zcn, zkpl, zki, zki1, zk8, zk16, zo32, zlt0, zle0, zeq0, zgt0, zLe0, nI_ltI, nI_leI, nI_eq, nI_add, nI_clamp, vp_in_nI, zup_s, zup_n, upd_s, upd_n, ne_eq, not_true_eq_false, not_false_eq_true]; done)
            | (intro hc; exfalso; simp (disch := first | omega | decide) only [z10, zcn, zkpl, zki, zki1, zk8, zk16, zo32, zlt0, zle0, zeq0, zgt0, zLe0, nI_ltI, nI_leI, nI_eq, nI_add, nI_clamp, vp_in_nI, zup_s, zup_n, upd_s, upd_n, ne_eq, not_true_eq_false, not_false_eq_true] at hc <;> omega)
            | (intro hc; exact absurd rfl hc)
            | intro hc
            | apply And.intro
            | exact Or.inl rfl
            | exact Or.inr rfl
            | (show (_ : Int32) = 0 ∨ _ = 1; simp (disch := first | omega | decide) only [z10, zcn, zkpl, zki, zki1, zk8, zk16, zo32, zlt0, zle0, zeq0, zgt0, zLe0, nI_ltI, nI_leI, nI_eq, nI_add, nI_clamp, vp_in_nI, zup_s, zup_n, upd_s, upd_n, ne_eq, not_true_eq_false, not_false_eq_true, zeq1, true_or, or_true]; done))
        · obtain rfl : b = 0 := by
            rcases hb with hb | hb
            · exact absurd hb.2.2 e2
            · exact hb.1
          have f4 : ZW 168 (0, 0, 0, 0) 281 [(1, .int (nI (s 0 1))), (0, .ref 42)] [.int 0, .ref 42] (SH, u1) Q := by
            refine zgo 40 [] ?_
            repeat' (first
              | (show vp_in _ _; simp (disch := first | omega | decide) only [e20, z10, zcn, zkpl, zki, zki1, zk8, zk16, zo32, zlt0, zle0, zeq0, zgt0, zLe0, nI_ltI, nI_leI, nI_eq, nI_add, nI_clamp, vp_in_nI, zup_s, zup_n, upd_s, upd_n, ne_eq, not_true_eq_false, not_false_eq_true]; done)
              | (intro hc; exfalso; simp (disch := first | omega | decide) only [e20, z10, zcn, zkpl, zki, zki1, zk8, zk16, zo32, zlt0, zle0, zeq0, zgt0, zLe0, nI_ltI, nI_leI, nI_eq, nI_add, nI_clamp, vp_in_nI, zup_s, zup_n, upd_s, upd_n, ne_eq, not_true_eq_false, not_false_eq_true] at hc <;> omega)
              | (intro hc; exact absurd rfl hc)
              | intro hc
              | apply And.intro
              | exact hQ
              | (show Q _ (SH, _); simp (disch := first | omega | decide) only [e20, z10, zcn, zkpl, zki, zki1, zk8, zk16, zo32, zlt0, zle0, zeq0, zgt0, zLe0, nI_ltI, nI_leI, nI_eq, nI_add, nI_clamp, vp_in_nI, zup_s, zup_n, upd_s, upd_n, ne_eq, not_true_eq_false, not_false_eq_true]; exact hQ)
              | exact Or.inl rfl
              | exact Or.inr rfl
              | (show (_ : Int32) = 0 ∨ _ = 1; simp (disch := first | omega | decide) only [e20, z10, zcn, zkpl, zki, zki1, zk8, zk16, zo32, zlt0, zle0, zeq0, zgt0, zLe0, nI_ltI, nI_leI, nI_eq, nI_add, nI_clamp, vp_in_nI, zup_s, zup_n, upd_s, upd_n, ne_eq, not_true_eq_false, not_false_eq_true, zeq1, true_or, or_true]; done))
          have f3 : ZW 168 (0, 0, 0, 0) 266 [(1, .int (nI (s 0 1))), (0, .ref 42)] [.int 1, .ref 42] (SH, u1) Q := by
            refine zgo 40 [] ?_
            repeat' (first
              | (exact (sv3 0 (Or.inr ⟨rfl, e2⟩)).use f4)
              | (show vp_in _ _; simp (disch := first | omega | decide) only [z10, zcn, zkpl, zki, zki1, zk8, zk16, zo32, zlt0, zle0, zeq0, zgt0, zLe0, nI_ltI, nI_leI, nI_eq, nI_add, nI_clamp, vp_in_nI, zup_s, zup_n, upd_s, upd_n, ne_eq, not_true_eq_false, not_false_eq_true]; done)
              | (intro hc; exfalso; simp (disch := first | omega | decide) only [z10, zcn, zkpl, zki, zki1, zk8, zk16, zo32, zlt0, zle0, zeq0, zgt0, zLe0, nI_ltI, nI_leI, nI_eq, nI_add, nI_clamp, vp_in_nI, zup_s, zup_n, upd_s, upd_n, ne_eq, not_true_eq_false, not_false_eq_true] at hc <;> omega)
              | (intro hc; exact absurd rfl hc)
              | intro hc
              | apply And.intro
              | exact Or.inl rfl
              | exact Or.inr rfl
              | (show (_ : Int32) = 0 ∨ _ = 1; simp (disch := first | omega | decide) only [z10, zcn, zkpl, zki, zki1, zk8, zk16, zo32, zlt0, zle0, zeq0, zgt0, zLe0, nI_ltI, nI_leI, nI_eq, nI_add, nI_clamp, vp_in_nI, zup_s, zup_n, upd_s, upd_n, ne_eq, not_true_eq_false, not_false_eq_true, zeq1, true_or, or_true]; done))
          refine zgo 40 [] ?_
          repeat' (first
            | (exact (sv2 1 (Or.inl ⟨rfl, e1⟩)).use f3)
            | (show vp_in _ _; simp (disch := first | omega | decide) only [z10, zcn, zkpl, zki, zki1, zk8, zk16, zo32, zlt0, zle0, zeq0, zgt0, zLe0, nI_ltI, nI_leI, nI_eq, nI_add, nI_clamp, vp_in_nI, zup_s, zup_n, upd_s, upd_n, ne_eq, not_true_eq_false, not_false_eq_true]; done)
            | (intro hc; exfalso; simp (disch := first | omega | decide) only [z10, zcn, zkpl, zki, zki1, zk8, zk16, zo32, zlt0, zle0, zeq0, zgt0, zLe0, nI_ltI, nI_leI, nI_eq, nI_add, nI_clamp, vp_in_nI, zup_s, zup_n, upd_s, upd_n, ne_eq, not_true_eq_false, not_false_eq_true] at hc <;> omega)
            | (intro hc; exact absurd rfl hc)
            | intro hc
            | apply And.intro
            | exact Or.inl rfl
            | exact Or.inr rfl
            | (show (_ : Int32) = 0 ∨ _ = 1; simp (disch := first | omega | decide) only [z10, zcn, zkpl, zki, zki1, zk8, zk16, zo32, zlt0, zle0, zeq0, zgt0, zLe0, nI_ltI, nI_leI, nI_eq, nI_add, nI_clamp, vp_in_nI, zup_s, zup_n, upd_s, upd_n, ne_eq, not_true_eq_false, not_false_eq_true, zeq1, true_or, or_true]; done))
      · obtain rfl : b = 0 := by
          rcases hb with hb | hb
          · exact absurd hb.2.1 e1
          · exact hb.1
        have f3 : ZW 168 (0, 0, 0, 0) 266 [(1, .int (nI (s 0 1))), (0, .ref 42)] [.int 0, .ref 42] (SH, u1) Q := by
          refine zgo 40 [] ?_
          repeat' (first
            | (show vp_in _ _; simp (disch := first | omega | decide) only [e20, z10, zcn, zkpl, zki, zki1, zk8, zk16, zo32, zlt0, zle0, zeq0, zgt0, zLe0, nI_ltI, nI_leI, nI_eq, nI_add, nI_clamp, vp_in_nI, zup_s, zup_n, upd_s, upd_n, ne_eq, not_true_eq_false, not_false_eq_true]; done)
            | (intro hc; exfalso; simp (disch := first | omega | decide) only [e20, z10, zcn, zkpl, zki, zki1, zk8, zk16, zo32, zlt0, zle0, zeq0, zgt0, zLe0, nI_ltI, nI_leI, nI_eq, nI_add, nI_clamp, vp_in_nI, zup_s, zup_n, upd_s, upd_n, ne_eq, not_true_eq_false, not_false_eq_true] at hc <;> omega)
            | (intro hc; exact absurd rfl hc)
            | intro hc
            | apply And.intro
            | exact hQ
            | (show Q _ (SH, _); simp (disch := first | omega | decide) only [e20, z10, zcn, zkpl, zki, zki1, zk8, zk16, zo32, zlt0, zle0, zeq0, zgt0, zLe0, nI_ltI, nI_leI, nI_eq, nI_add, nI_clamp, vp_in_nI, zup_s, zup_n, upd_s, upd_n, ne_eq, not_true_eq_false, not_false_eq_true]; exact hQ)
            | exact Or.inl rfl
            | exact Or.inr rfl
            | (show (_ : Int32) = 0 ∨ _ = 1; simp (disch := first | omega | decide) only [e20, z10, zcn, zkpl, zki, zki1, zk8, zk16, zo32, zlt0, zle0, zeq0, zgt0, zLe0, nI_ltI, nI_leI, nI_eq, nI_add, nI_clamp, vp_in_nI, zup_s, zup_n, upd_s, upd_n, ne_eq, not_true_eq_false, not_false_eq_true, zeq1, true_or, or_true]; done))
        refine zgo 40 [] ?_
        repeat' (first
          | (exact (sv2 0 (Or.inr ⟨rfl, e1⟩)).use f3)
          | (show vp_in _ _; simp (disch := first | omega | decide) only [z10, zcn, zkpl, zki, zki1, zk8, zk16, zo32, zlt0, zle0, zeq0, zgt0, zLe0, nI_ltI, nI_leI, nI_eq, nI_add, nI_clamp, vp_in_nI, zup_s, zup_n, upd_s, upd_n, ne_eq, not_true_eq_false, not_false_eq_true]; done)
          | (intro hc; exfalso; simp (disch := first | omega | decide) only [z10, zcn, zkpl, zki, zki1, zk8, zk16, zo32, zlt0, zle0, zeq0, zgt0, zLe0, nI_ltI, nI_leI, nI_eq, nI_add, nI_clamp, vp_in_nI, zup_s, zup_n, upd_s, upd_n, ne_eq, not_true_eq_false, not_false_eq_true] at hc <;> omega)
          | (intro hc; exact absurd rfl hc)
          | intro hc
          | apply And.intro
          | exact Or.inl rfl
          | exact Or.inr rfl
          | (show (_ : Int32) = 0 ∨ _ = 1; simp (disch := first | omega | decide) only [z10, zcn, zkpl, zki, zki1, zk8, zk16, zo32, zlt0, zle0, zeq0, zgt0, zLe0, nI_ltI, nI_leI, nI_eq, nI_add, nI_clamp, vp_in_nI, zup_s, zup_n, upd_s, upd_n, ne_eq, not_true_eq_false, not_false_eq_true, zeq1, true_or, or_true]; done))
    refine zgo 40 [] ?_
    repeat' (first
      | (exact sv.use f2)
      | (show vp_in _ _; simp (disch := first | omega | decide) only [zcn, zkpl, zki, zki1, zk8, zk16, zo32, zlt0, zle0, zeq0, zgt0, zLe0, nI_ltI, nI_leI, nI_eq, nI_add, nI_clamp, vp_in_nI, zup_s, zup_n, upd_s, upd_n, ne_eq, not_true_eq_false, not_false_eq_true]; done)
      | (intro hc; exfalso; simp (disch := first | omega | decide) only [zcn, zkpl, zki, zki1, zk8, zk16, zo32, zlt0, zle0, zeq0, zgt0, zLe0, nI_ltI, nI_leI, nI_eq, nI_add, nI_clamp, vp_in_nI, zup_s, zup_n, upd_s, upd_n, ne_eq, not_true_eq_false, not_false_eq_true] at hc <;> omega)
      | (intro hc; exact absurd rfl hc)
      | intro hc
      | apply And.intro
      | exact Or.inl rfl
      | exact Or.inr rfl
      | (show (_ : Int32) = 0 ∨ _ = 1; simp (disch := first | omega | decide) only [zcn, zkpl, zki, zki1, zk8, zk16, zo32, zlt0, zle0, zeq0, zgt0, zLe0, nI_ltI, nI_leI, nI_eq, nI_add, nI_clamp, vp_in_nI, zup_s, zup_n, upd_s, upd_n, ne_eq, not_true_eq_false, not_false_eq_true, zeq1, true_or, or_true]; done))
  · exact (mX.cg (u' := zup U 42 21 b) hX rfl rfl rfl).mv _
