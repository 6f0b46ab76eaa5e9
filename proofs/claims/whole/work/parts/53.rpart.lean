/-! readPart -/
def oth (t : Nat) (u u' : zM) : Prop := (∀ j, j ≠ t → u' 52 j = u 52 j ∧ u' 53 j = u 53 j ∧ u' 54 j = u 54 j ∧ u' 56 j = u 56 j) ∧ (∀ j, j ≠ 2 * t → j ≠ 2 * t + 1 → u' 55 j = u 55 j) ∧ u' 42 = u 42
theorem tmm_o {u : zM} {s : pS} {i a : Nat} (h1 : a ≠ 48) (h2 : a ≠ 49) : tmm u s i a = u a := by
  unfold tmm
  rw [zup_n _ h2, zup_n _ h1]
theorem es_part {s : pS} (hs : mdy s) (h : lay s) {u : zM} (hm : mS u s) {t e : Nat} (ht : t ≤ 2) (hch : chF (s 9) 0 (s 0 1) 0 (3 + t) = some e) (Q : zQ) (hQ1 : ∀ u', mgo s u u' → oth t u u' → PT s e → (∀ i, i < 4 → tr1 u' s (e + 1 + i)) → vT u' s t e → Q (some (.int 1)) (SH, u')) (hQ2 : ∀ u', mgo s u u' → ¬ PT s e → Q (some (.int 0)) (SH, u')) : ZM 178 0 0 [.ref 42, .int (nI t)] (SH, u) Q := by
  obtain ⟨e0, eN, ef, ek⟩ := ch_some hch
  have hN := hs.1.2.1
  have c0 := es_child hm.1 hN hs.2 (x := Int32.ofInt 0) (y := Int32.ofInt 3 + nI t) 0 (3 + t) (by decide) (by rw [show Int32.ofInt 3 = nI 3 by decide, nI_add]) (by omega) (by omega)
  rw [hch] at c0
  have g44 := hm.1.2.1.1 e eN
  have g46 := hm.1.2.2.2.2.2 e eN
  have g47 := hm.1.2.1.2 e eN
  have b2 := hs.1.2.2 e eN
  have bk := kc_le (f := s 9) (i := e) (s 0 1)
  -- the three first conditions
  have f41 : (s 2 e = 84 ∧ kc (s 9) e (s 0 1) = 4 ∧ s 6 e = 0 → ZW 178 (0, 0, 0, 0) 41 [(2, .int (nI e)), (0, .ref 42), (1, .int (nI t))] [] (SH, u) Q) → ZM 178 0 0 [.ref 42, .int (nI t)] (SH, u) Q := by
    intro W
    have f8 : ZW 178 (0, 0, 0, 0) 8 [(0, .ref 42), (1, .int (nI t))] [.int (nI e)] (SH, u) Q := by
      by_cases c1 : s 2 e = 84 ∧ kc (s 9) e (s 0 1) = 4 ∧ s 6 e = 0
      · have W1 := W c1
        obtain ⟨a1, a2, a3⟩ := c1
        rw [a1] at g44
        rw [a2] at g46
        rw [a3] at g47
        refine zgo 18 [] ?_
        repeat' (first
          | (exact W1)
          | (show vp_in _ _; simp (disch := first | omega | decide) only [g44, g46, g47, zcn, zkpl, zki, zki1, zk8, zk16, zo32, zlt0, zle0, zeq0, zgt0, zLe0, nI_ltI, nI_leI, nI_eq, nI_add, nI_clamp, vp_in_nI, zup_s, zup_n, upd_s, upd_n, ne_eq, not_true_eq_false, not_false_eq_true]; done)
          | (intro hc; exfalso; simp (disch := first | omega | decide) only [g44, g46, g47, zcn, zkpl, zki, zki1, zk8, zk16, zo32, zlt0, zle0, zeq0, zgt0, zLe0, nI_ltI, nI_leI, nI_eq, nI_add, nI_clamp, vp_in_nI, zup_s, zup_n, upd_s, upd_n, ne_eq, not_true_eq_false, not_false_eq_true] at hc <;> omega)
          | (intro hc; exact absurd rfl hc)
          | intro hc
          | apply And.intro
          | exact Or.inl rfl
          | exact Or.inr rfl
          | (show (_ : Int32) = 0 ∨ _ = 1; simp (disch := first | omega | decide) only [g44, g46, g47, zcn, zkpl, zki, zki1, zk8, zk16, zo32, zlt0, zle0, zeq0, zgt0, zLe0, nI_ltI, nI_leI, nI_eq, nI_add, nI_clamp, vp_in_nI, zup_s, zup_n, upd_s, upd_n, ne_eq, not_true_eq_false, not_false_eq_true, zeq1, true_or, or_true]; done))
      · have hQ := hQ2 u (mgo_r hm) (fun g => c1 ⟨g.1, g.2.1, g.2.2.1⟩)
        clear W
        by_cases a1 : s 2 e = 84
        · rw [a1] at g44
          by_cases a2 : kc (s 9) e (s 0 1) = 4
          · rw [a2] at g46
            have a3 : s 6 e = 1 := by
              by_cases a3 : s 6 e = 0
              · exact absurd ⟨a1, a2, a3⟩ c1
              · omega
            rw [a3] at g47
            refine zgo 30 [] ?_
            repeat' (first
              | (show vp_in _ _; simp (disch := first | omega | decide) only [g44, g46, g47, zcn, zkpl, zki, zki1, zk8, zk16, zo32, zlt0, zle0, zeq0, zgt0, zLe0, nI_ltI, nI_leI, nI_eq, nI_add, nI_clamp, vp_in_nI, zup_s, zup_n, upd_s, upd_n, ne_eq, not_true_eq_false, not_false_eq_true]; done)
              | (intro hc; exfalso; simp (disch := first | omega | decide) only [g44, g46, g47, zcn, zkpl, zki, zki1, zk8, zk16, zo32, zlt0, zle0, zeq0, zgt0, zLe0, nI_ltI, nI_leI, nI_eq, nI_add, nI_clamp, vp_in_nI, zup_s, zup_n, upd_s, upd_n, ne_eq, not_true_eq_false, not_false_eq_true] at hc <;> omega)
              | (intro hc; exact absurd rfl hc)
              | intro hc
              | apply And.intro
              | exact hQ
              | (show Q _ (SH, _); simp (disch := first | omega | decide) only [g44, g46, g47, zcn, zkpl, zki, zki1, zk8, zk16, zo32, zlt0, zle0, zeq0, zgt0, zLe0, nI_ltI, nI_leI, nI_eq, nI_add, nI_clamp, vp_in_nI, zup_s, zup_n, upd_s, upd_n, ne_eq, not_true_eq_false, not_false_eq_true]; exact hQ)
              | exact Or.inl rfl
              | exact Or.inr rfl
              | (show (_ : Int32) = 0 ∨ _ = 1; simp (disch := first | omega | decide) only [g44, g46, g47, zcn, zkpl, zki, zki1, zk8, zk16, zo32, zlt0, zle0, zeq0, zgt0, zLe0, nI_ltI, nI_leI, nI_eq, nI_add, nI_clamp, vp_in_nI, zup_s, zup_n, upd_s, upd_n, ne_eq, not_true_eq_false, not_false_eq_true, zeq1, true_or, or_true]; done))
          · generalize kc (s 9) e (s 0 1) = kk at *
            refine zgo 30 [] ?_
            repeat' (first
              | (show vp_in _ _; simp (disch := first | omega | decide) only [g44, g46, zcn, zkpl, zki, zki1, zk8, zk16, zo32, zlt0, zle0, zeq0, zgt0, zLe0, nI_ltI, nI_leI, nI_eq, nI_add, nI_clamp, vp_in_nI, zup_s, zup_n, upd_s, upd_n, ne_eq, not_true_eq_false, not_false_eq_true]; done)
              | (intro hc; exfalso; simp (disch := first | omega | decide) only [g44, g46, zcn, zkpl, zki, zki1, zk8, zk16, zo32, zlt0, zle0, zeq0, zgt0, zLe0, nI_ltI, nI_leI, nI_eq, nI_add, nI_clamp, vp_in_nI, zup_s, zup_n, upd_s, upd_n, ne_eq, not_true_eq_false, not_false_eq_true] at hc <;> omega)
              | (intro hc; exact absurd rfl hc)
              | intro hc
              | apply And.intro
              | exact hQ
              | (show Q _ (SH, _); simp (disch := first | omega | decide) only [g44, g46, zcn, zkpl, zki, zki1, zk8, zk16, zo32, zlt0, zle0, zeq0, zgt0, zLe0, nI_ltI, nI_leI, nI_eq, nI_add, nI_clamp, vp_in_nI, zup_s, zup_n, upd_s, upd_n, ne_eq, not_true_eq_false, not_false_eq_true]; exact hQ)
              | exact Or.inl rfl
              | exact Or.inr rfl
              | (show (_ : Int32) = 0 ∨ _ = 1; simp (disch := first | omega | decide) only [g44, g46, zcn, zkpl, zki, zki1, zk8, zk16, zo32, zlt0, zle0, zeq0, zgt0, zLe0, nI_ltI, nI_leI, nI_eq, nI_add, nI_clamp, vp_in_nI, zup_s, zup_n, upd_s, upd_n, ne_eq, not_true_eq_false, not_false_eq_true, zeq1, true_or, or_true]; done))
        · generalize s 2 e = cc at *
          refine zgo 30 [] ?_
          repeat' (first
            | (show vp_in _ _; simp (disch := first | omega | decide) only [g44, zcn, zkpl, zki, zki1, zk8, zk16, zo32, zlt0, zle0, zeq0, zgt0, zLe0, nI_ltI, nI_leI, nI_eq, nI_add, nI_clamp, vp_in_nI, zup_s, zup_n, upd_s, upd_n, ne_eq, not_true_eq_false, not_false_eq_true]; done)
            | (intro hc; exfalso; simp (disch := first | omega | decide) only [g44, zcn, zkpl, zki, zki1, zk8, zk16, zo32, zlt0, zle0, zeq0, zgt0, zLe0, nI_ltI, nI_leI, nI_eq, nI_add, nI_clamp, vp_in_nI, zup_s, zup_n, upd_s, upd_n, ne_eq, not_true_eq_false, not_false_eq_true] at hc <;> omega)
            | (intro hc; exact absurd rfl hc)
            | intro hc
            | apply And.intro
            | exact hQ
            | (show Q _ (SH, _); simp (disch := first | omega | decide) only [g44, zcn, zkpl, zki, zki1, zk8, zk16, zo32, zlt0, zle0, zeq0, zgt0, zLe0, nI_ltI, nI_leI, nI_eq, nI_add, nI_clamp, vp_in_nI, zup_s, zup_n, upd_s, upd_n, ne_eq, not_true_eq_false, not_false_eq_true]; exact hQ)
            | exact Or.inl rfl
            | exact Or.inr rfl
            | (show (_ : Int32) = 0 ∨ _ = 1; simp (disch := first | omega | decide) only [g44, zcn, zkpl, zki, zki1, zk8, zk16, zo32, zlt0, zle0, zeq0, zgt0, zLe0, nI_ltI, nI_leI, nI_eq, nI_add, nI_clamp, vp_in_nI, zup_s, zup_n, upd_s, upd_n, ne_eq, not_true_eq_false, not_false_eq_true, zeq1, true_or, or_true]; done))
    refine zgo 10 [] ?_
    repeat' (first
      | (exact c0.use f8)
      | (show vp_in _ _; simp (disch := first | omega | decide) only [zcn, zkpl, zki, zki1, zk8, zk16, zo32, zlt0, zle0, zeq0, zgt0, zLe0, nI_ltI, nI_leI, nI_eq, nI_add, nI_clamp, vp_in_nI, zup_s, zup_n, upd_s, upd_n, ne_eq, not_true_eq_false, not_false_eq_true]; done)
      | (intro hc; exfalso; simp (disch := first | omega | decide) only [zcn, zkpl, zki, zki1, zk8, zk16, zo32, zlt0, zle0, zeq0, zgt0, zLe0, nI_ltI, nI_leI, nI_eq, nI_add, nI_clamp, vp_in_nI, zup_s, zup_n, upd_s, upd_n, ne_eq, not_true_eq_false, not_false_eq_true] at hc <;> omega)
      | (intro hc; exact absurd rfl hc)
      | intro hc
      | apply And.intro
      | exact Or.inl rfl
      | exact Or.inr rfl
      | (show (_ : Int32) = 0 ∨ _ = 1; simp (disch := first | omega | decide) only [zcn, zkpl, zki, zki1, zk8, zk16, zo32, zlt0, zle0, zeq0, zgt0, zLe0, nI_ltI, nI_leI, nI_eq, nI_add, nI_clamp, vp_in_nI, zup_s, zup_n, upd_s, upd_n, ne_eq, not_true_eq_false, not_false_eq_true, zeq1, true_or, or_true]; done))
  refine f41 (fun c1 => ?_)
  obtain ⟨a1, a2, a3⟩ := c1
  have nP : ∀ k, k < 4 → (¬ ∃ i, lfO s e k (rl 1 (k + 1)) i) → ¬ PT s e := fun k hk g g' => g ⟨_, PT_ch h eN g' k hk⟩
  -- the leaves
  rcases lf_run hs h (e := e) (by omega) (c := fun k => rl 1 (k + 1)) 0 (by omega) (by decide) (x := nI e) (y := Int32.ofInt 0) (z := (Int8.ofInt 69).toInt32) rfl (by decide) (by decide) hm (fun j hj => absurd hj (Nat.not_lt_zero j)) with ⟨l0, v0⟩ | ⟨l0, v0⟩
  rotate_left
  · have hQ := hQ2 u (mgo_r hm) (nP 0 (by omega) l0)
    have f49 : ZW 178 (0, 0, 0, 0) 49 [(2, .int (nI e)), (0, .ref 42), (1, .int (nI t))] [.int 0] (SH, u) Q := by
      refine zgo 20 [] ?_
      repeat' (first
        | (show vp_in _ _; simp (disch := first | omega | decide) only [zcn, zkpl, zki, zki1, zk8, zk16, zo32, zlt0, zle0, zeq0, zgt0, zLe0, nI_ltI, nI_leI, nI_eq, nI_add, nI_clamp, vp_in_nI, zup_s, zup_n, upd_s, upd_n, ne_eq, not_true_eq_false, not_false_eq_true]; done)
        | (intro hc; exfalso; simp (disch := first | omega | decide) only [zcn, zkpl, zki, zki1, zk8, zk16, zo32, zlt0, zle0, zeq0, zgt0, zLe0, nI_ltI, nI_leI, nI_eq, nI_add, nI_clamp, vp_in_nI, zup_s, zup_n, upd_s, upd_n, ne_eq, not_true_eq_false, not_false_eq_true] at hc <;> omega)
        | (intro hc; exact absurd rfl hc)
        | intro hc
        | apply And.intro
        | exact hQ
        | (show Q _ (SH, _); simp (disch := first | omega | decide) only [zcn, zkpl, zki, zki1, zk8, zk16, zo32, zlt0, zle0, zeq0, zgt0, zLe0, nI_ltI, nI_leI, nI_eq, nI_add, nI_clamp, vp_in_nI, zup_s, zup_n, upd_s, upd_n, ne_eq, not_true_eq_false, not_false_eq_true]; exact hQ)
        | exact Or.inl rfl
        | exact Or.inr rfl
        | (show (_ : Int32) = 0 ∨ _ = 1; simp (disch := first | omega | decide) only [zcn, zkpl, zki, zki1, zk8, zk16, zo32, zlt0, zle0, zeq0, zgt0, zLe0, nI_ltI, nI_leI, nI_eq, nI_add, nI_clamp, vp_in_nI, zup_s, zup_n, upd_s, upd_n, ne_eq, not_true_eq_false, not_false_eq_true, zeq1, true_or, or_true]; done))
    refine zgo 10 [] ?_
    repeat' (first
      | (exact v0.use f49)
      | (show vp_in _ _; simp (disch := first | omega | decide) only [zcn, zkpl, zki, zki1, zk8, zk16, zo32, zlt0, zle0, zeq0, zgt0, zLe0, nI_ltI, nI_leI, nI_eq, nI_add, nI_clamp, vp_in_nI, zup_s, zup_n, upd_s, upd_n, ne_eq, not_true_eq_false, not_false_eq_true]; done)
      | (intro hc; exfalso; simp (disch := first | omega | decide) only [zcn, zkpl, zki, zki1, zk8, zk16, zo32, zlt0, zle0, zeq0, zgt0, zLe0, nI_ltI, nI_leI, nI_eq, nI_add, nI_clamp, vp_in_nI, zup_s, zup_n, upd_s, upd_n, ne_eq, not_true_eq_false, not_false_eq_true] at hc <;> omega)
      | (intro hc; exact absurd rfl hc)
      | intro hc
      | apply And.intro
      | exact Or.inl rfl
      | exact Or.inr rfl
      | (show (_ : Int32) = 0 ∨ _ = 1; simp (disch := first | omega | decide) only [zcn, zkpl, zki, zki1, zk8, zk16, zo32, zlt0, zle0, zeq0, zgt0, zLe0, nI_ltI, nI_leI, nI_eq, nI_add, nI_clamp, vp_in_nI, zup_s, zup_n, upd_s, upd_n, ne_eq, not_true_eq_false, not_false_eq_true, zeq1, true_or, or_true]; done))
  obtain ⟨m1, t1⟩ := mgo_tm hm (i := e + 1 + 0)
  have k1 : ∀ a, a ≠ 48 → a ≠ 49 → tmm u s (e + 1 + 0) a = u a := fun a h1 h2 => tmm_o h1 h2
  generalize tmm u s (e + 1 + 0) = u1 at *
  have hm1 := m1.2.1
  rcases lf_run hs h (e := e) (by omega) (c := fun k => rl 1 (k + 1)) 1 (by omega) (by decide) (x := nI e) (y := Int32.ofInt 1) (z := (Int8.ofInt 68).toInt32) rfl (by decide) (by decide) hm1 (fun j hj => by
    have e0 : j = 0 := by omega
    subst e0
    exact l0) with ⟨l1, v1⟩ | ⟨l1, v1⟩
  rotate_left
  · have hQ := hQ2 u1 m1 (nP 1 (by omega) l1)
    have f60 : ZW 178 (0, 0, 0, 0) 60 [(2, .int (nI e)), (0, .ref 42), (1, .int (nI t))] [.int 0] (SH, u1) Q := by
      refine zgo 20 [] ?_
      repeat' (first
        | (show vp_in _ _; simp (disch := first | omega | decide) only [zcn, zkpl, zki, zki1, zk8, zk16, zo32, zlt0, zle0, zeq0, zgt0, zLe0, nI_ltI, nI_leI, nI_eq, nI_add, nI_clamp, vp_in_nI, zup_s, zup_n, upd_s, upd_n, ne_eq, not_true_eq_false, not_false_eq_true]; done)
        | (intro hc; exfalso; simp (disch := first | omega | decide) only [zcn, zkpl, zki, zki1, zk8, zk16, zo32, zlt0, zle0, zeq0, zgt0, zLe0, nI_ltI, nI_leI, nI_eq, nI_add, nI_clamp, vp_in_nI, zup_s, zup_n, upd_s, upd_n, ne_eq, not_true_eq_false, not_false_eq_true] at hc <;> omega)
        | (intro hc; exact absurd rfl hc)
        | intro hc
        | apply And.intro
        | exact hQ
        | (show Q _ (SH, _); simp (disch := first | omega | decide) only [zcn, zkpl, zki, zki1, zk8, zk16, zo32, zlt0, zle0, zeq0, zgt0, zLe0, nI_ltI, nI_leI, nI_eq, nI_add, nI_clamp, vp_in_nI, zup_s, zup_n, upd_s, upd_n, ne_eq, not_true_eq_false, not_false_eq_true]; exact hQ)
        | exact Or.inl rfl
        | exact Or.inr rfl
        | (show (_ : Int32) = 0 ∨ _ = 1; simp (disch := first | omega | decide) only [zcn, zkpl, zki, zki1, zk8, zk16, zo32, zlt0, zle0, zeq0, zgt0, zLe0, nI_ltI, nI_leI, nI_eq, nI_add, nI_clamp, vp_in_nI, zup_s, zup_n, upd_s, upd_n, ne_eq, not_true_eq_false, not_false_eq_true, zeq1, true_or, or_true]; done))
    have f49 : ZW 178 (0, 0, 0, 0) 49 [(2, .int (nI e)), (0, .ref 42), (1, .int (nI t))] [.int 1] (SH, u1) Q := by
      refine zgo 10 [] ?_
      repeat' (first
        | (exact v1.use f60)
        | (show vp_in _ _; simp (disch := first | omega | decide) only [z10, zcn, zkpl, zki, zki1, zk8, zk16, zo32, zlt0, zle0, zeq0, zgt0, zLe0, nI_ltI, nI_leI, nI_eq, nI_add, nI_clamp, vp_in_nI, zup_s, zup_n, upd_s, upd_n, ne_eq, not_true_eq_false, not_false_eq_true]; done)
        | (intro hc; exfalso; simp (disch := first | omega | decide) only [z10, zcn, zkpl, zki, zki1, zk8, zk16, zo32, zlt0, zle0, zeq0, zgt0, zLe0, nI_ltI, nI_leI, nI_eq, nI_add, nI_clamp, vp_in_nI, zup_s, zup_n, upd_s, upd_n, ne_eq, not_true_eq_false, not_false_eq_true] at hc <;> omega)
        | (intro hc; exact absurd rfl hc)
        | intro hc
        | apply And.intro
        | exact Or.inl rfl
        | exact Or.inr rfl
        | (show (_ : Int32) = 0 ∨ _ = 1; simp (disch := first | omega | decide) only [z10, zcn, zkpl, zki, zki1, zk8, zk16, zo32, zlt0, zle0, zeq0, zgt0, zLe0, nI_ltI, nI_leI, nI_eq, nI_add, nI_clamp, vp_in_nI, zup_s, zup_n, upd_s, upd_n, ne_eq, not_true_eq_false, not_false_eq_true, zeq1, true_or, or_true]; done))
    refine zgo 10 [] ?_
    repeat' (first
      | (exact v0.use f49)
      | (show vp_in _ _; simp (disch := first | omega | decide) only [zcn, zkpl, zki, zki1, zk8, zk16, zo32, zlt0, zle0, zeq0, zgt0, zLe0, nI_ltI, nI_leI, nI_eq, nI_add, nI_clamp, vp_in_nI, zup_s, zup_n, upd_s, upd_n, ne_eq, not_true_eq_false, not_false_eq_true]; done)
      | (intro hc; exfalso; simp (disch := first | omega | decide) only [zcn, zkpl, zki, zki1, zk8, zk16, zo32, zlt0, zle0, zeq0, zgt0, zLe0, nI_ltI, nI_leI, nI_eq, nI_add, nI_clamp, vp_in_nI, zup_s, zup_n, upd_s, upd_n, ne_eq, not_true_eq_false, not_false_eq_true] at hc <;> omega)
      | (intro hc; exact absurd rfl hc)
      | intro hc
      | apply And.intro
      | exact Or.inl rfl
      | exact Or.inr rfl
      | (show (_ : Int32) = 0 ∨ _ = 1; simp (disch := first | omega | decide) only [zcn, zkpl, zki, zki1, zk8, zk16, zo32, zlt0, zle0, zeq0, zgt0, zLe0, nI_ltI, nI_leI, nI_eq, nI_add, nI_clamp, vp_in_nI, zup_s, zup_n, upd_s, upd_n, ne_eq, not_true_eq_false, not_false_eq_true, zeq1, true_or, or_true]; done))
  obtain ⟨m2, t2⟩ := mgo_tm hm1 (i := e + 1 + 1)
  have k2 : ∀ a, a ≠ 48 → a ≠ 49 → tmm u1 s (e + 1 + 1) a = u1 a := fun a h1 h2 => tmm_o h1 h2
  generalize tmm u1 s (e + 1 + 1) = u2 at *
  have hm2 := m2.2.1
  rcases lf_run hs h (e := e) (by omega) (c := fun k => rl 1 (k + 1)) 2 (by omega) (by decide) (x := nI e) (y := Int32.ofInt 2) (z := (Int8.ofInt 67).toInt32) rfl (by decide) (by decide) hm2 (fun j hj => by
    rcases (show j = 0 ∨ j = 1 by omega) with rfl | rfl
    · exact l0
    · exact l1) with ⟨l2, v2⟩ | ⟨l2, v2⟩
  rotate_left
  · have hQ := hQ2 u2 (m1.tr m2) (nP 2 (by omega) l2)
    have f71 : ZW 178 (0, 0, 0, 0) 71 [(2, .int (nI e)), (0, .ref 42), (1, .int (nI t))] [.int 0] (SH, u2) Q := by
      refine zgo 20 [] ?_
      repeat' (first
        | (show vp_in _ _; simp (disch := first | omega | decide) only [zcn, zkpl, zki, zki1, zk8, zk16, zo32, zlt0, zle0, zeq0, zgt0, zLe0, nI_ltI, nI_leI, nI_eq, nI_add, nI_clamp, vp_in_nI, zup_s, zup_n, upd_s, upd_n, ne_eq, not_true_eq_false, not_false_eq_true]; done)
        | (intro hc; exfalso; simp (disch := first | omega | decide) only [zcn, zkpl, zki, zki1, zk8, zk16, zo32, zlt0, zle0, zeq0, zgt0, zLe0, nI_ltI, nI_leI, nI_eq, nI_add, nI_clamp, vp_in_nI, zup_s, zup_n, upd_s, upd_n, ne_eq, not_true_eq_false, not_false_eq_true] at hc <;> omega)
        | (intro hc; exact absurd rfl hc)
        | intro hc
        | apply And.intro
        | exact hQ
        | (show Q _ (SH, _); simp (disch := first | omega | decide) only [zcn, zkpl, zki, zki1, zk8, zk16, zo32, zlt0, zle0, zeq0, zgt0, zLe0, nI_ltI, nI_leI, nI_eq, nI_add, nI_clamp, vp_in_nI, zup_s, zup_n, upd_s, upd_n, ne_eq, not_true_eq_false, not_false_eq_true]; exact hQ)
        | exact Or.inl rfl
        | exact Or.inr rfl
        | (show (_ : Int32) = 0 ∨ _ = 1; simp (disch := first | omega | decide) only [zcn, zkpl, zki, zki1, zk8, zk16, zo32, zlt0, zle0, zeq0, zgt0, zLe0, nI_ltI, nI_leI, nI_eq, nI_add, nI_clamp, vp_in_nI, zup_s, zup_n, upd_s, upd_n, ne_eq, not_true_eq_false, not_false_eq_true, zeq1, true_or, or_true]; done))
    have f60 : ZW 178 (0, 0, 0, 0) 60 [(2, .int (nI e)), (0, .ref 42), (1, .int (nI t))] [.int 1] (SH, u2) Q := by
      refine zgo 10 [] ?_
      repeat' (first
        | (exact v2.use f71)
        | (show vp_in _ _; simp (disch := first | omega | decide) only [z10, zcn, zkpl, zki, zki1, zk8, zk16, zo32, zlt0, zle0, zeq0, zgt0, zLe0, nI_ltI, nI_leI, nI_eq, nI_add, nI_clamp, vp_in_nI, zup_s, zup_n, upd_s, upd_n, ne_eq, not_true_eq_false, not_false_eq_true]; done)
        | (intro hc; exfalso; simp (disch := first | omega | decide) only [z10, zcn, zkpl, zki, zki1, zk8, zk16, zo32, zlt0, zle0, zeq0, zgt0, zLe0, nI_ltI, nI_leI, nI_eq, nI_add, nI_clamp, vp_in_nI, zup_s, zup_n, upd_s, upd_n, ne_eq, not_true_eq_false, not_false_eq_true] at hc <;> omega)
        | (intro hc; exact absurd rfl hc)
        | intro hc
        | apply And.intro
        | exact Or.inl rfl
        | exact Or.inr rfl
        | (show (_ : Int32) = 0 ∨ _ = 1; simp (disch := first | omega | decide) only [z10, zcn, zkpl, zki, zki1, zk8, zk16, zo32, zlt0, zle0, zeq0, zgt0, zLe0, nI_ltI, nI_leI, nI_eq, nI_add, nI_clamp, vp_in_nI, zup_s, zup_n, upd_s, upd_n, ne_eq, not_true_eq_false, not_false_eq_true, zeq1, true_or, or_true]; done))
    have f49 : ZW 178 (0, 0, 0, 0) 49 [(2, .int (nI e)), (0, .ref 42), (1, .int (nI t))] [.int 1] (SH, u1) Q := by
      refine zgo 10 [] ?_
      repeat' (first
        | (exact v1.use f60)
        | (show vp_in _ _; simp (disch := first | omega | decide) only [z10, zcn, zkpl, zki, zki1, zk8, zk16, zo32, zlt0, zle0, zeq0, zgt0, zLe0, nI_ltI, nI_leI, nI_eq, nI_add, nI_clamp, vp_in_nI, zup_s, zup_n, upd_s, upd_n, ne_eq, not_true_eq_false, not_false_eq_true]; done)
        | (intro hc; exfalso; simp (disch := first | omega | decide) only [z10, zcn, zkpl, zki, zki1, zk8, zk16, zo32, zlt0, zle0, zeq0, zgt0, zLe0, nI_ltI, nI_leI, nI_eq, nI_add, nI_clamp, vp_in_nI, zup_s, zup_n, upd_s, upd_n, ne_eq, not_true_eq_false, not_false_eq_true] at hc <;> omega)
        | (intro hc; exact absurd rfl hc)
        | intro hc
        | apply And.intro
        | exact Or.inl rfl
        | exact Or.inr rfl
        | (show (_ : Int32) = 0 ∨ _ = 1; simp (disch := first | omega | decide) only [z10, zcn, zkpl, zki, zki1, zk8, zk16, zo32, zlt0, zle0, zeq0, zgt0, zLe0, nI_ltI, nI_leI, nI_eq, nI_add, nI_clamp, vp_in_nI, zup_s, zup_n, upd_s, upd_n, ne_eq, not_true_eq_false, not_false_eq_true, zeq1, true_or, or_true]; done))
    refine zgo 10 [] ?_
    repeat' (first
      | (exact v0.use f49)
      | (show vp_in _ _; simp (disch := first | omega | decide) only [zcn, zkpl, zki, zki1, zk8, zk16, zo32, zlt0, zle0, zeq0, zgt0, zLe0, nI_ltI, nI_leI, nI_eq, nI_add, nI_clamp, vp_in_nI, zup_s, zup_n, upd_s, upd_n, ne_eq, not_true_eq_false, not_false_eq_true]; done)
      | (intro hc; exfalso; simp (disch := first | omega | decide) only [zcn, zkpl, zki, zki1, zk8, zk16, zo32, zlt0, zle0, zeq0, zgt0, zLe0, nI_ltI, nI_leI, nI_eq, nI_add, nI_clamp, vp_in_nI, zup_s, zup_n, upd_s, upd_n, ne_eq, not_true_eq_false, not_false_eq_true] at hc <;> omega)
      | (intro hc; exact absurd rfl hc)
      | intro hc
      | apply And.intro
      | exact Or.inl rfl
      | exact Or.inr rfl
      | (show (_ : Int32) = 0 ∨ _ = 1; simp (disch := first | omega | decide) only [zcn, zkpl, zki, zki1, zk8, zk16, zo32, zlt0, zle0, zeq0, zgt0, zLe0, nI_ltI, nI_leI, nI_eq, nI_add, nI_clamp, vp_in_nI, zup_s, zup_n, upd_s, upd_n, ne_eq, not_true_eq_false, not_false_eq_true, zeq1, true_or, or_true]; done))
  obtain ⟨m3, t3⟩ := mgo_tm hm2 (i := e + 1 + 2)
  have k3 : ∀ a, a ≠ 48 → a ≠ 49 → tmm u2 s (e + 1 + 2) a = u2 a := fun a h1 h2 => tmm_o h1 h2
  generalize tmm u2 s (e + 1 + 2) = u3 at *
  have hm3 := m3.2.1
  have pre : ∀ (b : Int32) u4, (b = 0 ∨ b = 1) → Ev 173 [.ref 42, .int (nI e), .int (Int32.ofInt 3), .int (Int8.ofInt 65).toInt32] u3 (some (.int b)) u4 → ZW 178 (0, 0, 0, 0) 82 [(2, .int (nI e)), (0, .ref 42), (1, .int (nI t))] [.int b] (SH, u4) Q → ZW 178 (0, 0, 0, 0) 41 [(2, .int (nI e)), (0, .ref 42), (1, .int (nI t))] [] (SH, u) Q := by
    intro b u4 hb v3 f82
    have f71 : ZW 178 (0, 0, 0, 0) 71 [(2, .int (nI e)), (0, .ref 42), (1, .int (nI t))] [.int 1] (SH, u3) Q := by
      refine zgo 10 [] ?_
      repeat' (first
        | (exact v3.use f82)
        | (show vp_in _ _; simp (disch := first | omega | decide) only [z10, zcn, zkpl, zki, zki1, zk8, zk16, zo32, zlt0, zle0, zeq0, zgt0, zLe0, nI_ltI, nI_leI, nI_eq, nI_add, nI_clamp, vp_in_nI, zup_s, zup_n, upd_s, upd_n, ne_eq, not_true_eq_false, not_false_eq_true]; done)
        | (intro hc; exfalso; simp (disch := first | omega | decide) only [z10, zcn, zkpl, zki, zki1, zk8, zk16, zo32, zlt0, zle0, zeq0, zgt0, zLe0, nI_ltI, nI_leI, nI_eq, nI_add, nI_clamp, vp_in_nI, zup_s, zup_n, upd_s, upd_n, ne_eq, not_true_eq_false, not_false_eq_true] at hc <;> omega)
        | (intro hc; exact absurd rfl hc)
        | intro hc
        | apply And.intro
        | exact Or.inl rfl
        | exact Or.inr rfl
        | (show (_ : Int32) = 0 ∨ _ = 1; simp (disch := first | omega | decide) only [z10, zcn, zkpl, zki, zki1, zk8, zk16, zo32, zlt0, zle0, zeq0, zgt0, zLe0, nI_ltI, nI_leI, nI_eq, nI_add, nI_clamp, vp_in_nI, zup_s, zup_n, upd_s, upd_n, ne_eq, not_true_eq_false, not_false_eq_true, zeq1, true_or, or_true]; done))
    have f60 : ZW 178 (0, 0, 0, 0) 60 [(2, .int (nI e)), (0, .ref 42), (1, .int (nI t))] [.int 1] (SH, u2) Q := by
      refine zgo 10 [] ?_
      repeat' (first
        | (exact v2.use f71)
        | (show vp_in _ _; simp (disch := first | omega | decide) only [z10, zcn, zkpl, zki, zki1, zk8, zk16, zo32, zlt0, zle0, zeq0, zgt0, zLe0, nI_ltI, nI_leI, nI_eq, nI_add, nI_clamp, vp_in_nI, zup_s, zup_n, upd_s, upd_n, ne_eq, not_true_eq_false, not_false_eq_true]; done)
        | (intro hc; exfalso; simp (disch := first | omega | decide) only [z10, zcn, zkpl, zki, zki1, zk8, zk16, zo32, zlt0, zle0, zeq0, zgt0, zLe0, nI_ltI, nI_leI, nI_eq, nI_add, nI_clamp, vp_in_nI, zup_s, zup_n, upd_s, upd_n, ne_eq, not_true_eq_false, not_false_eq_true] at hc <;> omega)
        | (intro hc; exact absurd rfl hc)
        | intro hc
        | apply And.intro
        | exact Or.inl rfl
        | exact Or.inr rfl
        | (show (_ : Int32) = 0 ∨ _ = 1; simp (disch := first | omega | decide) only [z10, zcn, zkpl, zki, zki1, zk8, zk16, zo32, zlt0, zle0, zeq0, zgt0, zLe0, nI_ltI, nI_leI, nI_eq, nI_add, nI_clamp, vp_in_nI, zup_s, zup_n, upd_s, upd_n, ne_eq, not_true_eq_false, not_false_eq_true, zeq1, true_or, or_true]; done))
    have f49 : ZW 178 (0, 0, 0, 0) 49 [(2, .int (nI e)), (0, .ref 42), (1, .int (nI t))] [.int 1] (SH, u1) Q := by
      refine zgo 10 [] ?_
      repeat' (first
        | (exact v1.use f60)
        | (show vp_in _ _; simp (disch := first | omega | decide) only [z10, zcn, zkpl, zki, zki1, zk8, zk16, zo32, zlt0, zle0, zeq0, zgt0, zLe0, nI_ltI, nI_leI, nI_eq, nI_add, nI_clamp, vp_in_nI, zup_s, zup_n, upd_s, upd_n, ne_eq, not_true_eq_false, not_false_eq_true]; done)
        | (intro hc; exfalso; simp (disch := first | omega | decide) only [z10, zcn, zkpl, zki, zki1, zk8, zk16, zo32, zlt0, zle0, zeq0, zgt0, zLe0, nI_ltI, nI_leI, nI_eq, nI_add, nI_clamp, vp_in_nI, zup_s, zup_n, upd_s, upd_n, ne_eq, not_true_eq_false, not_false_eq_true] at hc <;> omega)
        | (intro hc; exact absurd rfl hc)
        | intro hc
        | apply And.intro
        | exact Or.inl rfl
        | exact Or.inr rfl
        | (show (_ : Int32) = 0 ∨ _ = 1; simp (disch := first | omega | decide) only [z10, zcn, zkpl, zki, zki1, zk8, zk16, zo32, zlt0, zle0, zeq0, zgt0, zLe0, nI_ltI, nI_leI, nI_eq, nI_add, nI_clamp, vp_in_nI, zup_s, zup_n, upd_s, upd_n, ne_eq, not_true_eq_false, not_false_eq_true, zeq1, true_or, or_true]; done))
    refine zgo 10 [] ?_
    repeat' (first
      | (exact v0.use f49)
      | (show vp_in _ _; simp (disch := first | omega | decide) only [zcn, zkpl, zki, zki1, zk8, zk16, zo32, zlt0, zle0, zeq0, zgt0, zLe0, nI_ltI, nI_leI, nI_eq, nI_add, nI_clamp, vp_in_nI, zup_s, zup_n, upd_s, upd_n, ne_eq, not_true_eq_false, not_false_eq_true]; done)
      | (intro hc; exfalso; simp (disch := first | omega | decide) only [zcn, zkpl, zki, zki1, zk8, zk16, zo32, zlt0, zle0, zeq0, zgt0, zLe0, nI_ltI, nI_leI, nI_eq, nI_add, nI_clamp, vp_in_nI, zup_s, zup_n, upd_s, upd_n, ne_eq, not_true_eq_false, not_false_eq_true] at hc <;> omega)
      | (intro hc; exact absurd rfl hc)
      | intro hc
      | apply And.intro
      | exact Or.inl rfl
      | exact Or.inr rfl
      | (show (_ : Int32) = 0 ∨ _ = 1; simp (disch := first | omega | decide) only [zcn, zkpl, zki, zki1, zk8, zk16, zo32, zlt0, zle0, zeq0, zgt0, zLe0, nI_ltI, nI_leI, nI_eq, nI_add, nI_clamp, vp_in_nI, zup_s, zup_n, upd_s, upd_n, ne_eq, not_true_eq_false, not_false_eq_true, zeq1, true_or, or_true]; done))
  rcases lf_run hs h (e := e) (by omega) (c := fun k => rl 1 (k + 1)) 3 (by omega) (by decide) (x := nI e) (y := Int32.ofInt 3) (z := (Int8.ofInt 65).toInt32) rfl (by decide) (by decide) hm3 (fun j hj => by
    rcases (show j = 0 ∨ j = 1 ∨ j = 2 by omega) with rfl | rfl | rfl
    · exact l0
    · exact l1
    · exact l2) with ⟨l3, v3⟩ | ⟨l3, v3⟩
  rotate_left
  · have hQ := hQ2 u3 ((m1.tr m2).tr m3) (nP 3 (by omega) l3)
    refine pre 0 u3 (Or.inl rfl) v3 ?_
    refine zgo 20 [] ?_
    repeat' (first
      | (show vp_in _ _; simp (disch := first | omega | decide) only [zcn, zkpl, zki, zki1, zk8, zk16, zo32, zlt0, zle0, zeq0, zgt0, zLe0, nI_ltI, nI_leI, nI_eq, nI_add, nI_clamp, vp_in_nI, zup_s, zup_n, upd_s, upd_n, ne_eq, not_true_eq_false, not_false_eq_true]; done)
      | (intro hc; exfalso; simp (disch := first | omega | decide) only [zcn, zkpl, zki, zki1, zk8, zk16, zo32, zlt0, zle0, zeq0, zgt0, zLe0, nI_ltI, nI_leI, nI_eq, nI_add, nI_clamp, vp_in_nI, zup_s, zup_n, upd_s, upd_n, ne_eq, not_true_eq_false, not_false_eq_true] at hc <;> omega)
      | (intro hc; exact absurd rfl hc)
      | intro hc
      | apply And.intro
      | exact hQ
      | (show Q _ (SH, _); simp (disch := first | omega | decide) only [zcn, zkpl, zki, zki1, zk8, zk16, zo32, zlt0, zle0, zeq0, zgt0, zLe0, nI_ltI, nI_leI, nI_eq, nI_add, nI_clamp, vp_in_nI, zup_s, zup_n, upd_s, upd_n, ne_eq, not_true_eq_false, not_false_eq_true]; exact hQ)
      | exact Or.inl rfl
      | exact Or.inr rfl
      | (show (_ : Int32) = 0 ∨ _ = 1; simp (disch := first | omega | decide) only [zcn, zkpl, zki, zki1, zk8, zk16, zo32, zlt0, zle0, zeq0, zgt0, zLe0, nI_ltI, nI_leI, nI_eq, nI_add, nI_clamp, vp_in_nI, zup_s, zup_n, upd_s, upd_n, ne_eq, not_true_eq_false, not_false_eq_true, zeq1, true_or, or_true]; done))
  obtain ⟨m4, t4⟩ := mgo_tm hm3 (i := e + 1 + 3)
  have k4 : ∀ a, a ≠ 48 → a ≠ 49 → tmm u3 s (e + 1 + 3) a = u a := fun a h1 h2 => by rw [tmm_o h1 h2, k3 a h1 h2, k2 a h1 h2, k1 a h1 h2]
  generalize tmm u3 s (e + 1 + 3) = u4 at *
  have hm4 := m4.2.1
  have mm := (m1.tr m2).tr (m3.tr m4)
  have n1 : e + 1 < s 0 1 := (ch_some l0.1).2.1
  have n2 : e + 2 < s 0 1 := (ch_some l1.1).2.1
  have n3 : e + 3 < s 0 1 := (ch_some l2.1).2.1
  have n4 : e + 4 < s 0 1 := (ch_some l3.1).2.1
  have T1 : tr1 u4 s (e + 1) := ((m2.tr m3).tr m4).2.2 _ n1 t1
  have T2 : tr1 u4 s (e + 2) := (m3.tr m4).2.2 _ n2 t2
  have T3 : tr1 u4 s (e + 3) := m4.2.2 _ n3 t3
  have T4 : tr1 u4 s (e + 4) := t4
  have pt : gV s (e + 1) ∧ gV s (e + 2) ∧ gV s (e + 3) ∧ gV s (e + 4) → PT s e := by
    rintro ⟨q1, q2, q3, q4⟩
    refine ⟨a1, a2, a3, fun i hi => ?_⟩
    rcases (show i = 0 ∨ i = 1 ∨ i = 2 ∨ i = 3 by omega) with rfl | rfl | rfl | rfl
    · exact ⟨n1, (ch_some l0.1).2.2.1, l0.2.1, l0.2.2, q1⟩
    · exact ⟨n2, (ch_some l1.1).2.2.1, l1.2.1, l1.2.2, q2⟩
    · exact ⟨n3, (ch_some l2.1).2.2.1, l2.2.1, l2.2.2, q3⟩
    · exact ⟨n4, (ch_some l3.1).2.2.1, l3.2.1, l3.2.2, q4⟩
  have cE : ∀ (x : Int32) k, x = nI k → k < 4 → lfO s e k (rl 1 (k + 1)) (e + 1 + k) → Ev 172 [.ref 42, .int (nI e), .int x] u4 (some (.int (nI (e + 1 + k)))) u4 := by
    intro x k hx hk l
    have := es_child hm4.1 hN hs.2 e k (y := x) rfl hx (by omega) (by omega)
    rw [l.1] at this
    exact this
  have cA := cE (Int32.ofInt 1) 1 (by decide) (by omega) l1
  have cB := cE (Int32.ofInt 2) 2 (by decide) (by omega) l2
  have cC := cE (Int32.ofInt 0) 0 (by decide) (by omega) l0
  have cD := cE (Int32.ofInt 3) 3 (by decide) (by omega) l3
  refine pre 1 u4 (Or.inr rfl) v3 ?_
  clear pre f41 v0 v1 v2 v3 nP
  -- the leaves' numbers
  have W0 : ZW 178 (0, 0, 0, 0) 118 [(6, .int (nI (e + 4))), (5, .int (nI (e + 1))), (4, .int (nI (e + 3))), (3, .int (nI (e + 2))), (2, .int (nI e)), (0, .ref 42), (1, .int (nI t))] [] (SH, u4) Q → ZW 178 (0, 0, 0, 0) 82 [(2, .int (nI e)), (0, .ref 42), (1, .int (nI t))] [.int 1] (SH, u4) Q := by
    intro W
    have f116 : ZW 178 (0, 0, 0, 0) 116 [(5, .int (nI (e + 1))), (4, .int (nI (e + 3))), (3, .int (nI (e + 2))), (2, .int (nI e)), (0, .ref 42), (1, .int (nI t))] [.int (nI (e + 4))] (SH, u4) Q := by
      refine zgo 1 [] ?_
      exact W
    have f108 : ZW 178 (0, 0, 0, 0) 108 [(4, .int (nI (e + 3))), (3, .int (nI (e + 2))), (2, .int (nI e)), (0, .ref 42), (1, .int (nI t))] [.int (nI (e + 1))] (SH, u4) Q := by
      refine zgo 10 [] ?_
      repeat' (first
        | (exact cD.use f116)
        | (show vp_in _ _; simp (disch := first | omega | decide) only [zcn, zkpl, zki, zki1, zk8, zk16, zo32, zlt0, zle0, zeq0, zgt0, zLe0, nI_ltI, nI_leI, nI_eq, nI_add, nI_clamp, vp_in_nI, zup_s, zup_n, upd_s, upd_n, ne_eq, not_true_eq_false, not_false_eq_true]; done)
        | (intro hc; exfalso; simp (disch := first | omega | decide) only [zcn, zkpl, zki, zki1, zk8, zk16, zo32, zlt0, zle0, zeq0, zgt0, zLe0, nI_ltI, nI_leI, nI_eq, nI_add, nI_clamp, vp_in_nI, zup_s, zup_n, upd_s, upd_n, ne_eq, not_true_eq_false, not_false_eq_true] at hc <;> omega)
        | (intro hc; exact absurd rfl hc)
        | intro hc
        | apply And.intro
        | exact Or.inl rfl
        | exact Or.inr rfl
        | (show (_ : Int32) = 0 ∨ _ = 1; simp (disch := first | omega | decide) only [zcn, zkpl, zki, zki1, zk8, zk16, zo32, zlt0, zle0, zeq0, zgt0, zLe0, nI_ltI, nI_leI, nI_eq, nI_add, nI_clamp, vp_in_nI, zup_s, zup_n, upd_s, upd_n, ne_eq, not_true_eq_false, not_false_eq_true, zeq1, true_or, or_true]; done))
    have f100 : ZW 178 (0, 0, 0, 0) 100 [(3, .int (nI (e + 2))), (2, .int (nI e)), (0, .ref 42), (1, .int (nI t))] [.int (nI (e + 3))] (SH, u4) Q := by
      refine zgo 10 [] ?_
      repeat' (first
        | (exact cC.use f108)
        | (show vp_in _ _; simp (disch := first | omega | decide) only [zcn, zkpl, zki, zki1, zk8, zk16, zo32, zlt0, zle0, zeq0, zgt0, zLe0, nI_ltI, nI_leI, nI_eq, nI_add, nI_clamp, vp_in_nI, zup_s, zup_n, upd_s, upd_n, ne_eq, not_true_eq_false, not_false_eq_true]; done)
        | (intro hc; exfalso; simp (disch := first | omega | decide) only [zcn, zkpl, zki, zki1, zk8, zk16, zo32, zlt0, zle0, zeq0, zgt0, zLe0, nI_ltI, nI_leI, nI_eq, nI_add, nI_clamp, vp_in_nI, zup_s, zup_n, upd_s, upd_n, ne_eq, not_true_eq_false, not_false_eq_true] at hc <;> omega)
        | (intro hc; exact absurd rfl hc)
        | intro hc
        | apply And.intro
        | exact Or.inl rfl
        | exact Or.inr rfl
        | (show (_ : Int32) = 0 ∨ _ = 1; simp (disch := first | omega | decide) only [zcn, zkpl, zki, zki1, zk8, zk16, zo32, zlt0, zle0, zeq0, zgt0, zLe0, nI_ltI, nI_leI, nI_eq, nI_add, nI_clamp, vp_in_nI, zup_s, zup_n, upd_s, upd_n, ne_eq, not_true_eq_false, not_false_eq_true, zeq1, true_or, or_true]; done))
    have f93 : ZW 178 (0, 0, 0, 0) 93 [(2, .int (nI e)), (0, .ref 42), (1, .int (nI t))] [.int (nI (e + 2))] (SH, u4) Q := by
      refine zgo 10 [] ?_
      repeat' (first
        | (exact cB.use f100)
        | (show vp_in _ _; simp (disch := first | omega | decide) only [zcn, zkpl, zki, zki1, zk8, zk16, zo32, zlt0, zle0, zeq0, zgt0, zLe0, nI_ltI, nI_leI, nI_eq, nI_add, nI_clamp, vp_in_nI, zup_s, zup_n, upd_s, upd_n, ne_eq, not_true_eq_false, not_false_eq_true]; done)
        | (intro hc; exfalso; simp (disch := first | omega | decide) only [zcn, zkpl, zki, zki1, zk8, zk16, zo32, zlt0, zle0, zeq0, zgt0, zLe0, nI_ltI, nI_leI, nI_eq, nI_add, nI_clamp, vp_in_nI, zup_s, zup_n, upd_s, upd_n, ne_eq, not_true_eq_false, not_false_eq_true] at hc <;> omega)
        | (intro hc; exact absurd rfl hc)
        | intro hc
        | apply And.intro
        | exact Or.inl rfl
        | exact Or.inr rfl
        | (show (_ : Int32) = 0 ∨ _ = 1; simp (disch := first | omega | decide) only [zcn, zkpl, zki, zki1, zk8, zk16, zo32, zlt0, zle0, zeq0, zgt0, zLe0, nI_ltI, nI_leI, nI_eq, nI_add, nI_clamp, vp_in_nI, zup_s, zup_n, upd_s, upd_n, ne_eq, not_true_eq_false, not_false_eq_true, zeq1, true_or, or_true]; done))
    refine zgo 10 [] ?_
    repeat' (first
      | (exact cA.use f93)
      | (show vp_in _ _; simp (disch := first | omega | decide) only [z10, zcn, zkpl, zki, zki1, zk8, zk16, zo32, zlt0, zle0, zeq0, zgt0, zLe0, nI_ltI, nI_leI, nI_eq, nI_add, nI_clamp, vp_in_nI, zup_s, zup_n, upd_s, upd_n, ne_eq, not_true_eq_false, not_false_eq_true]; done)
      | (intro hc; exfalso; simp (disch := first | omega | decide) only [z10, zcn, zkpl, zki, zki1, zk8, zk16, zo32, zlt0, zle0, zeq0, zgt0, zLe0, nI_ltI, nI_leI, nI_eq, nI_add, nI_clamp, vp_in_nI, zup_s, zup_n, upd_s, upd_n, ne_eq, not_true_eq_false, not_false_eq_true] at hc <;> omega)
      | (intro hc; exact absurd rfl hc)
      | intro hc
      | apply And.intro
      | exact Or.inl rfl
      | exact Or.inr rfl
      | (show (_ : Int32) = 0 ∨ _ = 1; simp (disch := first | omega | decide) only [z10, zcn, zkpl, zki, zki1, zk8, zk16, zo32, zlt0, zle0, zeq0, zgt0, zLe0, nI_ltI, nI_leI, nI_eq, nI_add, nI_clamp, vp_in_nI, zup_s, zup_n, upd_s, upd_n, ne_eq, not_true_eq_false, not_false_eq_true, zeq1, true_or, or_true]; done))
  refine W0 ?_
  clear W0 cA cB cC cD cE
  obtain ⟨r1, hr1⟩ : ∃ r1, (r1 = nI (nv37 (s 8) (vlen s (e + 1)) 0 (tb s (e + 1))) ∧ (1 ≤ vlen s (e + 1) ∧ vlen s (e + 1) ≤ 4 ∧ nOK (s 8) (tb s (e + 1)) (vlen s (e + 1)))) ∨ (r1 = 0 ∧ ¬ (1 ≤ vlen s (e + 1) ∧ vlen s (e + 1) ≤ 4 ∧ nOK (s 8) (tb s (e + 1)) (vlen s (e + 1)))) := by
    rcases Classical.em (1 ≤ vlen s (e + 1) ∧ vlen s (e + 1) ≤ 4 ∧ nOK (s 8) (tb s (e + 1)) (vlen s (e + 1))) with g | g
    · exact ⟨_, Or.inl ⟨rfl, g⟩⟩
    · exact ⟨_, Or.inr ⟨rfl, g⟩⟩
  have hpl : ∀ i, ∃ r2, (r2 = nI (s 8 (tb s i) - 65) ∧ aOK (s 8) (tb s i) (vlen s i)) ∨ (r2 = -1 ∧ ¬ aOK (s 8) (tb s i) (vlen s i)) := by
    intro i
    rcases Classical.em (aOK (s 8) (tb s i) (vlen s i)) with g | g
    · exact ⟨_, Or.inl ⟨rfl, g⟩⟩
    · exact ⟨_, Or.inr ⟨rfl, g⟩⟩
  obtain ⟨r2, hr2⟩ := hpl (e + 2)
  obtain ⟨r3, hr3⟩ := hpl (e + 3)
  clear hpl
  have E1 := es_name (hm4.uv hs n1 T1) hr1
  have m5 := mgo_w hm4 (a := 52) (k := t) r1 (by decide)
  have E2 := es_place (m5.2.1.uv hs n2 (m5.2.2 _ n2 T2)) hr2
  have m6 := mgo_w m5.2.1 (a := 53) (k := t) r2 (by decide)
  have E3 := es_place (m6.2.1.uv hs n3 (m6.2.2 _ n3 (m5.2.2 _ n3 T3))) hr3
  have m7 := mgo_w m6.2.1 (a := 54) (k := t) r3 (by decide)
  have E4 := es_amt (m7.2.1.uv hs n4 (m7.2.2 _ n4 (m6.2.2 _ n4 (m5.2.2 _ n4 T4))))
  have f161 : ZM 177 0 0 [.ref 42, .int (nI (e + 4))] (SH, zup (zup (zup u4 52 t r1) 53 t r2) 54 t r3) (fun r h => ZW 178 (0, 0, 0, 0) 164 [(6, .int (nI (e + 4))), (5, .int (nI (e + 1))), (4, .int (nI (e + 3))), (3, .int (nI (e + 2))), (2, .int (nI e)), (0, .ref 42), (1, .int (nI t))] (r.toList ++ [.int (nI t), .ref 56]) h Q) := by
    refine E4 _ (fun r4 hr4 => ?_)
    have m8 := mgo_w m7.2.1 (a := 56) (k := t) r4 (by decide)
    have mall := mm.tr (m5.tr (m6.tr (m7.tr m8)))
    have T2' := m8.2.2 _ n2 (m7.2.2 _ n2 (m6.2.2 _ n2 (m5.2.2 _ n2 T2)))
    have T3' := m8.2.2 _ n3 (m7.2.2 _ n3 (m6.2.2 _ n3 (m5.2.2 _ n3 T3)))
    have q52 : zup (zup (zup (zup u4 52 t r1) 53 t r2) 54 t r3) 56 t r4 52 = upd (u4 52) t r1 := rfl
    have q53 : zup (zup (zup (zup u4 52 t r1) 53 t r2) 54 t r3) 56 t r4 53 = upd (u4 53) t r2 := rfl
    have q54 : zup (zup (zup (zup u4 52 t r1) 53 t r2) 54 t r3) 56 t r4 54 = upd (u4 54) t r3 := rfl
    have q56 : zup (zup (zup (zup u4 52 t r1) 53 t r2) 54 t r3) 56 t r4 56 = upd (u4 56) t r4 := rfl
    have q55 : zup (zup (zup (zup u4 52 t r1) 53 t r2) 54 t r3) 56 t r4 55 = u4 55 := rfl
    have q42 : zup (zup (zup (zup u4 52 t r1) 53 t r2) 54 t r3) 56 t r4 42 = u4 42 := rfl
    have q48 : zup (zup (zup (zup u4 52 t r1) 53 t r2) 54 t r3) 56 t r4 48 = u4 48 := rfl
    have q49 : zup (zup (zup (zup u4 52 t r1) 53 t r2) 54 t r3) 56 t r4 49 = u4 49 := rfl
    have mS8 := m8.2.1
    have f165 : ZW 178 (0, 0, 0, 0) 165 [(6, .int (nI (e + 4))), (5, .int (nI (e + 1))), (4, .int (nI (e + 3))), (3, .int (nI (e + 2))), (2, .int (nI e)), (0, .ref 42), (1, .int (nI t))] [] (SH, zup (zup (zup (zup u4 52 t r1) 53 t r2) 54 t r3) 56 t r4) Q := by
      clear m8 m7 m6 m5 E1 E2 E3 E4
      generalize zup (zup (zup (zup u4 52 t r1) 53 t r2) 54 t r3) 56 t r4 = u8 at *
      have p52 : u8 52 t = r1 := by rw [q52, upd_s]
      have p53 : u8 53 t = r2 := by rw [q53, upd_s]
      have p54 : u8 54 t = r3 := by rw [q54, upd_s]
      have p56 : u8 56 t = r4 := by rw [q56, upd_s]
      rcases hr1 with ⟨hr1, P1⟩ | ⟨hr1, P1⟩
      rotate_left
      · have hQ := hQ2 u8 mall (fun g => P1 ((gV_I (Or.inr (Or.inl l0.2.1))).1 (g.2.2.2 0 (by omega)).2.2.2.2))
        rw [hr1] at p52
        refine zgo 30 [] ?_
        repeat' (first
          | (show vp_in _ _; simp (disch := first | omega | decide) only [p52, zcn, zkpl, zki, zki1, zk8, zk16, zo32, zlt0, zle0, zeq0, zgt0, zLe0, nI_ltI, nI_leI, nI_eq, nI_add, nI_clamp, vp_in_nI, zup_s, zup_n, upd_s, upd_n, ne_eq, not_true_eq_false, not_false_eq_true]; done)
          | (intro hc; exfalso; simp (disch := first | omega | decide) only [p52, zcn, zkpl, zki, zki1, zk8, zk16, zo32, zlt0, zle0, zeq0, zgt0, zLe0, nI_ltI, nI_leI, nI_eq, nI_add, nI_clamp, vp_in_nI, zup_s, zup_n, upd_s, upd_n, ne_eq, not_true_eq_false, not_false_eq_true] at hc <;> omega)
          | (intro hc; exact absurd rfl hc)
          | intro hc
          | apply And.intro
          | exact hQ
          | (show Q _ (SH, _); simp (disch := first | omega | decide) only [p52, zcn, zkpl, zki, zki1, zk8, zk16, zo32, zlt0, zle0, zeq0, zgt0, zLe0, nI_ltI, nI_leI, nI_eq, nI_add, nI_clamp, vp_in_nI, zup_s, zup_n, upd_s, upd_n, ne_eq, not_true_eq_false, not_false_eq_true]; exact hQ)
          | exact Or.inl rfl
          | exact Or.inr rfl
          | (show (_ : Int32) = 0 ∨ _ = 1; simp (disch := first | omega | decide) only [p52, zcn, zkpl, zki, zki1, zk8, zk16, zo32, zlt0, zle0, zeq0, zgt0, zLe0, nI_ltI, nI_leI, nI_eq, nI_add, nI_clamp, vp_in_nI, zup_s, zup_n, upd_s, upd_n, ne_eq, not_true_eq_false, not_false_eq_true, zeq1, true_or, or_true]; done))
      have b1 := nv37_b P1.1 P1.2.1 P1.2.2
      rw [hr1] at p52
      rcases hr2 with ⟨hr2, P2⟩ | ⟨hr2, P2⟩
      rotate_left
      · have hQ := hQ2 u8 mall (fun g => P2 ((gV_D (Or.inl l1.2.1)).1 (g.2.2.2 1 (by omega)).2.2.2.2))
        rw [hr2] at p53
        clear q52 hr1
        generalize nv37 (s 8) (vlen s (e + 1)) 0 (tb s (e + 1)) = nn at *
        refine zgo 30 [] ?_
        repeat' (first
          | (show vp_in _ _; simp (disch := first | omega | decide) only [p52, p53, m1l0, zcn, zkpl, zki, zki1, zk8, zk16, zo32, zlt0, zle0, zeq0, zgt0, zLe0, nI_ltI, nI_leI, nI_eq, nI_add, nI_clamp, vp_in_nI, zup_s, zup_n, upd_s, upd_n, ne_eq, not_true_eq_false, not_false_eq_true]; done)
          | (intro hc; exfalso; simp (disch := first | omega | decide) only [p52, p53, m1l0, zcn, zkpl, zki, zki1, zk8, zk16, zo32, zlt0, zle0, zeq0, zgt0, zLe0, nI_ltI, nI_leI, nI_eq, nI_add, nI_clamp, vp_in_nI, zup_s, zup_n, upd_s, upd_n, ne_eq, not_true_eq_false, not_false_eq_true] at hc <;> omega)
          | (intro hc; exact absurd rfl hc)
          | intro hc
          | apply And.intro
          | exact hQ
          | (show Q _ (SH, _); simp (disch := first | omega | decide) only [p52, p53, m1l0, zcn, zkpl, zki, zki1, zk8, zk16, zo32, zlt0, zle0, zeq0, zgt0, zLe0, nI_ltI, nI_leI, nI_eq, nI_add, nI_clamp, vp_in_nI, zup_s, zup_n, upd_s, upd_n, ne_eq, not_true_eq_false, not_false_eq_true]; exact hQ)
          | exact Or.inl rfl
          | exact Or.inr rfl
          | (show (_ : Int32) = 0 ∨ _ = 1; simp (disch := first | omega | decide) only [p52, p53, m1l0, zcn, zkpl, zki, zki1, zk8, zk16, zo32, zlt0, zle0, zeq0, zgt0, zLe0, nI_ltI, nI_leI, nI_eq, nI_add, nI_clamp, vp_in_nI, zup_s, zup_n, upd_s, upd_n, ne_eq, not_true_eq_false, not_false_eq_true, zeq1, true_or, or_true]; done))
      have b2' := P2.2.1
      rw [hr2] at p53
      rcases hr3 with ⟨hr3, P3⟩ | ⟨hr3, P3⟩
      rotate_left
      · have hQ := hQ2 u8 mall (fun g => P3 ((gV_D (Or.inr l2.2.1)).1 (g.2.2.2 2 (by omega)).2.2.2.2))
        rw [hr3] at p54
        clear q52 hr1
        generalize nv37 (s 8) (vlen s (e + 1)) 0 (tb s (e + 1)) = nn at *
        refine zgo 30 [] ?_
        repeat' (first
          | (show vp_in _ _; simp (disch := first | omega | decide) only [p52, p53, p54, m1l0, zcn, zkpl, zki, zki1, zk8, zk16, zo32, zlt0, zle0, zeq0, zgt0, zLe0, nI_ltI, nI_leI, nI_eq, nI_add, nI_clamp, vp_in_nI, zup_s, zup_n, upd_s, upd_n, ne_eq, not_true_eq_false, not_false_eq_true]; done)
          | (intro hc; exfalso; simp (disch := first | omega | decide) only [p52, p53, p54, m1l0, zcn, zkpl, zki, zki1, zk8, zk16, zo32, zlt0, zle0, zeq0, zgt0, zLe0, nI_ltI, nI_leI, nI_eq, nI_add, nI_clamp, vp_in_nI, zup_s, zup_n, upd_s, upd_n, ne_eq, not_true_eq_false, not_false_eq_true] at hc <;> omega)
          | (intro hc; exact absurd rfl hc)
          | intro hc
          | apply And.intro
          | exact hQ
          | (show Q _ (SH, _); simp (disch := first | omega | decide) only [p52, p53, p54, m1l0, zcn, zkpl, zki, zki1, zk8, zk16, zo32, zlt0, zle0, zeq0, zgt0, zLe0, nI_ltI, nI_leI, nI_eq, nI_add, nI_clamp, vp_in_nI, zup_s, zup_n, upd_s, upd_n, ne_eq, not_true_eq_false, not_false_eq_true]; exact hQ)
          | exact Or.inl rfl
          | exact Or.inr rfl
          | (show (_ : Int32) = 0 ∨ _ = 1; simp (disch := first | omega | decide) only [p52, p53, p54, m1l0, zcn, zkpl, zki, zki1, zk8, zk16, zo32, zlt0, zle0, zeq0, zgt0, zLe0, nI_ltI, nI_leI, nI_eq, nI_add, nI_clamp, vp_in_nI, zup_s, zup_n, upd_s, upd_n, ne_eq, not_true_eq_false, not_false_eq_true, zeq1, true_or, or_true]; done))
      have b3' := P3.2.1
      rw [hr3] at p54
      rcases hr4 with ⟨v, P4, hr4⟩ | ⟨hr4, P4⟩
      rotate_left
      · have hQ := hQ2 u8 mall (fun g => P4 ((gV_A (Or.inr l3.2.1)).1 (g.2.2.2 3 (by omega)).2.2.2.2))
        rw [hr4] at p56
        clear q52 hr1
        generalize nv37 (s 8) (vlen s (e + 1)) 0 (tb s (e + 1)) = nn at *
        refine zgo 30 [] ?_
        repeat' (first
          | (show vp_in _ _; simp (disch := first | omega | decide) only [p52, p53, p54, p56, zcn, zkpl, zki, zki1, zk8, zk16, zo32, zlt0, zle0, zeq0, zgt0, zLe0, nI_ltI, nI_leI, nI_eq, nI_add, nI_clamp, vp_in_nI, zup_s, zup_n, upd_s, upd_n, ne_eq, not_true_eq_false, not_false_eq_true]; done)
          | (intro hc; exfalso; simp (disch := first | omega | decide) only [p52, p53, p54, p56, zcn, zkpl, zki, zki1, zk8, zk16, zo32, zlt0, zle0, zeq0, zgt0, zLe0, nI_ltI, nI_leI, nI_eq, nI_add, nI_clamp, vp_in_nI, zup_s, zup_n, upd_s, upd_n, ne_eq, not_true_eq_false, not_false_eq_true] at hc <;> omega)
          | (intro hc; exact absurd rfl hc)
          | intro hc
          | apply And.intro
          | exact hQ
          | (show Q _ (SH, _); simp (disch := first | omega | decide) only [p52, p53, p54, p56, zcn, zkpl, zki, zki1, zk8, zk16, zo32, zlt0, zle0, zeq0, zgt0, zLe0, nI_ltI, nI_leI, nI_eq, nI_add, nI_clamp, vp_in_nI, zup_s, zup_n, upd_s, upd_n, ne_eq, not_true_eq_false, not_false_eq_true]; exact hQ)
          | exact Or.inl rfl
          | exact Or.inr rfl
          | (show (_ : Int32) = 0 ∨ _ = 1; simp (disch := first | omega | decide) only [p52, p53, p54, p56, zcn, zkpl, zki, zki1, zk8, zk16, zo32, zlt0, zle0, zeq0, zgt0, zLe0, nI_ltI, nI_leI, nI_eq, nI_add, nI_clamp, vp_in_nI, zup_s, zup_n, upd_s, upd_n, ne_eq, not_true_eq_false, not_false_eq_true, zeq1, true_or, or_true]; done))
      have b4 := AM_le P4
      have b4' : 0 < v := by
        obtain ⟨p, _, _, _, _, g, _⟩ := P4
        exact g
      rw [hr4] at p56
      have hPT : PT s e := pt ⟨(gV_I (Or.inr (Or.inl l0.2.1))).2 P1, (gV_D (Or.inl l1.2.1)).2 P2, (gV_D (Or.inr l2.2.1)).2 P3, (gV_A (Or.inr l3.2.1)).2 ⟨v, P4⟩⟩
      have U2 := mS8.uv hs n2 T2'
      have S2 := es_small U2 (x := nI (e + 2)) (y := u8 48 (nI (e + 2)).toNatClampNeg + Int32.ofInt 1) (r := nI (dvl (s 8) 2 0 (tb s (e + 2) + 1))) (tb s (e + 2) + 1) rfl (by
        have := U2.2.2.1
        simp (disch := first | omega | decide) only [this, zcn, zkpl, zki, zki1, zk8, zk16, zo32, zlt0, zle0, zeq0, zgt0, zLe0, nI_ltI, nI_leI, nI_eq, nI_add, nI_clamp, vp_in_nI, zup_s, zup_n, upd_s, upd_n, ne_eq, not_true_eq_false, not_false_eq_true]) (by omega) (by rw [P2.1]; omega) (Or.inl (by
        rw [P2.1, show tb s (e + 2) + 3 - (tb s (e + 2) + 1) = 2 by omega]
        exact ⟨rfl, by omega, by omega, P2.2.2⟩))
      have m9 := mgo_w mS8 (a := 55) (k := 2 * t) (nI (dvl (s 8) 2 0 (tb s (e + 2) + 1))) (by decide)
      have T3'' := m9.2.2 _ n3 T3'
      have U3 := m9.2.1.uv hs n3 T3''
      have S3 := es_small U3 (x := nI (e + 3)) (y := zup u8 55 (2 * t) (nI (dvl (s 8) 2 0 (tb s (e + 2) + 1))) 48 (nI (e + 3)).toNatClampNeg + Int32.ofInt 1) (r := nI (dvl (s 8) 2 0 (tb s (e + 3) + 1))) (tb s (e + 3) + 1) rfl (by
        have := U3.2.2.1
        simp (disch := first | omega | decide) only [this, zcn, zkpl, zki, zki1, zk8, zk16, zo32, zlt0, zle0, zeq0, zgt0, zLe0, nI_ltI, nI_leI, nI_eq, nI_add, nI_clamp, vp_in_nI, zup_s, zup_n, upd_s, upd_n, ne_eq, not_true_eq_false, not_false_eq_true]) (by omega) (by rw [P3.1]; omega) (Or.inl (by
        rw [P3.1, show tb s (e + 3) + 3 - (tb s (e + 3) + 1) = 2 by omega]
        exact ⟨rfl, by omega, by omega, P3.2.2⟩))
      have m10 := mgo_w m9.2.1 (a := 55) (k := 2 * t + 1) (nI (dvl (s 8) 2 0 (tb s (e + 3) + 1))) (by decide)
      have hfin : Q (some (.int 1)) (SH, zup (zup u8 55 (2 * t) (nI (dvl (s 8) 2 0 (tb s (e + 2) + 1)))) 55 (2 * t + 1) (nI (dvl (s 8) 2 0 (tb s (e + 3) + 1)))) := by
        have z55 : zup (zup u8 55 (2 * t) (nI (dvl (s 8) 2 0 (tb s (e + 2) + 1)))) 55 (2 * t + 1) (nI (dvl (s 8) 2 0 (tb s (e + 3) + 1))) 55 = upd (upd (u8 55) (2 * t) (nI (dvl (s 8) 2 0 (tb s (e + 2) + 1)))) (2 * t + 1) (nI (dvl (s 8) 2 0 (tb s (e + 3) + 1))) := rfl
        have zo : ∀ a, a ≠ 55 → zup (zup u8 55 (2 * t) (nI (dvl (s 8) 2 0 (tb s (e + 2) + 1)))) 55 (2 * t + 1) (nI (dvl (s 8) 2 0 (tb s (e + 3) + 1))) a = u8 a := fun a ha => by rw [zup_n _ ha, zup_n _ ha]
        have mz := m9.tr m10
        have trs : ∀ i, i < s 0 1 → tr1 u8 s i → tr1 (zup (zup u8 55 (2 * t) (nI (dvl (s 8) 2 0 (tb s (e + 2) + 1)))) 55 (2 * t + 1) (nI (dvl (s 8) 2 0 (tb s (e + 3) + 1)))) s i := mz.2.2
        have hT : ∀ i, i < 4 → tr1 u8 s (e + 1 + i) := by
          intro i hi
          have m48 : u8 48 = u4 48 := q48
          have m49 : u8 49 = u4 49 := q49
          unfold tr1
          rw [m48, m49]
          rcases (show i = 0 ∨ i = 1 ∨ i = 2 ∨ i = 3 by omega) with rfl | rfl | rfl | rfl
          · exact T1
          · exact T2
          · exact T3
          · exact T4
        refine hQ1 _ (mall.tr mz) ⟨fun j hj => ?_, fun j h1 h2 => ?_, ?_⟩ hPT (fun i hi => trs _ (by rcases (show i = 0 ∨ i = 1 ∨ i = 2 ∨ i = 3 by omega) with rfl | rfl | rfl | rfl <;> assumption) (hT i hi)) ⟨?_, ?_, ?_, ?_, ?_, v, P4, ?_⟩
        · rw [zo 52 (by decide), zo 53 (by decide), zo 54 (by decide), zo 56 (by decide), q52, q53, q54, q56, upd_n _ hj, upd_n _ hj, upd_n _ hj, upd_n _ hj, k4 52 (by decide) (by decide), k4 53 (by decide) (by decide), k4 54 (by decide) (by decide), k4 56 (by decide) (by decide)]
          exact ⟨rfl, rfl, rfl, rfl⟩
        · rw [z55, upd_n _ h2, upd_n _ h1, q55, k4 55 (by decide) (by decide)]
        · rw [zo 42 (by decide), q42, k4 42 (by decide) (by decide)]
        · rw [zo 52 (by decide)]
          exact p52
        · rw [zo 53 (by decide)]
          exact p53
        · rw [zo 54 (by decide)]
          exact p54
        · rw [z55, upd_n _ (by omega), upd_s]
        · rw [z55, upd_s]
        · rw [zo 56 (by decide)]
          exact p56
      clear hQ1 hQ2
      generalize dvl (s 8) 2 0 (tb s (e + 2) + 1) = x2 at *
      generalize dvl (s 8) 2 0 (tb s (e + 3) + 1) = x3 at *
      have ex2 : Int32.ofInt 2 * nI t = nI (2 * t) := by rw [zki, pk_mul]
      have f248 : ZW 178 (0, 0, 0, 0) 248 [(6, .int (nI (e + 4))), (5, .int (nI (e + 1))), (4, .int (nI (e + 3))), (3, .int (nI (e + 2))), (2, .int (nI e)), (0, .ref 42), (1, .int (nI t))] [.int (nI x3), .int (Int32.ofInt 2 * nI t + Int32.ofInt 1), .ref 55] (SH, zup u8 55 (2 * t) (nI x2)) Q := by
        have hQ := hfin
        refine zgo 10 [] ?_
        repeat' (first
          | (show vp_in _ _; simp (disch := first | omega | decide) only [pk_mul, zcn, zkpl, zki, zki1, zk8, zk16, zo32, zlt0, zle0, zeq0, zgt0, zLe0, nI_ltI, nI_leI, nI_eq, nI_add, nI_clamp, vp_in_nI, zup_s, zup_n, upd_s, upd_n, ne_eq, not_true_eq_false, not_false_eq_true]; done)
          | (intro hc; exfalso; simp (disch := first | omega | decide) only [pk_mul, zcn, zkpl, zki, zki1, zk8, zk16, zo32, zlt0, zle0, zeq0, zgt0, zLe0, nI_ltI, nI_leI, nI_eq, nI_add, nI_clamp, vp_in_nI, zup_s, zup_n, upd_s, upd_n, ne_eq, not_true_eq_false, not_false_eq_true] at hc <;> omega)
          | (intro hc; exact absurd rfl hc)
          | intro hc
          | apply And.intro
          | exact hQ
          | (show Q _ (SH, _); simp (disch := first | omega | decide) only [pk_mul, zcn, zkpl, zki, zki1, zk8, zk16, zo32, zlt0, zle0, zeq0, zgt0, zLe0, nI_ltI, nI_leI, nI_eq, nI_add, nI_clamp, vp_in_nI, zup_s, zup_n, upd_s, upd_n, ne_eq, not_true_eq_false, not_false_eq_true]; exact hQ)
          | exact Or.inl rfl
          | exact Or.inr rfl
          | (show (_ : Int32) = 0 ∨ _ = 1; simp (disch := first | omega | decide) only [pk_mul, zcn, zkpl, zki, zki1, zk8, zk16, zo32, zlt0, zle0, zeq0, zgt0, zLe0, nI_ltI, nI_leI, nI_eq, nI_add, nI_clamp, vp_in_nI, zup_s, zup_n, upd_s, upd_n, ne_eq, not_true_eq_false, not_false_eq_true, zeq1, true_or, or_true]; done))
      have f224 : ZW 178 (0, 0, 0, 0) 224 [(6, .int (nI (e + 4))), (5, .int (nI (e + 1))), (4, .int (nI (e + 3))), (3, .int (nI (e + 2))), (2, .int (nI e)), (0, .ref 42), (1, .int (nI t))] [] (SH, zup u8 55 (2 * t) (nI x2)) Q := by
        refine zgo 20 [] ?_
        repeat' (first
          | (exact S3.use f248)
          | (show vp_in _ _; simp (disch := first | omega | decide) only [zcn, zkpl, zki, zki1, zk8, zk16, zo32, zlt0, zle0, zeq0, zgt0, zLe0, nI_ltI, nI_leI, nI_eq, nI_add, nI_clamp, vp_in_nI, zup_s, zup_n, upd_s, upd_n, ne_eq, not_true_eq_false, not_false_eq_true]; done)
          | (intro hc; exfalso; simp (disch := first | omega | decide) only [zcn, zkpl, zki, zki1, zk8, zk16, zo32, zlt0, zle0, zeq0, zgt0, zLe0, nI_ltI, nI_leI, nI_eq, nI_add, nI_clamp, vp_in_nI, zup_s, zup_n, upd_s, upd_n, ne_eq, not_true_eq_false, not_false_eq_true] at hc <;> omega)
          | (intro hc; exact absurd rfl hc)
          | intro hc
          | apply And.intro
          | exact Or.inl rfl
          | exact Or.inr rfl
          | (show (_ : Int32) = 0 ∨ _ = 1; simp (disch := first | omega | decide) only [zcn, zkpl, zki, zki1, zk8, zk16, zo32, zlt0, zle0, zeq0, zgt0, zLe0, nI_ltI, nI_leI, nI_eq, nI_add, nI_clamp, vp_in_nI, zup_s, zup_n, upd_s, upd_n, ne_eq, not_true_eq_false, not_false_eq_true, zeq1, true_or, or_true]; done))
      have f223 : ZW 178 (0, 0, 0, 0) 223 [(6, .int (nI (e + 4))), (5, .int (nI (e + 1))), (4, .int (nI (e + 3))), (3, .int (nI (e + 2))), (2, .int (nI e)), (0, .ref 42), (1, .int (nI t))] [.int (nI x2), .int (Int32.ofInt 2 * nI t), .ref 55] (SH, u8) Q := by
        refine zgo 1 [] ?_
        repeat' (first
          | (exact zcg (by simp (disch := first | omega | decide) only [pk_mul, zcn, zkpl, zki, zki1, zk8, zk16, zo32, zlt0, zle0, zeq0, zgt0, zLe0, nI_ltI, nI_leI, nI_eq, nI_add, nI_clamp, vp_in_nI, zup_s, zup_n, upd_s, upd_n, ne_eq, not_true_eq_false, not_false_eq_true]) f224)
          | (show vp_in _ _; simp (disch := first | omega | decide) only [pk_mul, zcn, zkpl, zki, zki1, zk8, zk16, zo32, zlt0, zle0, zeq0, zgt0, zLe0, nI_ltI, nI_leI, nI_eq, nI_add, nI_clamp, vp_in_nI, zup_s, zup_n, upd_s, upd_n, ne_eq, not_true_eq_false, not_false_eq_true]; done)
          | (intro hc; exfalso; simp (disch := first | omega | decide) only [pk_mul, zcn, zkpl, zki, zki1, zk8, zk16, zo32, zlt0, zle0, zeq0, zgt0, zLe0, nI_ltI, nI_leI, nI_eq, nI_add, nI_clamp, vp_in_nI, zup_s, zup_n, upd_s, upd_n, ne_eq, not_true_eq_false, not_false_eq_true] at hc <;> omega)
          | (intro hc; exact absurd rfl hc)
          | intro hc
          | apply And.intro
          | exact Or.inl rfl
          | exact Or.inr rfl
          | (show (_ : Int32) = 0 ∨ _ = 1; simp (disch := first | omega | decide) only [pk_mul, zcn, zkpl, zki, zki1, zk8, zk16, zo32, zlt0, zle0, zeq0, zgt0, zLe0, nI_ltI, nI_leI, nI_eq, nI_add, nI_clamp, vp_in_nI, zup_s, zup_n, upd_s, upd_n, ne_eq, not_true_eq_false, not_false_eq_true, zeq1, true_or, or_true]; done))
      have f203 : ZW 178 (0, 0, 0, 0) 203 [(6, .int (nI (e + 4))), (5, .int (nI (e + 1))), (4, .int (nI (e + 3))), (3, .int (nI (e + 2))), (2, .int (nI e)), (0, .ref 42), (1, .int (nI t))] [] (SH, u8) Q := by
        refine zgo 20 [] ?_
        repeat' (first
          | (exact S2.use f223)
          | (show vp_in _ _; simp (disch := first | omega | decide) only [zcn, zkpl, zki, zki1, zk8, zk16, zo32, zlt0, zle0, zeq0, zgt0, zLe0, nI_ltI, nI_leI, nI_eq, nI_add, nI_clamp, vp_in_nI, zup_s, zup_n, upd_s, upd_n, ne_eq, not_true_eq_false, not_false_eq_true]; done)
          | (intro hc; exfalso; simp (disch := first | omega | decide) only [zcn, zkpl, zki, zki1, zk8, zk16, zo32, zlt0, zle0, zeq0, zgt0, zLe0, nI_ltI, nI_leI, nI_eq, nI_add, nI_clamp, vp_in_nI, zup_s, zup_n, upd_s, upd_n, ne_eq, not_true_eq_false, not_false_eq_true] at hc <;> omega)
          | (intro hc; exact absurd rfl hc)
          | intro hc
          | apply And.intro
          | exact Or.inl rfl
          | exact Or.inr rfl
          | (show (_ : Int32) = 0 ∨ _ = 1; simp (disch := first | omega | decide) only [zcn, zkpl, zki, zki1, zk8, zk16, zo32, zlt0, zle0, zeq0, zgt0, zLe0, nI_ltI, nI_leI, nI_eq, nI_add, nI_clamp, vp_in_nI, zup_s, zup_n, upd_s, upd_n, ne_eq, not_true_eq_false, not_false_eq_true, zeq1, true_or, or_true]; done))
      clear q52 hr1 S2 S3 U2 U3
      generalize nv37 (s 8) (vlen s (e + 1)) 0 (tb s (e + 1)) = nn at *
      refine zgo 20 [] ?_
      repeat' (first
        | (exact f203)
        | (show vp_in _ _; simp (disch := first | omega | decide) only [p52, p53, p54, p56, zcn, zkpl, zki, zki1, zk8, zk16, zo32, zlt0, zle0, zeq0, zgt0, zLe0, nI_ltI, nI_leI, nI_eq, nI_add, nI_clamp, vp_in_nI, zup_s, zup_n, upd_s, upd_n, ne_eq, not_true_eq_false, not_false_eq_true]; done)
        | (intro hc; exfalso; simp (disch := first | omega | decide) only [p52, p53, p54, p56, zcn, zkpl, zki, zki1, zk8, zk16, zo32, zlt0, zle0, zeq0, zgt0, zLe0, nI_ltI, nI_leI, nI_eq, nI_add, nI_clamp, vp_in_nI, zup_s, zup_n, upd_s, upd_n, ne_eq, not_true_eq_false, not_false_eq_true] at hc <;> omega)
        | (intro hc; exact absurd rfl hc)
        | intro hc
        | apply And.intro
        | exact Or.inl rfl
        | exact Or.inr rfl
        | (show (_ : Int32) = 0 ∨ _ = 1; simp (disch := first | omega | decide) only [p52, p53, p54, p56, zcn, zkpl, zki, zki1, zk8, zk16, zo32, zlt0, zle0, zeq0, zgt0, zLe0, nI_ltI, nI_leI, nI_eq, nI_add, nI_clamp, vp_in_nI, zup_s, zup_n, upd_s, upd_n, ne_eq, not_true_eq_false, not_false_eq_true, zeq1, true_or, or_true]; done))
    refine zgo 1 [] ?_
    repeat' (first
      | (exact zcg (by simp (disch := first | omega | decide) only [zcn, zkpl, zki, zki1, zk8, zk16, zo32, zlt0, zle0, zeq0, zgt0, zLe0, nI_ltI, nI_leI, nI_eq, nI_add, nI_clamp, vp_in_nI, zup_s, zup_n, upd_s, upd_n, ne_eq, not_true_eq_false, not_false_eq_true]) f165)
      | (show vp_in _ _; simp (disch := first | omega | decide) only [zcn, zkpl, zki, zki1, zk8, zk16, zo32, zlt0, zle0, zeq0, zgt0, zLe0, nI_ltI, nI_leI, nI_eq, nI_add, nI_clamp, vp_in_nI, zup_s, zup_n, upd_s, upd_n, ne_eq, not_true_eq_false, not_false_eq_true]; done)
      | (intro hc; exfalso; simp (disch := first | omega | decide) only [zcn, zkpl, zki, zki1, zk8, zk16, zo32, zlt0, zle0, zeq0, zgt0, zLe0, nI_ltI, nI_leI, nI_eq, nI_add, nI_clamp, vp_in_nI, zup_s, zup_n, upd_s, upd_n, ne_eq, not_true_eq_false, not_false_eq_true] at hc <;> omega)
      | (intro hc; exact absurd rfl hc)
      | intro hc
      | apply And.intro
      | exact Or.inl rfl
      | exact Or.inr rfl
      | (show (_ : Int32) = 0 ∨ _ = 1; simp (disch := first | omega | decide) only [zcn, zkpl, zki, zki1, zk8, zk16, zo32, zlt0, zle0, zeq0, zgt0, zLe0, nI_ltI, nI_leI, nI_eq, nI_add, nI_clamp, vp_in_nI, zup_s, zup_n, upd_s, upd_n, ne_eq, not_true_eq_false, not_false_eq_true, zeq1, true_or, or_true]; done))
  have f153 : ZW 178 (0, 0, 0, 0) 153 [(6, .int (nI (e + 4))), (5, .int (nI (e + 1))), (4, .int (nI (e + 3))), (3, .int (nI (e + 2))), (2, .int (nI e)), (0, .ref 42), (1, .int (nI t))] [] (SH, zup (zup (zup u4 52 t r1) 53 t r2) 54 t r3) Q := by
    refine zgo 10 [] ?_
    repeat' (first
      | (exact f161)
      | (show vp_in _ _; simp (disch := first | omega | decide) only [zcn, zkpl, zki, zki1, zk8, zk16, zo32, zlt0, zle0, zeq0, zgt0, zLe0, nI_ltI, nI_leI, nI_eq, nI_add, nI_clamp, vp_in_nI, zup_s, zup_n, upd_s, upd_n, ne_eq, not_true_eq_false, not_false_eq_true]; done)
      | (intro hc; exfalso; simp (disch := first | omega | decide) only [zcn, zkpl, zki, zki1, zk8, zk16, zo32, zlt0, zle0, zeq0, zgt0, zLe0, nI_ltI, nI_leI, nI_eq, nI_add, nI_clamp, vp_in_nI, zup_s, zup_n, upd_s, upd_n, ne_eq, not_true_eq_false, not_false_eq_true] at hc <;> omega)
      | (intro hc; exact absurd rfl hc)
      | intro hc
      | apply And.intro
      | exact Or.inl rfl
      | exact Or.inr rfl
      | (show (_ : Int32) = 0 ∨ _ = 1; simp (disch := first | omega | decide) only [zcn, zkpl, zki, zki1, zk8, zk16, zo32, zlt0, zle0, zeq0, zgt0, zLe0, nI_ltI, nI_leI, nI_eq, nI_add, nI_clamp, vp_in_nI, zup_s, zup_n, upd_s, upd_n, ne_eq, not_true_eq_false, not_false_eq_true, zeq1, true_or, or_true]; done))
  have f152 : ZW 178 (0, 0, 0, 0) 152 [(6, .int (nI (e + 4))), (5, .int (nI (e + 1))), (4, .int (nI (e + 3))), (3, .int (nI (e + 2))), (2, .int (nI e)), (0, .ref 42), (1, .int (nI t))] [.int r3, .int (nI t), .ref 54] (SH, zup (zup u4 52 t r1) 53 t r2) Q := by
    refine zgo 1 [] ?_
    repeat' (first
      | (exact zcg (by simp (disch := first | omega | decide) only [zcn, zkpl, zki, zki1, zk8, zk16, zo32, zlt0, zle0, zeq0, zgt0, zLe0, nI_ltI, nI_leI, nI_eq, nI_add, nI_clamp, vp_in_nI, zup_s, zup_n, upd_s, upd_n, ne_eq, not_true_eq_false, not_false_eq_true]) f153)
      | (show vp_in _ _; simp (disch := first | omega | decide) only [zcn, zkpl, zki, zki1, zk8, zk16, zo32, zlt0, zle0, zeq0, zgt0, zLe0, nI_ltI, nI_leI, nI_eq, nI_add, nI_clamp, vp_in_nI, zup_s, zup_n, upd_s, upd_n, ne_eq, not_true_eq_false, not_false_eq_true]; done)
      | (intro hc; exfalso; simp (disch := first | omega | decide) only [zcn, zkpl, zki, zki1, zk8, zk16, zo32, zlt0, zle0, zeq0, zgt0, zLe0, nI_ltI, nI_leI, nI_eq, nI_add, nI_clamp, vp_in_nI, zup_s, zup_n, upd_s, upd_n, ne_eq, not_true_eq_false, not_false_eq_true] at hc <;> omega)
      | (intro hc; exact absurd rfl hc)
      | intro hc
      | apply And.intro
      | exact Or.inl rfl
      | exact Or.inr rfl
      | (show (_ : Int32) = 0 ∨ _ = 1; simp (disch := first | omega | decide) only [zcn, zkpl, zki, zki1, zk8, zk16, zo32, zlt0, zle0, zeq0, zgt0, zLe0, nI_ltI, nI_leI, nI_eq, nI_add, nI_clamp, vp_in_nI, zup_s, zup_n, upd_s, upd_n, ne_eq, not_true_eq_false, not_false_eq_true, zeq1, true_or, or_true]; done))
  have f141 : ZW 178 (0, 0, 0, 0) 141 [(6, .int (nI (e + 4))), (5, .int (nI (e + 1))), (4, .int (nI (e + 3))), (3, .int (nI (e + 2))), (2, .int (nI e)), (0, .ref 42), (1, .int (nI t))] [] (SH, zup (zup u4 52 t r1) 53 t r2) Q := by
    refine zgo 10 [] ?_
    repeat' (first
      | (exact E3.use f152)
      | (show vp_in _ _; simp (disch := first | omega | decide) only [zcn, zkpl, zki, zki1, zk8, zk16, zo32, zlt0, zle0, zeq0, zgt0, zLe0, nI_ltI, nI_leI, nI_eq, nI_add, nI_clamp, vp_in_nI, zup_s, zup_n, upd_s, upd_n, ne_eq, not_true_eq_false, not_false_eq_true]; done)
      | (intro hc; exfalso; simp (disch := first | omega | decide) only [zcn, zkpl, zki, zki1, zk8, zk16, zo32, zlt0, zle0, zeq0, zgt0, zLe0, nI_ltI, nI_leI, nI_eq, nI_add, nI_clamp, vp_in_nI, zup_s, zup_n, upd_s, upd_n, ne_eq, not_true_eq_false, not_false_eq_true] at hc <;> omega)
      | (intro hc; exact absurd rfl hc)
      | intro hc
      | apply And.intro
      | exact Or.inl rfl
      | exact Or.inr rfl
      | (show (_ : Int32) = 0 ∨ _ = 1; simp (disch := first | omega | decide) only [zcn, zkpl, zki, zki1, zk8, zk16, zo32, zlt0, zle0, zeq0, zgt0, zLe0, nI_ltI, nI_leI, nI_eq, nI_add, nI_clamp, vp_in_nI, zup_s, zup_n, upd_s, upd_n, ne_eq, not_true_eq_false, not_false_eq_true, zeq1, true_or, or_true]; done))
  have f140 : ZW 178 (0, 0, 0, 0) 140 [(6, .int (nI (e + 4))), (5, .int (nI (e + 1))), (4, .int (nI (e + 3))), (3, .int (nI (e + 2))), (2, .int (nI e)), (0, .ref 42), (1, .int (nI t))] [.int r2, .int (nI t), .ref 53] (SH, zup u4 52 t r1) Q := by
    refine zgo 1 [] ?_
    repeat' (first
      | (exact zcg (by simp (disch := first | omega | decide) only [zcn, zkpl, zki, zki1, zk8, zk16, zo32, zlt0, zle0, zeq0, zgt0, zLe0, nI_ltI, nI_leI, nI_eq, nI_add, nI_clamp, vp_in_nI, zup_s, zup_n, upd_s, upd_n, ne_eq, not_true_eq_false, not_false_eq_true]) f141)
      | (show vp_in _ _; simp (disch := first | omega | decide) only [zcn, zkpl, zki, zki1, zk8, zk16, zo32, zlt0, zle0, zeq0, zgt0, zLe0, nI_ltI, nI_leI, nI_eq, nI_add, nI_clamp, vp_in_nI, zup_s, zup_n, upd_s, upd_n, ne_eq, not_true_eq_false, not_false_eq_true]; done)
      | (intro hc; exfalso; simp (disch := first | omega | decide) only [zcn, zkpl, zki, zki1, zk8, zk16, zo32, zlt0, zle0, zeq0, zgt0, zLe0, nI_ltI, nI_leI, nI_eq, nI_add, nI_clamp, vp_in_nI, zup_s, zup_n, upd_s, upd_n, ne_eq, not_true_eq_false, not_false_eq_true] at hc <;> omega)
      | (intro hc; exact absurd rfl hc)
      | intro hc
      | apply And.intro
      | exact Or.inl rfl
      | exact Or.inr rfl
      | (show (_ : Int32) = 0 ∨ _ = 1; simp (disch := first | omega | decide) only [zcn, zkpl, zki, zki1, zk8, zk16, zo32, zlt0, zle0, zeq0, zgt0, zLe0, nI_ltI, nI_leI, nI_eq, nI_add, nI_clamp, vp_in_nI, zup_s, zup_n, upd_s, upd_n, ne_eq, not_true_eq_false, not_false_eq_true, zeq1, true_or, or_true]; done))
  have f130 : ZW 178 (0, 0, 0, 0) 130 [(6, .int (nI (e + 4))), (5, .int (nI (e + 1))), (4, .int (nI (e + 3))), (3, .int (nI (e + 2))), (2, .int (nI e)), (0, .ref 42), (1, .int (nI t))] [] (SH, zup u4 52 t r1) Q := by
    refine zgo 10 [] ?_
    repeat' (first
      | (exact E2.use f140)
      | (show vp_in _ _; simp (disch := first | omega | decide) only [zcn, zkpl, zki, zki1, zk8, zk16, zo32, zlt0, zle0, zeq0, zgt0, zLe0, nI_ltI, nI_leI, nI_eq, nI_add, nI_clamp, vp_in_nI, zup_s, zup_n, upd_s, upd_n, ne_eq, not_true_eq_false, not_false_eq_true]; done)
      | (intro hc; exfalso; simp (disch := first | omega | decide) only [zcn, zkpl, zki, zki1, zk8, zk16, zo32, zlt0, zle0, zeq0, zgt0, zLe0, nI_ltI, nI_leI, nI_eq, nI_add, nI_clamp, vp_in_nI, zup_s, zup_n, upd_s, upd_n, ne_eq, not_true_eq_false, not_false_eq_true] at hc <;> omega)
      | (intro hc; exact absurd rfl hc)
      | intro hc
      | apply And.intro
      | exact Or.inl rfl
      | exact Or.inr rfl
      | (show (_ : Int32) = 0 ∨ _ = 1; simp (disch := first | omega | decide) only [zcn, zkpl, zki, zki1, zk8, zk16, zo32, zlt0, zle0, zeq0, zgt0, zLe0, nI_ltI, nI_leI, nI_eq, nI_add, nI_clamp, vp_in_nI, zup_s, zup_n, upd_s, upd_n, ne_eq, not_true_eq_false, not_false_eq_true, zeq1, true_or, or_true]; done))
  have f129 : ZW 178 (0, 0, 0, 0) 129 [(6, .int (nI (e + 4))), (5, .int (nI (e + 1))), (4, .int (nI (e + 3))), (3, .int (nI (e + 2))), (2, .int (nI e)), (0, .ref 42), (1, .int (nI t))] [.int r1, .int (nI t), .ref 52] (SH, u4) Q := by
    refine zgo 1 [] ?_
    repeat' (first
      | (exact zcg (by simp (disch := first | omega | decide) only [zcn, zkpl, zki, zki1, zk8, zk16, zo32, zlt0, zle0, zeq0, zgt0, zLe0, nI_ltI, nI_leI, nI_eq, nI_add, nI_clamp, vp_in_nI, zup_s, zup_n, upd_s, upd_n, ne_eq, not_true_eq_false, not_false_eq_true]) f130)
      | (show vp_in _ _; simp (disch := first | omega | decide) only [zcn, zkpl, zki, zki1, zk8, zk16, zo32, zlt0, zle0, zeq0, zgt0, zLe0, nI_ltI, nI_leI, nI_eq, nI_add, nI_clamp, vp_in_nI, zup_s, zup_n, upd_s, upd_n, ne_eq, not_true_eq_false, not_false_eq_true]; done)
      | (intro hc; exfalso; simp (disch := first | omega | decide) only [zcn, zkpl, zki, zki1, zk8, zk16, zo32, zlt0, zle0, zeq0, zgt0, zLe0, nI_ltI, nI_leI, nI_eq, nI_add, nI_clamp, vp_in_nI, zup_s, zup_n, upd_s, upd_n, ne_eq, not_true_eq_false, not_false_eq_true] at hc <;> omega)
      | (intro hc; exact absurd rfl hc)
      | intro hc
      | apply And.intro
      | exact Or.inl rfl
      | exact Or.inr rfl
      | (show (_ : Int32) = 0 ∨ _ = 1; simp (disch := first | omega | decide) only [zcn, zkpl, zki, zki1, zk8, zk16, zo32, zlt0, zle0, zeq0, zgt0, zLe0, nI_ltI, nI_leI, nI_eq, nI_add, nI_clamp, vp_in_nI, zup_s, zup_n, upd_s, upd_n, ne_eq, not_true_eq_false, not_false_eq_true, zeq1, true_or, or_true]; done))
  refine zgo 10 [] ?_
  repeat' (first
    | (exact E1.use f129)
    | (show vp_in _ _; simp (disch := first | omega | decide) only [zcn, zkpl, zki, zki1, zk8, zk16, zo32, zlt0, zle0, zeq0, zgt0, zLe0, nI_ltI, nI_leI, nI_eq, nI_add, nI_clamp, vp_in_nI, zup_s, zup_n, upd_s, upd_n, ne_eq, not_true_eq_false, not_false_eq_true]; done)
    | (intro hc; exfalso; simp (disch := first | omega | decide) only [zcn, zkpl, zki, zki1, zk8, zk16, zo32, zlt0, zle0, zeq0, zgt0, zLe0, nI_ltI, nI_leI, nI_eq, nI_add, nI_clamp, vp_in_nI, zup_s, zup_n, upd_s, upd_n, ne_eq, not_true_eq_false, not_false_eq_true] at hc <;> omega)
    | (intro hc; exact absurd rfl hc)
    | intro hc
    | apply And.intro
    | exact Or.inl rfl
    | exact Or.inr rfl
    | (show (_ : Int32) = 0 ∨ _ = 1; simp (disch := first | omega | decide) only [zcn, zkpl, zki, zki1, zk8, zk16, zo32, zlt0, zle0, zeq0, zgt0, zLe0, nI_ltI, nI_leI, nI_eq, nI_add, nI_clamp, vp_in_nI, zup_s, zup_n, upd_s, upd_n, ne_eq, not_true_eq_false, not_false_eq_true, zeq1, true_or, or_true]; done))
