/-! the model's rules for a follower, and its rules as a whole -/
/-- what the model's rows share with the class's -/
def shr (m u : zM) (nT nM nb : Nat) : Prop := (u 42 45 = nI nT ∧ nT ≤ 20) ∧ (u 42 38 = nI nM ∧ nM ≤ 60) ∧ (u 42 36 = nI nb ∧ nb ≤ 5247) ∧ (∀ t, t < nT → nmR (m 29 t) (u 60 t) ∧ u 61 t = m 30 t ∧ u 63 t = m 32 t ∧ u 64 t = m 33 t) ∧ (∀ i, i < nM → nmR (m 41 i) (u 59 i)) ∧ (∀ a, a < 4 → u 67 a = m 20 a ∧ u 68 a = m 21 a) ∧ u 42 1 = m 19 0
theorem fd_is {m u : zM} {nT : Nat} {cs : List Nat} (hnm : ∀ t, t < nT → nmR (m 29 t) (u 60 t)) (hc' : nmOk cs) {r : Int32} (h : fdU u nT (nI (n37 cs)) r) : fdR m nT (nI (n8 cs)) r := by
  rcases h with ⟨t, g1, g2, g3⟩ | ⟨g1, g2⟩
  · refine Or.inl ⟨t, g1, ?_, g3⟩
    rw [nmR_eq (hnm t g1) hc']
    exact g2
  · refine Or.inr ⟨fun t ht g => g1 t ht ?_, g2⟩
    rw [← nmR_eq (hnm t ht) hc']
    exact g
theorem es_183Q {m u : zM} {nT nM nb : Nat} {cs : List Nat} (hs : shr m u nT nM nb) (hd : dN m nT) (hst : ∀ t, t < nT → ∃ z, m 33 t = nI z ∧ z ≤ 6) (hc' : nmOk cs) (h31 : u 42 31 = nI (n37 cs)) {r : Nat} (hr : fol m nT nb (nI (n8 cs)) 3 r) : Ev 183 [.ref 42, .int 0] u (some (.int (nI r))) u := by
  obtain ⟨⟨s1, s2⟩, ⟨s3, s4⟩, ⟨s5, s6⟩, s7, s8, s9, s10⟩ := hs
  intro Q hQ
  have hk := es_known (y := u 42 31) s1 s2 (fun r' h => ZW 183 (0, 0, 0, 0) 8 [(0, .ref 42), (1, .int 0)] (r'.toList ++ []) h Q) (fun r0 hr0 => by
    rw [h31] at hr0
    have hf := fd_is (fun t ht => (s7 t ht).1) hc' hr0
    show ZW 183 (0, 0, 0, 0) 8 [(0, .ref 42), (1, .int 0)] [.int r0] (SH, u) Q
    rcases hr with ⟨g1, rfl⟩ | hr
    · refine zgo 20 [] ?_
      repeat' (first
        | (show vp_in _ _; simp (disch := first | omega | decide) only [s5, zcn, zkpl, zki, zki1, zk8, zk16, zo32, zlt0, zle0, zeq0, zgt0, zLe0, nI_ltI, nI_leI, nI_eq, nI_add, nI_clamp, vp_in_nI, zup_s, zup_n, upd_s, upd_n, ne_eq, not_true_eq_false, not_false_eq_true]; done)
        | (intro hc; exfalso; simp (disch := first | omega | decide) only [s5, zcn, zkpl, zki, zki1, zk8, zk16, zo32, zlt0, zle0, zeq0, zgt0, zLe0, nI_ltI, nI_leI, nI_eq, nI_add, nI_clamp, vp_in_nI, zup_s, zup_n, upd_s, upd_n, ne_eq, not_true_eq_false, not_false_eq_true] at hc <;> omega)
        | (intro hc; exact absurd rfl hc)
        | intro hc
        | apply And.intro
        | exact hQ
        | (show Q _ (SH, _); simp (disch := first | omega | decide) only [s5, zcn, zkpl, zki, zki1, zk8, zk16, zo32, zlt0, zle0, zeq0, zgt0, zLe0, nI_ltI, nI_leI, nI_eq, nI_add, nI_clamp, vp_in_nI, zup_s, zup_n, upd_s, upd_n, ne_eq, not_true_eq_false, not_false_eq_true]; exact hQ)
        | exact Or.inl rfl
        | exact Or.inr rfl
        | (show (_ : Int32) = 0 ∨ _ = 1; simp (disch := first | omega | decide) only [s5, zcn, zkpl, zki, zki1, zk8, zk16, zo32, zlt0, zle0, zeq0, zgt0, zLe0, nI_ltI, nI_leI, nI_eq, nI_add, nI_clamp, vp_in_nI, zup_s, zup_n, upd_s, upd_n, ne_eq, not_true_eq_false, not_false_eq_true, zeq1, true_or, or_true]; done))
    · have g1 : nb < 4000 := hr.elim (fun g => g.1) (fun g => g.1)
      rcases hr with ⟨_, g2, rfl⟩ | ⟨_, t, g2, g3, g4⟩
      · rcases hf with ⟨t, q1, q2, _⟩ | ⟨_, rfl⟩
        · exact absurd q2 (g2 t q1)
        · refine zgo 20 [] ?_
          repeat' (first
            | (show vp_in _ _; simp (disch := first | omega | decide) only [s5, m1g0, zcn, zkpl, zki, zki1, zk8, zk16, zo32, zlt0, zle0, zeq0, zgt0, zLe0, nI_ltI, nI_leI, nI_eq, nI_add, nI_clamp, vp_in_nI, zup_s, zup_n, upd_s, upd_n, ne_eq, not_true_eq_false, not_false_eq_true]; done)
            | (intro hc; exfalso; simp (disch := first | omega | decide) only [s5, m1g0, zcn, zkpl, zki, zki1, zk8, zk16, zo32, zlt0, zle0, zeq0, zgt0, zLe0, nI_ltI, nI_leI, nI_eq, nI_add, nI_clamp, vp_in_nI, zup_s, zup_n, upd_s, upd_n, ne_eq, not_true_eq_false, not_false_eq_true] at hc <;> omega)
            | (intro hc; exact absurd rfl hc)
            | intro hc
            | apply And.intro
            | exact hQ
            | (show Q _ (SH, _); simp (disch := first | omega | decide) only [s5, m1g0, zcn, zkpl, zki, zki1, zk8, zk16, zo32, zlt0, zle0, zeq0, zgt0, zLe0, nI_ltI, nI_leI, nI_eq, nI_add, nI_clamp, vp_in_nI, zup_s, zup_n, upd_s, upd_n, ne_eq, not_true_eq_false, not_false_eq_true]; exact hQ)
            | exact Or.inl rfl
            | exact Or.inr rfl
            | (show (_ : Int32) = 0 ∨ _ = 1; simp (disch := first | omega | decide) only [s5, m1g0, zcn, zkpl, zki, zki1, zk8, zk16, zo32, zlt0, zle0, zeq0, zgt0, zLe0, nI_ltI, nI_leI, nI_eq, nI_add, nI_clamp, vp_in_nI, zup_s, zup_n, upd_s, upd_n, ne_eq, not_true_eq_false, not_false_eq_true, zeq1, true_or, or_true]; done))
      · rcases hf with ⟨t', q1, q2, rfl⟩ | ⟨q1, _⟩
        · obtain rfl : t' = t := hd t' t q1 g2 (q2.trans g3.symm)
          obtain ⟨z, hz, hz6⟩ := hst t' q1
          have h64 := (s7 t' q1).2.2.2
          rw [hz] at h64 g4
          rcases g4 with ⟨g4, rfl⟩ | ⟨g4, rfl⟩
          · rw [ne_eq, nI_eq (by omega) (by omega)] at g4
            refine zgo 30 [] ?_
            repeat' (first
              | (show vp_in _ _; simp (disch := first | omega | decide) only [s5, h64, zcn, zkpl, zki, zki1, zk8, zk16, zo32, zlt0, zle0, zeq0, zgt0, zLe0, nI_ltI, nI_leI, nI_eq, nI_add, nI_clamp, vp_in_nI, zup_s, zup_n, upd_s, upd_n, ne_eq, not_true_eq_false, not_false_eq_true]; done)
              | (intro hc; exfalso; simp (disch := first | omega | decide) only [s5, h64, zcn, zkpl, zki, zki1, zk8, zk16, zo32, zlt0, zle0, zeq0, zgt0, zLe0, nI_ltI, nI_leI, nI_eq, nI_add, nI_clamp, vp_in_nI, zup_s, zup_n, upd_s, upd_n, ne_eq, not_true_eq_false, not_false_eq_true] at hc <;> omega)
              | (intro hc; exact absurd rfl hc)
              | intro hc
              | apply And.intro
              | exact hQ
              | (show Q _ (SH, _); simp (disch := first | omega | decide) only [s5, h64, zcn, zkpl, zki, zki1, zk8, zk16, zo32, zlt0, zle0, zeq0, zgt0, zLe0, nI_ltI, nI_leI, nI_eq, nI_add, nI_clamp, vp_in_nI, zup_s, zup_n, upd_s, upd_n, ne_eq, not_true_eq_false, not_false_eq_true]; exact hQ)
              | exact Or.inl rfl
              | exact Or.inr rfl
              | (show (_ : Int32) = 0 ∨ _ = 1; simp (disch := first | omega | decide) only [s5, h64, zcn, zkpl, zki, zki1, zk8, zk16, zo32, zlt0, zle0, zeq0, zgt0, zLe0, nI_ltI, nI_leI, nI_eq, nI_add, nI_clamp, vp_in_nI, zup_s, zup_n, upd_s, upd_n, ne_eq, not_true_eq_false, not_false_eq_true, zeq1, true_or, or_true]; done))
          · rw [nI_eq (by omega) (by omega)] at g4
            refine zgo 30 [] ?_
            repeat' (first
              | (show vp_in _ _; simp (disch := first | omega | decide) only [s5, h64, zcn, zkpl, zki, zki1, zk8, zk16, zo32, zlt0, zle0, zeq0, zgt0, zLe0, nI_ltI, nI_leI, nI_eq, nI_add, nI_clamp, vp_in_nI, zup_s, zup_n, upd_s, upd_n, ne_eq, not_true_eq_false, not_false_eq_true]; done)
              | (intro hc; exfalso; simp (disch := first | omega | decide) only [s5, h64, zcn, zkpl, zki, zki1, zk8, zk16, zo32, zlt0, zle0, zeq0, zgt0, zLe0, nI_ltI, nI_leI, nI_eq, nI_add, nI_clamp, vp_in_nI, zup_s, zup_n, upd_s, upd_n, ne_eq, not_true_eq_false, not_false_eq_true] at hc <;> omega)
              | (intro hc; exact absurd rfl hc)
              | intro hc
              | apply And.intro
              | exact hQ
              | (show Q _ (SH, _); simp (disch := first | omega | decide) only [s5, h64, zcn, zkpl, zki, zki1, zk8, zk16, zo32, zlt0, zle0, zeq0, zgt0, zLe0, nI_ltI, nI_leI, nI_eq, nI_add, nI_clamp, vp_in_nI, zup_s, zup_n, upd_s, upd_n, ne_eq, not_true_eq_false, not_false_eq_true]; exact hQ)
              | exact Or.inl rfl
              | exact Or.inr rfl
              | (show (_ : Int32) = 0 ∨ _ = 1; simp (disch := first | omega | decide) only [s5, h64, zcn, zkpl, zki, zki1, zk8, zk16, zo32, zlt0, zle0, zeq0, zgt0, zLe0, nI_ltI, nI_leI, nI_eq, nI_add, nI_clamp, vp_in_nI, zup_s, zup_n, upd_s, upd_n, ne_eq, not_true_eq_false, not_false_eq_true, zeq1, true_or, or_true]; done))
        · exact absurd g3 (q1 t g2))
  refine zgo 5 [] ?_
  repeat' (first
    | (exact hk)
    | (show vp_in _ _; simp (disch := first | omega | decide) only [zcn, zkpl, zki, zki1, zk8, zk16, zo32, zlt0, zle0, zeq0, zgt0, zLe0, nI_ltI, nI_leI, nI_eq, nI_add, nI_clamp, vp_in_nI, zup_s, zup_n, upd_s, upd_n, ne_eq, not_true_eq_false, not_false_eq_true]; done)
    | (intro hc; exfalso; simp (disch := first | omega | decide) only [zcn, zkpl, zki, zki1, zk8, zk16, zo32, zlt0, zle0, zeq0, zgt0, zLe0, nI_ltI, nI_leI, nI_eq, nI_add, nI_clamp, vp_in_nI, zup_s, zup_n, upd_s, upd_n, ne_eq, not_true_eq_false, not_false_eq_true] at hc <;> omega)
    | (intro hc; exact absurd rfl hc)
    | intro hc
    | apply And.intro
    | exact Or.inl rfl
    | exact Or.inr rfl
    | (show (_ : Int32) = 0 ∨ _ = 1; simp (disch := first | omega | decide) only [zcn, zkpl, zki, zki1, zk8, zk16, zo32, zlt0, zle0, zeq0, zgt0, zLe0, nI_ltI, nI_leI, nI_eq, nI_add, nI_clamp, vp_in_nI, zup_s, zup_n, upd_s, upd_n, ne_eq, not_true_eq_false, not_false_eq_true, zeq1, true_or, or_true]; done))
theorem es_183R {m u : zM} {nT nM nb : Nat} {cs : List Nat} {v : Nat} (hs : shr m u nT nM nb) (hd : dN m nT) (hst : ∀ t, t < nT → ∃ z, m 33 t = nI z ∧ z ≤ 6) (hc' : nmOk cs) (h31 : u 42 31 = nI (n37 cs)) (h56 : u 56 0 = nI v) {r : Nat} (hr : rtn m nT nb (nI (n8 cs)) (nI v) r) : Ev 183 [.ref 42, .int 1] u (some (.int (nI r))) u := by
  obtain ⟨⟨s1, s2⟩, ⟨s3, s4⟩, ⟨s5, s6⟩, s7, s8, s9, s10⟩ := hs
  intro Q hQ
  have hk := es_known (y := u 42 31) s1 s2 (fun r' h => ZW 183 (0, 0, 0, 0) 8 [(0, .ref 42), (1, .int 1)] (r'.toList ++ []) h Q) (fun r0 hr0 => by
    rw [h31] at hr0
    have hf := fd_is (fun t ht => (s7 t ht).1) hc' hr0
    show ZW 183 (0, 0, 0, 0) 8 [(0, .ref 42), (1, .int 1)] [.int r0] (SH, u) Q
    rcases hr with ⟨hr, hr1⟩ | ⟨g0, t, g2, g3, g4, g5⟩
    · rcases hr with ⟨g1, rfl⟩ | hr
      · refine zgo 20 [] ?_
        repeat' (first
          | (show vp_in _ _; simp (disch := first | omega | decide) only [s5, zcn, zkpl, zki, zki1, zk8, zk16, zo32, zlt0, zle0, zeq0, zgt0, zLe0, nI_ltI, nI_leI, nI_eq, nI_add, nI_clamp, vp_in_nI, zup_s, zup_n, upd_s, upd_n, ne_eq, not_true_eq_false, not_false_eq_true]; done)
          | (intro hc; exfalso; simp (disch := first | omega | decide) only [s5, zcn, zkpl, zki, zki1, zk8, zk16, zo32, zlt0, zle0, zeq0, zgt0, zLe0, nI_ltI, nI_leI, nI_eq, nI_add, nI_clamp, vp_in_nI, zup_s, zup_n, upd_s, upd_n, ne_eq, not_true_eq_false, not_false_eq_true] at hc <;> omega)
          | (intro hc; exact absurd rfl hc)
          | intro hc
          | apply And.intro
          | exact hQ
          | (show Q _ (SH, _); simp (disch := first | omega | decide) only [s5, zcn, zkpl, zki, zki1, zk8, zk16, zo32, zlt0, zle0, zeq0, zgt0, zLe0, nI_ltI, nI_leI, nI_eq, nI_add, nI_clamp, vp_in_nI, zup_s, zup_n, upd_s, upd_n, ne_eq, not_true_eq_false, not_false_eq_true]; exact hQ)
          | exact Or.inl rfl
          | exact Or.inr rfl
          | (show (_ : Int32) = 0 ∨ _ = 1; simp (disch := first | omega | decide) only [s5, zcn, zkpl, zki, zki1, zk8, zk16, zo32, zlt0, zle0, zeq0, zgt0, zLe0, nI_ltI, nI_leI, nI_eq, nI_add, nI_clamp, vp_in_nI, zup_s, zup_n, upd_s, upd_n, ne_eq, not_true_eq_false, not_false_eq_true, zeq1, true_or, or_true]; done))
      · have g1 : nb < 4000 := hr.elim (fun g => g.1) (fun g => g.1)
        rcases hr with ⟨_, g2, rfl⟩ | ⟨_, t, g2, g3, g4⟩
        · rcases hf with ⟨t, q1, q2, _⟩ | ⟨_, rfl⟩
          · exact absurd q2 (g2 t q1)
          · refine zgo 20 [] ?_
            repeat' (first
              | (show vp_in _ _; simp (disch := first | omega | decide) only [s5, m1g0, zcn, zkpl, zki, zki1, zk8, zk16, zo32, zlt0, zle0, zeq0, zgt0, zLe0, nI_ltI, nI_leI, nI_eq, nI_add, nI_clamp, vp_in_nI, zup_s, zup_n, upd_s, upd_n, ne_eq, not_true_eq_false, not_false_eq_true]; done)
              | (intro hc; exfalso; simp (disch := first | omega | decide) only [s5, m1g0, zcn, zkpl, zki, zki1, zk8, zk16, zo32, zlt0, zle0, zeq0, zgt0, zLe0, nI_ltI, nI_leI, nI_eq, nI_add, nI_clamp, vp_in_nI, zup_s, zup_n, upd_s, upd_n, ne_eq, not_true_eq_false, not_false_eq_true] at hc <;> omega)
              | (intro hc; exact absurd rfl hc)
              | intro hc
              | apply And.intro
              | exact hQ
              | (show Q _ (SH, _); simp (disch := first | omega | decide) only [s5, m1g0, zcn, zkpl, zki, zki1, zk8, zk16, zo32, zlt0, zle0, zeq0, zgt0, zLe0, nI_ltI, nI_leI, nI_eq, nI_add, nI_clamp, vp_in_nI, zup_s, zup_n, upd_s, upd_n, ne_eq, not_true_eq_false, not_false_eq_true]; exact hQ)
              | exact Or.inl rfl
              | exact Or.inr rfl
              | (show (_ : Int32) = 0 ∨ _ = 1; simp (disch := first | omega | decide) only [s5, m1g0, zcn, zkpl, zki, zki1, zk8, zk16, zo32, zlt0, zle0, zeq0, zgt0, zLe0, nI_ltI, nI_leI, nI_eq, nI_add, nI_clamp, vp_in_nI, zup_s, zup_n, upd_s, upd_n, ne_eq, not_true_eq_false, not_false_eq_true, zeq1, true_or, or_true]; done))
        · rcases hf with ⟨t', q1, q2, rfl⟩ | ⟨q1, _⟩
          · obtain rfl : t' = t := hd t' t q1 g2 (q2.trans g3.symm)
            obtain ⟨z, hz, hz6⟩ := hst t' q1
            have h64 := (s7 t' q1).2.2.2
            rw [hz] at h64 g4
            rcases g4 with ⟨g4, rfl⟩ | ⟨g4, rfl⟩
            · rw [ne_eq, nI_eq (by omega) (by omega)] at g4
              refine zgo 30 [] ?_
              repeat' (first
                | (show vp_in _ _; simp (disch := first | omega | decide) only [s5, h64, z10, zcn, zkpl, zki, zki1, zk8, zk16, zo32, zlt0, zle0, zeq0, zgt0, zLe0, nI_ltI, nI_leI, nI_eq, nI_add, nI_clamp, vp_in_nI, zup_s, zup_n, upd_s, upd_n, ne_eq, not_true_eq_false, not_false_eq_true]; done)
                | (intro hc; exfalso; simp (disch := first | omega | decide) only [s5, h64, z10, zcn, zkpl, zki, zki1, zk8, zk16, zo32, zlt0, zle0, zeq0, zgt0, zLe0, nI_ltI, nI_leI, nI_eq, nI_add, nI_clamp, vp_in_nI, zup_s, zup_n, upd_s, upd_n, ne_eq, not_true_eq_false, not_false_eq_true] at hc <;> omega)
                | (intro hc; exact absurd rfl hc)
                | intro hc
                | apply And.intro
                | exact hQ
                | (show Q _ (SH, _); simp (disch := first | omega | decide) only [s5, h64, z10, zcn, zkpl, zki, zki1, zk8, zk16, zo32, zlt0, zle0, zeq0, zgt0, zLe0, nI_ltI, nI_leI, nI_eq, nI_add, nI_clamp, vp_in_nI, zup_s, zup_n, upd_s, upd_n, ne_eq, not_true_eq_false, not_false_eq_true]; exact hQ)
                | exact Or.inl rfl
                | exact Or.inr rfl
                | (show (_ : Int32) = 0 ∨ _ = 1; simp (disch := first | omega | decide) only [s5, h64, z10, zcn, zkpl, zki, zki1, zk8, zk16, zo32, zlt0, zle0, zeq0, zgt0, zLe0, nI_ltI, nI_leI, nI_eq, nI_add, nI_clamp, vp_in_nI, zup_s, zup_n, upd_s, upd_n, ne_eq, not_true_eq_false, not_false_eq_true, zeq1, true_or, or_true]; done))
            · exact absurd rfl hr1
          · exact absurd g3 (q1 t g2)
    · rcases hf with ⟨t', q1, q2, rfl⟩ | ⟨q1, _⟩
      · obtain rfl : t' = t := hd t' t q1 g2 (q2.trans g3.symm)
        obtain ⟨_, h61, h63, h64⟩ := s7 t' q1
        rw [g4] at h64
        rcases g5 with ⟨g5, rfl⟩ | ⟨g5, c, c1, c2, g6⟩
        · have e1 : (nI v ≤ m 30 t') = False := eq_false (Int32.not_le.mpr g5)
          refine zgo 40 [] ?_
          repeat' (first
            | (show vp_in _ _; simp (disch := first | omega | decide) only [s5, h64, z10, h56, h61, e1, zcn, zkpl, zki, zki1, zk8, zk16, zo32, zlt0, zle0, zeq0, zgt0, zLe0, nI_ltI, nI_leI, nI_eq, nI_add, nI_clamp, vp_in_nI, zup_s, zup_n, upd_s, upd_n, ne_eq, not_true_eq_false, not_false_eq_true]; done)
            | (intro hc; exfalso; simp (disch := first | omega | decide) only [s5, h64, z10, h56, h61, e1, zcn, zkpl, zki, zki1, zk8, zk16, zo32, zlt0, zle0, zeq0, zgt0, zLe0, nI_ltI, nI_leI, nI_eq, nI_add, nI_clamp, vp_in_nI, zup_s, zup_n, upd_s, upd_n, ne_eq, not_true_eq_false, not_false_eq_true] at hc <;> omega)
            | (intro hc; exact absurd rfl hc)
            | intro hc
            | apply And.intro
            | exact hQ
            | (show Q _ (SH, _); simp (disch := first | omega | decide) only [s5, h64, z10, h56, h61, e1, zcn, zkpl, zki, zki1, zk8, zk16, zo32, zlt0, zle0, zeq0, zgt0, zLe0, nI_ltI, nI_leI, nI_eq, nI_add, nI_clamp, vp_in_nI, zup_s, zup_n, upd_s, upd_n, ne_eq, not_true_eq_false, not_false_eq_true]; exact hQ)
            | exact Or.inl rfl
            | exact Or.inr rfl
            | (show (_ : Int32) = 0 ∨ _ = 1; simp (disch := first | omega | decide) only [s5, h64, z10, h56, h61, e1, zcn, zkpl, zki, zki1, zk8, zk16, zo32, zlt0, zle0, zeq0, zgt0, zLe0, nI_ltI, nI_leI, nI_eq, nI_add, nI_clamp, vp_in_nI, zup_s, zup_n, upd_s, upd_n, ne_eq, not_true_eq_false, not_false_eq_true, zeq1, true_or, or_true]; done))
        · have e1 : (nI v ≤ m 30 t') = True := eq_true (Int32.not_lt.mp g5)
          rw [c1] at h63
          obtain ⟨h67, h68⟩ := s9 c c2
          rcases g6 with ⟨g6, rfl⟩ | ⟨g6, rfl⟩
          · have e2 : (nI v ≤ m 20 c - m 21 c + m 19 0) = False := eq_false (Int32.not_le.mpr g6)
            refine zgo 60 [] ?_
            repeat' (first
              | (show vp_in _ _; simp (disch := first | omega | decide) only [s5, h64, z10, h56, h61, h63, h67, h68, s10, e1, e2, zcn, zkpl, zki, zki1, zk8, zk16, zo32, zlt0, zle0, zeq0, zgt0, zLe0, nI_ltI, nI_leI, nI_eq, nI_add, nI_clamp, vp_in_nI, zup_s, zup_n, upd_s, upd_n, ne_eq, not_true_eq_false, not_false_eq_true]; done)
              | (intro hc; exfalso; simp (disch := first | omega | decide) only [s5, h64, z10, h56, h61, h63, h67, h68, s10, e1, e2, zcn, zkpl, zki, zki1, zk8, zk16, zo32, zlt0, zle0, zeq0, zgt0, zLe0, nI_ltI, nI_leI, nI_eq, nI_add, nI_clamp, vp_in_nI, zup_s, zup_n, upd_s, upd_n, ne_eq, not_true_eq_false, not_false_eq_true] at hc <;> omega)
              | (intro hc; exact absurd rfl hc)
              | intro hc
              | apply And.intro
              | exact hQ
              | (show Q _ (SH, _); simp (disch := first | omega | decide) only [s5, h64, z10, h56, h61, h63, h67, h68, s10, e1, e2, zcn, zkpl, zki, zki1, zk8, zk16, zo32, zlt0, zle0, zeq0, zgt0, zLe0, nI_ltI, nI_leI, nI_eq, nI_add, nI_clamp, vp_in_nI, zup_s, zup_n, upd_s, upd_n, ne_eq, not_true_eq_false, not_false_eq_true]; exact hQ)
              | exact Or.inl rfl
              | exact Or.inr rfl
              | (show (_ : Int32) = 0 ∨ _ = 1; simp (disch := first | omega | decide) only [s5, h64, z10, h56, h61, h63, h67, h68, s10, e1, e2, zcn, zkpl, zki, zki1, zk8, zk16, zo32, zlt0, zle0, zeq0, zgt0, zLe0, nI_ltI, nI_leI, nI_eq, nI_add, nI_clamp, vp_in_nI, zup_s, zup_n, upd_s, upd_n, ne_eq, not_true_eq_false, not_false_eq_true, zeq1, true_or, or_true]; done))
          · have e2 : (nI v ≤ m 20 c - m 21 c + m 19 0) = True := eq_true (Int32.not_lt.mp g6)
            refine zgo 60 [] ?_
            repeat' (first
              | (show vp_in _ _; simp (disch := first | omega | decide) only [s5, h64, z10, h56, h61, h63, h67, h68, s10, e1, e2, zcn, zkpl, zki, zki1, zk8, zk16, zo32, zlt0, zle0, zeq0, zgt0, zLe0, nI_ltI, nI_leI, nI_eq, nI_add, nI_clamp, vp_in_nI, zup_s, zup_n, upd_s, upd_n, ne_eq, not_true_eq_false, not_false_eq_true]; done)
              | (intro hc; exfalso; simp (disch := first | omega | decide) only [s5, h64, z10, h56, h61, h63, h67, h68, s10, e1, e2, zcn, zkpl, zki, zki1, zk8, zk16, zo32, zlt0, zle0, zeq0, zgt0, zLe0, nI_ltI, nI_leI, nI_eq, nI_add, nI_clamp, vp_in_nI, zup_s, zup_n, upd_s, upd_n, ne_eq, not_true_eq_false, not_false_eq_true] at hc <;> omega)
              | (intro hc; exact absurd rfl hc)
              | intro hc
              | apply And.intro
              | exact hQ
              | (show Q _ (SH, _); simp (disch := first | omega | decide) only [s5, h64, z10, h56, h61, h63, h67, h68, s10, e1, e2, zcn, zkpl, zki, zki1, zk8, zk16, zo32, zlt0, zle0, zeq0, zgt0, zLe0, nI_ltI, nI_leI, nI_eq, nI_add, nI_clamp, vp_in_nI, zup_s, zup_n, upd_s, upd_n, ne_eq, not_true_eq_false, not_false_eq_true]; exact hQ)
              | exact Or.inl rfl
              | exact Or.inr rfl
              | (show (_ : Int32) = 0 ∨ _ = 1; simp (disch := first | omega | decide) only [s5, h64, z10, h56, h61, h63, h67, h68, s10, e1, e2, zcn, zkpl, zki, zki1, zk8, zk16, zo32, zlt0, zle0, zeq0, zgt0, zLe0, nI_ltI, nI_leI, nI_eq, nI_add, nI_clamp, vp_in_nI, zup_s, zup_n, upd_s, upd_n, ne_eq, not_true_eq_false, not_false_eq_true, zeq1, true_or, or_true]; done))
      · exact absurd g3 (q1 t g2))
  refine zgo 5 [] ?_
  repeat' (first
    | (exact hk)
    | (show vp_in _ _; simp (disch := first | omega | decide) only [zcn, zkpl, zki, zki1, zk8, zk16, zo32, zlt0, zle0, zeq0, zgt0, zLe0, nI_ltI, nI_leI, nI_eq, nI_add, nI_clamp, vp_in_nI, zup_s, zup_n, upd_s, upd_n, ne_eq, not_true_eq_false, not_false_eq_true]; done)
    | (intro hc; exfalso; simp (disch := first | omega | decide) only [zcn, zkpl, zki, zki1, zk8, zk16, zo32, zlt0, zle0, zeq0, zgt0, zLe0, nI_ltI, nI_leI, nI_eq, nI_add, nI_clamp, vp_in_nI, zup_s, zup_n, upd_s, upd_n, ne_eq, not_true_eq_false, not_false_eq_true] at hc <;> omega)
    | (intro hc; exact absurd rfl hc)
    | intro hc
    | apply And.intro
    | exact Or.inl rfl
    | exact Or.inr rfl
    | (show (_ : Int32) = 0 ∨ _ = 1; simp (disch := first | omega | decide) only [zcn, zkpl, zki, zki1, zk8, zk16, zo32, zlt0, zle0, zeq0, zgt0, zLe0, nI_ltI, nI_leI, nI_eq, nI_add, nI_clamp, vp_in_nI, zup_s, zup_n, upd_s, upd_n, ne_eq, not_true_eq_false, not_false_eq_true, zeq1, true_or, or_true]; done))
theorem br_loop {m u : zM} {nM : Nat} {cs : List Nat} (h38 : u 42 38 = nI nM) (hM2 : nM ≤ 60) (hnm : ∀ i, i < nM → nmR (m 41 i) (u 59 i)) (hc' : nmOk cs) (h22 : u 42 22 = nI (n37 cs)) (Q : zQ) (hQ1 : (∃ i, i < nM ∧ m 41 i = nI (n8 cs)) → Q (some (.int (nI 3))) (SH, u)) (W : (¬ ∃ i, i < nM ∧ m 41 i = nI (n8 cs)) → ZW 184 (0, 0, 0, 0) 49 [(1, .int (nI nM)), (0, .ref 42)] [] (SH, u) Q) : ∀ (k i : Nat), i + k = nM → (∀ j, j < i → m 41 j ≠ nI (n8 cs)) → ZW 184 (0, 0, 0, 0) 20 [(1, .int (nI i)), (0, .ref 42)] [] (SH, u) Q := by
  intro k
  induction k with
  | zero =>
    intro i hi hj
    obtain rfl : i = nM := by omega
    have W1 := W (fun ⟨j, g1, g2⟩ => hj j g1 g2)
    refine zgo 4 [] ?_
    repeat' (first
      | (exact W1)
      | (show vp_in _ _; simp (disch := first | omega | decide) only [h38, zcn, zkpl, zki, zki1, zk8, zk16, zo32, zlt0, zle0, zeq0, zgt0, zLe0, nI_ltI, nI_leI, nI_eq, nI_add, nI_clamp, vp_in_nI, zup_s, zup_n, upd_s, upd_n, ne_eq, not_true_eq_false, not_false_eq_true]; done)
      | (intro hc; exfalso; simp (disch := first | omega | decide) only [h38, zcn, zkpl, zki, zki1, zk8, zk16, zo32, zlt0, zle0, zeq0, zgt0, zLe0, nI_ltI, nI_leI, nI_eq, nI_add, nI_clamp, vp_in_nI, zup_s, zup_n, upd_s, upd_n, ne_eq, not_true_eq_false, not_false_eq_true] at hc <;> omega)
      | (intro hc; exact absurd rfl hc)
      | intro hc
      | apply And.intro
      | exact Or.inl rfl
      | exact Or.inr rfl
      | (show (_ : Int32) = 0 ∨ _ = 1; simp (disch := first | omega | decide) only [h38, zcn, zkpl, zki, zki1, zk8, zk16, zo32, zlt0, zle0, zeq0, zgt0, zLe0, nI_ltI, nI_leI, nI_eq, nI_add, nI_clamp, vp_in_nI, zup_s, zup_n, upd_s, upd_n, ne_eq, not_true_eq_false, not_false_eq_true, zeq1, true_or, or_true]; done))
  | succ k ih =>
    intro i hi hj
    have e3 : nI i + Int32.ofInt 1 = nI (i + 1) := by rw [zki, nI_add]
    have en := nmR_eq (hnm i (by omega)) hc'
    by_cases e : m 41 i = nI (n8 cs)
    · have hQ := hQ1 ⟨i, by omega, e⟩
      rw [en] at e
      have e' : (u 59 i = nI (n37 cs)) = True := eq_true e
      refine zgo 20 [] ?_
      repeat' (first
        | (show vp_in _ _; simp (disch := first | omega | decide) only [h38, h22, e', zcn, zkpl, zki, zki1, zk8, zk16, zo32, zlt0, zle0, zeq0, zgt0, zLe0, nI_ltI, nI_leI, nI_eq, nI_add, nI_clamp, vp_in_nI, zup_s, zup_n, upd_s, upd_n, ne_eq, not_true_eq_false, not_false_eq_true]; done)
        | (intro hc; exfalso; simp (disch := first | omega | decide) only [h38, h22, e', zcn, zkpl, zki, zki1, zk8, zk16, zo32, zlt0, zle0, zeq0, zgt0, zLe0, nI_ltI, nI_leI, nI_eq, nI_add, nI_clamp, vp_in_nI, zup_s, zup_n, upd_s, upd_n, ne_eq, not_true_eq_false, not_false_eq_true] at hc <;> omega)
        | (intro hc; exact absurd rfl hc)
        | intro hc
        | apply And.intro
        | exact hQ
        | (show Q _ (SH, _); simp (disch := first | omega | decide) only [h38, h22, e', zcn, zkpl, zki, zki1, zk8, zk16, zo32, zlt0, zle0, zeq0, zgt0, zLe0, nI_ltI, nI_leI, nI_eq, nI_add, nI_clamp, vp_in_nI, zup_s, zup_n, upd_s, upd_n, ne_eq, not_true_eq_false, not_false_eq_true]; exact hQ)
        | exact Or.inl rfl
        | exact Or.inr rfl
        | (show (_ : Int32) = 0 ∨ _ = 1; simp (disch := first | omega | decide) only [h38, h22, e', zcn, zkpl, zki, zki1, zk8, zk16, zo32, zlt0, zle0, zeq0, zgt0, zLe0, nI_ltI, nI_leI, nI_eq, nI_add, nI_clamp, vp_in_nI, zup_s, zup_n, upd_s, upd_n, ne_eq, not_true_eq_false, not_false_eq_true, zeq1, true_or, or_true]; done))
    · have W1 := ih (i + 1) (by omega) (fun j h1 => by
        by_cases e2 : j = i
        · rw [e2]
          exact e
        · exact hj j (by omega))
      rw [← e3] at W1
      rw [en] at e
      have e' : (u 59 i = nI (n37 cs)) = False := eq_false e
      refine zgo 20 [] ?_
      repeat' (first
        | (exact W1)
        | (show vp_in _ _; simp (disch := first | omega | decide) only [h38, h22, e', zcn, zkpl, zki, zki1, zk8, zk16, zo32, zlt0, zle0, zeq0, zgt0, zLe0, nI_ltI, nI_leI, nI_eq, nI_add, nI_clamp, vp_in_nI, zup_s, zup_n, upd_s, upd_n, ne_eq, not_true_eq_false, not_false_eq_true]; done)
        | (intro hc; exfalso; simp (disch := first | omega | decide) only [h38, h22, e', zcn, zkpl, zki, zki1, zk8, zk16, zo32, zlt0, zle0, zeq0, zgt0, zLe0, nI_ltI, nI_leI, nI_eq, nI_add, nI_clamp, vp_in_nI, zup_s, zup_n, upd_s, upd_n, ne_eq, not_true_eq_false, not_false_eq_true] at hc <;> omega)
        | (intro hc; exact absurd rfl hc)
        | intro hc
        | apply And.intro
        | exact Or.inl rfl
        | exact Or.inr rfl
        | (show (_ : Int32) = 0 ∨ _ = 1; simp (disch := first | omega | decide) only [h38, h22, e', zcn, zkpl, zki, zki1, zk8, zk16, zo32, zlt0, zle0, zeq0, zgt0, zLe0, nI_ltI, nI_leI, nI_eq, nI_add, nI_clamp, vp_in_nI, zup_s, zup_n, upd_s, upd_n, ne_eq, not_true_eq_false, not_false_eq_true, zeq1, true_or, or_true]; done))
/-- behind isValid -/
theorem es_184 {m u : zM} {K n nT nM nb : Nat} {nm : Nat → List Nat} {vl pl dg : Nat → Nat} (ho : okM K n nm vl pl dg) (hu : uM u K n nm vl pl dg) (hK : u 44 0 = nI K) (hs : shr m u nT nM nb) (hd : dN m nT) (hst : ∀ t, t < nT → ∃ z, m 33 t = nI z ∧ z ≤ 6) {r : Nat} (hr : rul m nT nM nb K n nm vl pl dg r) (Q : zQ) (hQ : Q (some (.int (nI r))) (SH, u)) : ZW 184 (0, 0, 0, 0) 18 [(0, .ref 42)] [] (SH, u) Q := by
  have hs0 := hs
  obtain ⟨⟨s1, s2⟩, ⟨s3, s4⟩, ⟨s5, s6⟩, s7, s8, s9, s10⟩ := hs
  have fr : ZW 184 (0, 0, 0, 0) 87 [(1, .int (nI nM)), (0, .ref 42)] [.int (nI r)] (SH, u) Q := by
    refine zgo 2 [] ?_
    exact hQ
  have W := br_loop (m := m) s3 s4 s8 ho.2.1 hu.1 Q (fun g => by
    rcases hr with ⟨_, rfl⟩ | ⟨g', _⟩
    · exact hQ
    · exact absurd g g') (fun g => by
    rcases hr with ⟨g', _⟩ | ⟨_, hr⟩
    · exact absurd g' g
    · rcases hr with ⟨rfl, hr⟩ | ⟨rfl, hr⟩ | ⟨rfl, hr⟩
      · have h182 := es_182 ho hu s1 s2 s5 s6 (fun t ht => (s7 t ht).1) hr
        have f64 : ZW 184 (0, 0, 0, 0) 64 [(1, .int (nI nM)), (0, .ref 42)] [.int (nI r)] (SH, u) Q := by
          refine zgo 1 [] ?_
          repeat' (first
            | (exact fr)
            | (show vp_in _ _; simp (disch := first | omega | decide) only [zcn, zkpl, zki, zki1, zk8, zk16, zo32, zlt0, zle0, zeq0, zgt0, zLe0, nI_ltI, nI_leI, nI_eq, nI_add, nI_clamp, vp_in_nI, zup_s, zup_n, upd_s, upd_n, ne_eq, not_true_eq_false, not_false_eq_true]; done)
            | (intro hc; exfalso; simp (disch := first | omega | decide) only [zcn, zkpl, zki, zki1, zk8, zk16, zo32, zlt0, zle0, zeq0, zgt0, zLe0, nI_ltI, nI_leI, nI_eq, nI_add, nI_clamp, vp_in_nI, zup_s, zup_n, upd_s, upd_n, ne_eq, not_true_eq_false, not_false_eq_true] at hc <;> omega)
            | (intro hc; exact absurd rfl hc)
            | intro hc
            | apply And.intro
            | exact Or.inl rfl
            | exact Or.inr rfl
            | (show (_ : Int32) = 0 ∨ _ = 1; simp (disch := first | omega | decide) only [zcn, zkpl, zki, zki1, zk8, zk16, zo32, zlt0, zle0, zeq0, zgt0, zLe0, nI_ltI, nI_leI, nI_eq, nI_add, nI_clamp, vp_in_nI, zup_s, zup_n, upd_s, upd_n, ne_eq, not_true_eq_false, not_false_eq_true, zeq1, true_or, or_true]; done))
        refine zgo 10 [] ?_
        repeat' (first
          | (exact h182.use f64)
          | (show vp_in _ _; simp (disch := first | omega | decide) only [hK, zcn, zkpl, zki, zki1, zk8, zk16, zo32, zlt0, zle0, zeq0, zgt0, zLe0, nI_ltI, nI_leI, nI_eq, nI_add, nI_clamp, vp_in_nI, zup_s, zup_n, upd_s, upd_n, ne_eq, not_true_eq_false, not_false_eq_true]; done)
          | (intro hc; exfalso; simp (disch := first | omega | decide) only [hK, zcn, zkpl, zki, zki1, zk8, zk16, zo32, zlt0, zle0, zeq0, zgt0, zLe0, nI_ltI, nI_leI, nI_eq, nI_add, nI_clamp, vp_in_nI, zup_s, zup_n, upd_s, upd_n, ne_eq, not_true_eq_false, not_false_eq_true] at hc <;> omega)
          | (intro hc; exact absurd rfl hc)
          | intro hc
          | apply And.intro
          | exact Or.inl rfl
          | exact Or.inr rfl
          | (show (_ : Int32) = 0 ∨ _ = 1; simp (disch := first | omega | decide) only [hK, zcn, zkpl, zki, zki1, zk8, zk16, zo32, zlt0, zle0, zeq0, zgt0, zLe0, nI_ltI, nI_leI, nI_eq, nI_add, nI_clamp, vp_in_nI, zup_s, zup_n, upd_s, upd_n, ne_eq, not_true_eq_false, not_false_eq_true, zeq1, true_or, or_true]; done))
      · have h183 := es_183Q hs0 hd hst (ho.2.2.1 (by decide)) (hu.2.2.1 (by decide)) hr
        refine zgo 20 [] ?_
        repeat' (first
          | (exact h183.use fr)
          | (show vp_in _ _; simp (disch := first | omega | decide) only [hK, zcn, zkpl, zki, zki1, zk8, zk16, zo32, zlt0, zle0, zeq0, zgt0, zLe0, nI_ltI, nI_leI, nI_eq, nI_add, nI_clamp, vp_in_nI, zup_s, zup_n, upd_s, upd_n, ne_eq, not_true_eq_false, not_false_eq_true]; done)
          | (intro hc; exfalso; simp (disch := first | omega | decide) only [hK, zcn, zkpl, zki, zki1, zk8, zk16, zo32, zlt0, zle0, zeq0, zgt0, zLe0, nI_ltI, nI_leI, nI_eq, nI_add, nI_clamp, vp_in_nI, zup_s, zup_n, upd_s, upd_n, ne_eq, not_true_eq_false, not_false_eq_true] at hc <;> omega)
          | (intro hc; exact absurd rfl hc)
          | intro hc
          | apply And.intro
          | exact Or.inl rfl
          | exact Or.inr rfl
          | (show (_ : Int32) = 0 ∨ _ = 1; simp (disch := first | omega | decide) only [hK, zcn, zkpl, zki, zki1, zk8, zk16, zo32, zlt0, zle0, zeq0, zgt0, zLe0, nI_ltI, nI_leI, nI_eq, nI_add, nI_clamp, vp_in_nI, zup_s, zup_n, upd_s, upd_n, ne_eq, not_true_eq_false, not_false_eq_true, zeq1, true_or, or_true]; done))
      · have h183 := es_183R hs0 hd hst (ho.2.2.1 (by decide)) (hu.2.2.1 (by decide)) (hu.2.2.2.2.1 rfl) hr
        refine zgo 20 [] ?_
        repeat' (first
          | (exact h183.use fr)
          | (show vp_in _ _; simp (disch := first | omega | decide) only [hK, zcn, zkpl, zki, zki1, zk8, zk16, zo32, zlt0, zle0, zeq0, zgt0, zLe0, nI_ltI, nI_leI, nI_eq, nI_add, nI_clamp, vp_in_nI, zup_s, zup_n, upd_s, upd_n, ne_eq, not_true_eq_false, not_false_eq_true]; done)
          | (intro hc; exfalso; simp (disch := first | omega | decide) only [hK, zcn, zkpl, zki, zki1, zk8, zk16, zo32, zlt0, zle0, zeq0, zgt0, zLe0, nI_ltI, nI_leI, nI_eq, nI_add, nI_clamp, vp_in_nI, zup_s, zup_n, upd_s, upd_n, ne_eq, not_true_eq_false, not_false_eq_true] at hc <;> omega)
          | (intro hc; exact absurd rfl hc)
          | intro hc
          | apply And.intro
          | exact Or.inl rfl
          | exact Or.inr rfl
          | (show (_ : Int32) = 0 ∨ _ = 1; simp (disch := first | omega | decide) only [hK, zcn, zkpl, zki, zki1, zk8, zk16, zo32, zlt0, zle0, zeq0, zgt0, zLe0, nI_ltI, nI_leI, nI_eq, nI_add, nI_clamp, vp_in_nI, zup_s, zup_n, upd_s, upd_n, ne_eq, not_true_eq_false, not_false_eq_true, zeq1, true_or, or_true]; done))) nM 0 (by omega) (fun j h => absurd h (Nat.not_lt_zero j))
  refine zgo 5 [] ?_
  exact W
