/-! names, and what is known -/
theorem v37_b {c : Nat} (h : (48 ≤ c ∧ c ≤ 57) ∨ (97 ≤ c ∧ c ≤ 122)) : 1 ≤ v37 c ∧ v37 c ≤ 36 := by
  unfold v37
  split <;> omega
theorem v37_i {c d : Nat} (h : (48 ≤ c ∧ c ≤ 57) ∨ (97 ≤ c ∧ c ≤ 122)) (h' : (48 ≤ d ∧ d ≤ 57) ∨ (97 ≤ d ∧ d ≤ 122)) (e : v37 c = v37 d) : c = d := by
  unfold v37 at e
  split at e <;> split at e <;> omega
theorem nm_lists {cs : List Nat} (h : nmOk cs) : (∃ a, cs = [a]) ∨ (∃ a b, cs = [a, b]) ∨ (∃ a b c, cs = [a, b, c]) ∨ ∃ a b c d, cs = [a, b, c, d] := by
  obtain ⟨h1, h2, h3⟩ := h
  match cs, h1, h2 with
  | [a], _, _ => exact Or.inl ⟨a, rfl⟩
  | [a, b], _, _ => exact Or.inr (Or.inl ⟨a, b, rfl⟩)
  | [a, b, c], _, _ => exact Or.inr (Or.inr (Or.inl ⟨a, b, c, rfl⟩))
  | [a, b, c, d], _, _ => exact Or.inr (Or.inr (Or.inr ⟨a, b, c, d, rfl⟩))
theorem n8_inj {a0 b0 : List Nat} (ha : nmOk a0) (hb : nmOk b0) (h : n8 a0 = n8 b0) : a0 = b0 := by
  rcases nm_lists ha with ⟨a, rfl⟩ | ⟨a, b, rfl⟩ | ⟨a, b, c, rfl⟩ | ⟨a, b, c, d, rfl⟩
  · rcases nm_lists hb with ⟨a', rfl⟩ | ⟨a', b', rfl⟩ | ⟨a', b', c', rfl⟩ | ⟨a', b', c', d', rfl⟩
    · have qa := ha.2.2 a (by simp)
      have qa' := hb.2.2 a' (by simp)
      simp only [n8, List.foldl] at h
      have ea : a = a' := by omega
      rw [ea]
    · have qa := ha.2.2 a (by simp)
      have qa' := hb.2.2 a' (by simp)
      have qb' := hb.2.2 b' (by simp)
      simp only [n8, List.foldl] at h
      omega
    · have qa := ha.2.2 a (by simp)
      have qa' := hb.2.2 a' (by simp)
      have qb' := hb.2.2 b' (by simp)
      have qc' := hb.2.2 c' (by simp)
      simp only [n8, List.foldl] at h
      omega
    · have qa := ha.2.2 a (by simp)
      have qa' := hb.2.2 a' (by simp)
      have qb' := hb.2.2 b' (by simp)
      have qc' := hb.2.2 c' (by simp)
      have qd' := hb.2.2 d' (by simp)
      simp only [n8, List.foldl] at h
      omega
  · rcases nm_lists hb with ⟨a', rfl⟩ | ⟨a', b', rfl⟩ | ⟨a', b', c', rfl⟩ | ⟨a', b', c', d', rfl⟩
    · have qa := ha.2.2 a (by simp)
      have qb := ha.2.2 b (by simp)
      have qa' := hb.2.2 a' (by simp)
      simp only [n8, List.foldl] at h
      omega
    · have qa := ha.2.2 a (by simp)
      have qb := ha.2.2 b (by simp)
      have qa' := hb.2.2 a' (by simp)
      have qb' := hb.2.2 b' (by simp)
      simp only [n8, List.foldl] at h
      have ea : a = a' := by omega
      have eb : b = b' := by omega
      rw [ea, eb]
    · have qa := ha.2.2 a (by simp)
      have qb := ha.2.2 b (by simp)
      have qa' := hb.2.2 a' (by simp)
      have qb' := hb.2.2 b' (by simp)
      have qc' := hb.2.2 c' (by simp)
      simp only [n8, List.foldl] at h
      omega
    · have qa := ha.2.2 a (by simp)
      have qb := ha.2.2 b (by simp)
      have qa' := hb.2.2 a' (by simp)
      have qb' := hb.2.2 b' (by simp)
      have qc' := hb.2.2 c' (by simp)
      have qd' := hb.2.2 d' (by simp)
      simp only [n8, List.foldl] at h
      omega
  · rcases nm_lists hb with ⟨a', rfl⟩ | ⟨a', b', rfl⟩ | ⟨a', b', c', rfl⟩ | ⟨a', b', c', d', rfl⟩
    · have qa := ha.2.2 a (by simp)
      have qb := ha.2.2 b (by simp)
      have qc := ha.2.2 c (by simp)
      have qa' := hb.2.2 a' (by simp)
      simp only [n8, List.foldl] at h
      omega
    · have qa := ha.2.2 a (by simp)
      have qb := ha.2.2 b (by simp)
      have qc := ha.2.2 c (by simp)
      have qa' := hb.2.2 a' (by simp)
      have qb' := hb.2.2 b' (by simp)
      simp only [n8, List.foldl] at h
      omega
    · have qa := ha.2.2 a (by simp)
      have qb := ha.2.2 b (by simp)
      have qc := ha.2.2 c (by simp)
      have qa' := hb.2.2 a' (by simp)
      have qb' := hb.2.2 b' (by simp)
      have qc' := hb.2.2 c' (by simp)
      simp only [n8, List.foldl] at h
      have ea : a = a' := by omega
      have eb : b = b' := by omega
      have ec : c = c' := by omega
      rw [ea, eb, ec]
    · have qa := ha.2.2 a (by simp)
      have qb := ha.2.2 b (by simp)
      have qc := ha.2.2 c (by simp)
      have qa' := hb.2.2 a' (by simp)
      have qb' := hb.2.2 b' (by simp)
      have qc' := hb.2.2 c' (by simp)
      have qd' := hb.2.2 d' (by simp)
      simp only [n8, List.foldl] at h
      omega
  · rcases nm_lists hb with ⟨a', rfl⟩ | ⟨a', b', rfl⟩ | ⟨a', b', c', rfl⟩ | ⟨a', b', c', d', rfl⟩
    · have qa := ha.2.2 a (by simp)
      have qb := ha.2.2 b (by simp)
      have qc := ha.2.2 c (by simp)
      have qd := ha.2.2 d (by simp)
      have qa' := hb.2.2 a' (by simp)
      simp only [n8, List.foldl] at h
      omega
    · have qa := ha.2.2 a (by simp)
      have qb := ha.2.2 b (by simp)
      have qc := ha.2.2 c (by simp)
      have qd := ha.2.2 d (by simp)
      have qa' := hb.2.2 a' (by simp)
      have qb' := hb.2.2 b' (by simp)
      simp only [n8, List.foldl] at h
      omega
    · have qa := ha.2.2 a (by simp)
      have qb := ha.2.2 b (by simp)
      have qc := ha.2.2 c (by simp)
      have qd := ha.2.2 d (by simp)
      have qa' := hb.2.2 a' (by simp)
      have qb' := hb.2.2 b' (by simp)
      have qc' := hb.2.2 c' (by simp)
      simp only [n8, List.foldl] at h
      omega
    · have qa := ha.2.2 a (by simp)
      have qb := ha.2.2 b (by simp)
      have qc := ha.2.2 c (by simp)
      have qd := ha.2.2 d (by simp)
      have qa' := hb.2.2 a' (by simp)
      have qb' := hb.2.2 b' (by simp)
      have qc' := hb.2.2 c' (by simp)
      have qd' := hb.2.2 d' (by simp)
      simp only [n8, List.foldl] at h
      have ea : a = a' := by omega
      have eb : b = b' := by omega
      have ec : c = c' := by omega
      have ed : d = d' := by omega
      rw [ea, eb, ec, ed]
theorem n37_inj {a0 b0 : List Nat} (ha : nmOk a0) (hb : nmOk b0) (h : n37 a0 = n37 b0) : a0 = b0 := by
  rcases nm_lists ha with ⟨a, rfl⟩ | ⟨a, b, rfl⟩ | ⟨a, b, c, rfl⟩ | ⟨a, b, c, d, rfl⟩
  · rcases nm_lists hb with ⟨a', rfl⟩ | ⟨a', b', rfl⟩ | ⟨a', b', c', rfl⟩ | ⟨a', b', c', d', rfl⟩
    · have qa := ha.2.2 a (by simp)
      have qa' := hb.2.2 a' (by simp)
      have wa := v37_b qa
      have wa' := v37_b qa'
      simp only [n37, List.foldl] at h
      have ea : a = a' := v37_i qa qa' (by omega)
      rw [ea]
    · have qa := ha.2.2 a (by simp)
      have qa' := hb.2.2 a' (by simp)
      have qb' := hb.2.2 b' (by simp)
      have wa := v37_b qa
      have wa' := v37_b qa'
      have wb' := v37_b qb'
      simp only [n37, List.foldl] at h
      omega
    · have qa := ha.2.2 a (by simp)
      have qa' := hb.2.2 a' (by simp)
      have qb' := hb.2.2 b' (by simp)
      have qc' := hb.2.2 c' (by simp)
      have wa := v37_b qa
      have wa' := v37_b qa'
      have wb' := v37_b qb'
      have wc' := v37_b qc'
      simp only [n37, List.foldl] at h
      omega
    · have qa := ha.2.2 a (by simp)
      have qa' := hb.2.2 a' (by simp)
      have qb' := hb.2.2 b' (by simp)
      have qc' := hb.2.2 c' (by simp)
      have qd' := hb.2.2 d' (by simp)
      have wa := v37_b qa
      have wa' := v37_b qa'
      have wb' := v37_b qb'
      have wc' := v37_b qc'
      have wd' := v37_b qd'
      simp only [n37, List.foldl] at h
      omega
  · rcases nm_lists hb with ⟨a', rfl⟩ | ⟨a', b', rfl⟩ | ⟨a', b', c', rfl⟩ | ⟨a', b', c', d', rfl⟩
    · have qa := ha.2.2 a (by simp)
      have qb := ha.2.2 b (by simp)
      have qa' := hb.2.2 a' (by simp)
      have wa := v37_b qa
      have wb := v37_b qb
      have wa' := v37_b qa'
      simp only [n37, List.foldl] at h
      omega
    · have qa := ha.2.2 a (by simp)
      have qb := ha.2.2 b (by simp)
      have qa' := hb.2.2 a' (by simp)
      have qb' := hb.2.2 b' (by simp)
      have wa := v37_b qa
      have wb := v37_b qb
      have wa' := v37_b qa'
      have wb' := v37_b qb'
      simp only [n37, List.foldl] at h
      have ea : a = a' := v37_i qa qa' (by omega)
      have eb : b = b' := v37_i qb qb' (by omega)
      rw [ea, eb]
    · have qa := ha.2.2 a (by simp)
      have qb := ha.2.2 b (by simp)
      have qa' := hb.2.2 a' (by simp)
      have qb' := hb.2.2 b' (by simp)
      have qc' := hb.2.2 c' (by simp)
      have wa := v37_b qa
      have wb := v37_b qb
      have wa' := v37_b qa'
      have wb' := v37_b qb'
      have wc' := v37_b qc'
      simp only [n37, List.foldl] at h
      omega
    · have qa := ha.2.2 a (by simp)
      have qb := ha.2.2 b (by simp)
      have qa' := hb.2.2 a' (by simp)
      have qb' := hb.2.2 b' (by simp)
      have qc' := hb.2.2 c' (by simp)
      have qd' := hb.2.2 d' (by simp)
      have wa := v37_b qa
      have wb := v37_b qb
      have wa' := v37_b qa'
      have wb' := v37_b qb'
      have wc' := v37_b qc'
      have wd' := v37_b qd'
      simp only [n37, List.foldl] at h
      omega
  · rcases nm_lists hb with ⟨a', rfl⟩ | ⟨a', b', rfl⟩ | ⟨a', b', c', rfl⟩ | ⟨a', b', c', d', rfl⟩
    · have qa := ha.2.2 a (by simp)
      have qb := ha.2.2 b (by simp)
      have qc := ha.2.2 c (by simp)
      have qa' := hb.2.2 a' (by simp)
      have wa := v37_b qa
      have wb := v37_b qb
      have wc := v37_b qc
      have wa' := v37_b qa'
      simp only [n37, List.foldl] at h
      omega
    · have qa := ha.2.2 a (by simp)
      have qb := ha.2.2 b (by simp)
      have qc := ha.2.2 c (by simp)
      have qa' := hb.2.2 a' (by simp)
      have qb' := hb.2.2 b' (by simp)
      have wa := v37_b qa
      have wb := v37_b qb
      have wc := v37_b qc
      have wa' := v37_b qa'
      have wb' := v37_b qb'
      simp only [n37, List.foldl] at h
      omega
    · have qa := ha.2.2 a (by simp)
      have qb := ha.2.2 b (by simp)
      have qc := ha.2.2 c (by simp)
      have qa' := hb.2.2 a' (by simp)
      have qb' := hb.2.2 b' (by simp)
      have qc' := hb.2.2 c' (by simp)
      have wa := v37_b qa
      have wb := v37_b qb
      have wc := v37_b qc
      have wa' := v37_b qa'
      have wb' := v37_b qb'
      have wc' := v37_b qc'
      simp only [n37, List.foldl] at h
      have ea : a = a' := v37_i qa qa' (by omega)
      have eb : b = b' := v37_i qb qb' (by omega)
      have ec : c = c' := v37_i qc qc' (by omega)
      rw [ea, eb, ec]
    · have qa := ha.2.2 a (by simp)
      have qb := ha.2.2 b (by simp)
      have qc := ha.2.2 c (by simp)
      have qa' := hb.2.2 a' (by simp)
      have qb' := hb.2.2 b' (by simp)
      have qc' := hb.2.2 c' (by simp)
      have qd' := hb.2.2 d' (by simp)
      have wa := v37_b qa
      have wb := v37_b qb
      have wc := v37_b qc
      have wa' := v37_b qa'
      have wb' := v37_b qb'
      have wc' := v37_b qc'
      have wd' := v37_b qd'
      simp only [n37, List.foldl] at h
      omega
  · rcases nm_lists hb with ⟨a', rfl⟩ | ⟨a', b', rfl⟩ | ⟨a', b', c', rfl⟩ | ⟨a', b', c', d', rfl⟩
    · have qa := ha.2.2 a (by simp)
      have qb := ha.2.2 b (by simp)
      have qc := ha.2.2 c (by simp)
      have qd := ha.2.2 d (by simp)
      have qa' := hb.2.2 a' (by simp)
      have wa := v37_b qa
      have wb := v37_b qb
      have wc := v37_b qc
      have wd := v37_b qd
      have wa' := v37_b qa'
      simp only [n37, List.foldl] at h
      omega
    · have qa := ha.2.2 a (by simp)
      have qb := ha.2.2 b (by simp)
      have qc := ha.2.2 c (by simp)
      have qd := ha.2.2 d (by simp)
      have qa' := hb.2.2 a' (by simp)
      have qb' := hb.2.2 b' (by simp)
      have wa := v37_b qa
      have wb := v37_b qb
      have wc := v37_b qc
      have wd := v37_b qd
      have wa' := v37_b qa'
      have wb' := v37_b qb'
      simp only [n37, List.foldl] at h
      omega
    · have qa := ha.2.2 a (by simp)
      have qb := ha.2.2 b (by simp)
      have qc := ha.2.2 c (by simp)
      have qd := ha.2.2 d (by simp)
      have qa' := hb.2.2 a' (by simp)
      have qb' := hb.2.2 b' (by simp)
      have qc' := hb.2.2 c' (by simp)
      have wa := v37_b qa
      have wb := v37_b qb
      have wc := v37_b qc
      have wd := v37_b qd
      have wa' := v37_b qa'
      have wb' := v37_b qb'
      have wc' := v37_b qc'
      simp only [n37, List.foldl] at h
      omega
    · have qa := ha.2.2 a (by simp)
      have qb := ha.2.2 b (by simp)
      have qc := ha.2.2 c (by simp)
      have qd := ha.2.2 d (by simp)
      have qa' := hb.2.2 a' (by simp)
      have qb' := hb.2.2 b' (by simp)
      have qc' := hb.2.2 c' (by simp)
      have qd' := hb.2.2 d' (by simp)
      have wa := v37_b qa
      have wb := v37_b qb
      have wc := v37_b qc
      have wd := v37_b qd
      have wa' := v37_b qa'
      have wb' := v37_b qb'
      have wc' := v37_b qc'
      have wd' := v37_b qd'
      simp only [n37, List.foldl] at h
      have ea : a = a' := v37_i qa qa' (by omega)
      have eb : b = b' := v37_i qb qb' (by omega)
      have ec : c = c' := v37_i qc qc' (by omega)
      have ed : d = d' := v37_i qd qd' (by omega)
      rw [ea, eb, ec, ed]
theorem n37_lt {cs : List Nat} (h : nmOk cs) : n37 cs < 2000000 := by
  rcases nm_lists h with ⟨a, rfl⟩ | ⟨a, b, rfl⟩ | ⟨a, b, c, rfl⟩ | ⟨a, b, c, d, rfl⟩
  · have wa := v37_b (h.2.2 a (by simp))
    simp only [n37, List.foldl]
    omega
  · have wa := v37_b (h.2.2 a (by simp))
    have wb := v37_b (h.2.2 b (by simp))
    simp only [n37, List.foldl]
    omega
  · have wa := v37_b (h.2.2 a (by simp))
    have wb := v37_b (h.2.2 b (by simp))
    have wc := v37_b (h.2.2 c (by simp))
    simp only [n37, List.foldl]
    omega
  · have wa := v37_b (h.2.2 a (by simp))
    have wb := v37_b (h.2.2 b (by simp))
    have wc := v37_b (h.2.2 c (by simp))
    have wd := v37_b (h.2.2 d (by simp))
    simp only [n37, List.foldl]
    omega
/-- one name in both numbers -/
theorem nmR_eq {x y : Int32} {cs : List Nat} (h : nmR x y) (hc' : nmOk cs) : (x = nI (n8 cs)) = (y = nI (n37 cs)) := by
  obtain ⟨ds, d1, rfl, rfl⟩ := h
  have a1 := n8_lt d1
  have a2 := n8_lt hc'
  have b1 := n37_lt d1
  have b2 := n37_lt hc'
  rw [nI_eq a1 a2, nI_eq (by omega) (by omega)]
  refine propext ⟨fun g => ?_, fun g => ?_⟩
  · rw [n8_inj d1 hc' g]
  · rw [n37_inj d1 hc' g]
theorem n_eq {a b : List Nat} (ha : nmOk a) (hb : nmOk b) : (nI (n8 a) = nI (n8 b)) = (nI (n37 a) = nI (n37 b)) := nmR_eq ⟨a, ha, rfl, rfl⟩ hb
theorem find_loop {m : zM} {nT : Nat} {x : Int32} (hT : m 28 6 = nI nT) (hn : nT ≤ 20) (Q : zQ) : ∀ (r t : Nat), t + r = nT → (∀ t', t ≤ t' → t' < nT → m 29 t' = x → (∀ j, t ≤ j → j < t' → m 29 j ≠ x) → Q (some (.int (nI t'))) (SH, m)) → ((∀ t', t ≤ t' → t' < nT → m 29 t' ≠ x) → Q (some (.int (-1))) (SH, m)) → ZW 92 (0, 0, 0, 0) 2 [(2, .int (nI t)), (0, .ref 28), (1, .int x)] [] (SH, m) Q := by
  intro r
  induction r with
  | zero =>
    intro t ht _ hQ2
    have hQ := hQ2 (fun t' g1 g2 => by omega)
    obtain rfl : t = nT := by omega
    refine zgo 20 [] ?_
    repeat' (first
      | (show vp_in _ _; simp (disch := first | omega | decide) only [hT, zcn, zkpl, zki, zki1, zk8, zk16, zo32, zlt0, zle0, zeq0, zgt0, zLe0, nI_ltI, nI_leI, nI_eq, nI_add, nI_clamp, vp_in_nI, zup_s, zup_n, upd_s, upd_n, ne_eq, not_true_eq_false, not_false_eq_true]; done)
      | (intro hc; exfalso; simp (disch := first | omega | decide) only [hT, zcn, zkpl, zki, zki1, zk8, zk16, zo32, zlt0, zle0, zeq0, zgt0, zLe0, nI_ltI, nI_leI, nI_eq, nI_add, nI_clamp, vp_in_nI, zup_s, zup_n, upd_s, upd_n, ne_eq, not_true_eq_false, not_false_eq_true] at hc <;> omega)
      | (intro hc; exact absurd rfl hc)
      | intro hc
      | apply And.intro
      | exact hQ
      | (show Q _ (SH, _); simp (disch := first | omega | decide) only [hT, zcn, zkpl, zki, zki1, zk8, zk16, zo32, zlt0, zle0, zeq0, zgt0, zLe0, nI_ltI, nI_leI, nI_eq, nI_add, nI_clamp, vp_in_nI, zup_s, zup_n, upd_s, upd_n, ne_eq, not_true_eq_false, not_false_eq_true]; exact hQ)
      | exact Or.inl rfl
      | exact Or.inr rfl
      | (show (_ : Int32) = 0 ∨ _ = 1; simp (disch := first | omega | decide) only [hT, zcn, zkpl, zki, zki1, zk8, zk16, zo32, zlt0, zle0, zeq0, zgt0, zLe0, nI_ltI, nI_leI, nI_eq, nI_add, nI_clamp, vp_in_nI, zup_s, zup_n, upd_s, upd_n, ne_eq, not_true_eq_false, not_false_eq_true, zeq1, true_or, or_true]; done))
  | succ r ih =>
    intro t ht hQ1 hQ2
    have e3 : nI t + Int32.ofInt 1 = nI (t + 1) := by rw [zki, nI_add]
    by_cases e : m 29 t = x
    · have hQ := hQ1 t (Nat.le_refl t) (by omega) e (fun j g1 g2 => by omega)
      have e' : (m 29 t = x) = True := eq_true e
      refine zgo 20 [] ?_
      repeat' (first
        | (show vp_in _ _; simp (disch := first | omega | decide) only [hT, e', zcn, zkpl, zki, zki1, zk8, zk16, zo32, zlt0, zle0, zeq0, zgt0, zLe0, nI_ltI, nI_leI, nI_eq, nI_add, nI_clamp, vp_in_nI, zup_s, zup_n, upd_s, upd_n, ne_eq, not_true_eq_false, not_false_eq_true]; done)
        | (intro hc; exfalso; simp (disch := first | omega | decide) only [hT, e', zcn, zkpl, zki, zki1, zk8, zk16, zo32, zlt0, zle0, zeq0, zgt0, zLe0, nI_ltI, nI_leI, nI_eq, nI_add, nI_clamp, vp_in_nI, zup_s, zup_n, upd_s, upd_n, ne_eq, not_true_eq_false, not_false_eq_true] at hc <;> omega)
        | (intro hc; exact absurd rfl hc)
        | intro hc
        | apply And.intro
        | exact hQ
        | (show Q _ (SH, _); simp (disch := first | omega | decide) only [hT, e', zcn, zkpl, zki, zki1, zk8, zk16, zo32, zlt0, zle0, zeq0, zgt0, zLe0, nI_ltI, nI_leI, nI_eq, nI_add, nI_clamp, vp_in_nI, zup_s, zup_n, upd_s, upd_n, ne_eq, not_true_eq_false, not_false_eq_true]; exact hQ)
        | exact Or.inl rfl
        | exact Or.inr rfl
        | (show (_ : Int32) = 0 ∨ _ = 1; simp (disch := first | omega | decide) only [hT, e', zcn, zkpl, zki, zki1, zk8, zk16, zo32, zlt0, zle0, zeq0, zgt0, zLe0, nI_ltI, nI_leI, nI_eq, nI_add, nI_clamp, vp_in_nI, zup_s, zup_n, upd_s, upd_n, ne_eq, not_true_eq_false, not_false_eq_true, zeq1, true_or, or_true]; done))
    · have W := ih (t + 1) (by omega) (fun t' h1 h2 h3 h4 => hQ1 t' (by omega) h2 h3 (fun j g1 g2 => by
        by_cases e2 : j = t
        · rw [e2]
          exact e
        · exact h4 j (by omega) g2)) (fun g => hQ2 (fun t' g1 g2 => by
        by_cases e2 : t' = t
        · rw [e2]
          exact e
        · exact g t' (by omega) g2))
      rw [← e3] at W
      have e' : (m 29 t = x) = False := eq_false e
      refine zgo 20 [] ?_
      repeat' (first
        | (exact W)
        | (show vp_in _ _; simp (disch := first | omega | decide) only [hT, e', zcn, zkpl, zki, zki1, zk8, zk16, zo32, zlt0, zle0, zeq0, zgt0, zLe0, nI_ltI, nI_leI, nI_eq, nI_add, nI_clamp, vp_in_nI, zup_s, zup_n, upd_s, upd_n, ne_eq, not_true_eq_false, not_false_eq_true]; done)
        | (intro hc; exfalso; simp (disch := first | omega | decide) only [hT, e', zcn, zkpl, zki, zki1, zk8, zk16, zo32, zlt0, zle0, zeq0, zgt0, zLe0, nI_ltI, nI_leI, nI_eq, nI_add, nI_clamp, vp_in_nI, zup_s, zup_n, upd_s, upd_n, ne_eq, not_true_eq_false, not_false_eq_true] at hc <;> omega)
        | (intro hc; exact absurd rfl hc)
        | intro hc
        | apply And.intro
        | exact Or.inl rfl
        | exact Or.inr rfl
        | (show (_ : Int32) = 0 ∨ _ = 1; simp (disch := first | omega | decide) only [hT, e', zcn, zkpl, zki, zki1, zk8, zk16, zo32, zlt0, zle0, zeq0, zgt0, zLe0, nI_ltI, nI_leI, nI_eq, nI_add, nI_clamp, vp_in_nI, zup_s, zup_n, upd_s, upd_n, ne_eq, not_true_eq_false, not_false_eq_true, zeq1, true_or, or_true]; done))
/-- find: the place, or none -/
def fdR (m : zM) (nT : Nat) (x : Int32) (r : Int32) : Prop := (∃ t, t < nT ∧ m 29 t = x ∧ r = nI t) ∨ ((∀ t, t < nT → m 29 t ≠ x) ∧ r = -1)
theorem fdR_ex (m : zM) (nT : Nat) (x : Int32) : ∃ r, fdR m nT x r := by
  rcases Classical.em (∃ t, t < nT ∧ m 29 t = x) with ⟨t, g1, g2⟩ | g
  · exact ⟨_, Or.inl ⟨t, g1, g2, rfl⟩⟩
  · exact ⟨_, Or.inr ⟨fun t h1 h2 => g ⟨t, h1, h2⟩, rfl⟩⟩
theorem ev_find {m : zM} {nT : Nat} {x r : Int32} (hT : m 28 6 = nI nT) (hn : nT ≤ 20) (hd : dN m nT) (hr : fdR m nT x r) : Ev 92 [.ref 28, .int x] m (some (.int r)) m := by
  intro Q hQ
  have W := find_loop hT hn Q nT 0 (by omega) (x := x) (fun t' h1 h2 h3 h4 => by
    rcases hr with ⟨t, g1, g2, g3⟩ | ⟨g1, g2⟩
    · have : t = t' := hd t t' g1 h2 (g2.trans h3.symm)
      rw [← this, ← g3]
      exact hQ
    · exact absurd h3 (g1 t' h2)) (fun g => by
    rcases hr with ⟨t, g1, g2, g3⟩ | ⟨g1, g2⟩
    · exact absurd g2 (g t (by omega) g1)
    · rw [← g2]
      exact hQ)
  refine zgo 20 [] ?_
  exact W
theorem knows_loop {m : zM} {nM : Nat} {x : Int32} (hM : m 18 4 = nI nM) (hn : nM ≤ 60) (Q : zQ) : ∀ (r t : Nat), t + r = nM → ((∃ t', t' < nM ∧ m 41 t' = x) → Q (some (.int 1)) (SH, m)) → ((∀ t', t ≤ t' → t' < nM → m 41 t' ≠ x) → Q (some (.int 0)) (SH, m)) → ZW 19 (0, 0, 0, 0) 2 [(2, .int (nI t)), (0, .ref 18), (1, .int x)] [] (SH, m) Q := by
  intro r
  induction r with
  | zero =>
    intro t ht _ hQ2
    have hQ := hQ2 (fun t' g1 g2 => by omega)
    obtain rfl : t = nM := by omega
    refine zgo 20 [] ?_
    repeat' (first
      | (show vp_in _ _; simp (disch := first | omega | decide) only [hM, zcn, zkpl, zki, zki1, zk8, zk16, zo32, zlt0, zle0, zeq0, zgt0, zLe0, nI_ltI, nI_leI, nI_eq, nI_add, nI_clamp, vp_in_nI, zup_s, zup_n, upd_s, upd_n, ne_eq, not_true_eq_false, not_false_eq_true]; done)
      | (intro hc; exfalso; simp (disch := first | omega | decide) only [hM, zcn, zkpl, zki, zki1, zk8, zk16, zo32, zlt0, zle0, zeq0, zgt0, zLe0, nI_ltI, nI_leI, nI_eq, nI_add, nI_clamp, vp_in_nI, zup_s, zup_n, upd_s, upd_n, ne_eq, not_true_eq_false, not_false_eq_true] at hc <;> omega)
      | (intro hc; exact absurd rfl hc)
      | intro hc
      | apply And.intro
      | exact hQ
      | (show Q _ (SH, _); simp (disch := first | omega | decide) only [hM, zcn, zkpl, zki, zki1, zk8, zk16, zo32, zlt0, zle0, zeq0, zgt0, zLe0, nI_ltI, nI_leI, nI_eq, nI_add, nI_clamp, vp_in_nI, zup_s, zup_n, upd_s, upd_n, ne_eq, not_true_eq_false, not_false_eq_true]; exact hQ)
      | exact Or.inl rfl
      | exact Or.inr rfl
      | (show (_ : Int32) = 0 ∨ _ = 1; simp (disch := first | omega | decide) only [hM, zcn, zkpl, zki, zki1, zk8, zk16, zo32, zlt0, zle0, zeq0, zgt0, zLe0, nI_ltI, nI_leI, nI_eq, nI_add, nI_clamp, vp_in_nI, zup_s, zup_n, upd_s, upd_n, ne_eq, not_true_eq_false, not_false_eq_true, zeq1, true_or, or_true]; done))
  | succ r ih =>
    intro t ht hQ1 hQ2
    have e3 : nI t + Int32.ofInt 1 = nI (t + 1) := by rw [zki, nI_add]
    by_cases e : m 41 t = x
    · have hQ := hQ1 ⟨t, by omega, e⟩
      have e' : (m 41 t = x) = True := eq_true e
      refine zgo 20 [] ?_
      repeat' (first
        | (show vp_in _ _; simp (disch := first | omega | decide) only [hM, e', zcn, zkpl, zki, zki1, zk8, zk16, zo32, zlt0, zle0, zeq0, zgt0, zLe0, nI_ltI, nI_leI, nI_eq, nI_add, nI_clamp, vp_in_nI, zup_s, zup_n, upd_s, upd_n, ne_eq, not_true_eq_false, not_false_eq_true]; done)
        | (intro hc; exfalso; simp (disch := first | omega | decide) only [hM, e', zcn, zkpl, zki, zki1, zk8, zk16, zo32, zlt0, zle0, zeq0, zgt0, zLe0, nI_ltI, nI_leI, nI_eq, nI_add, nI_clamp, vp_in_nI, zup_s, zup_n, upd_s, upd_n, ne_eq, not_true_eq_false, not_false_eq_true] at hc <;> omega)
        | (intro hc; exact absurd rfl hc)
        | intro hc
        | apply And.intro
        | exact hQ
        | (show Q _ (SH, _); simp (disch := first | omega | decide) only [hM, e', zcn, zkpl, zki, zki1, zk8, zk16, zo32, zlt0, zle0, zeq0, zgt0, zLe0, nI_ltI, nI_leI, nI_eq, nI_add, nI_clamp, vp_in_nI, zup_s, zup_n, upd_s, upd_n, ne_eq, not_true_eq_false, not_false_eq_true]; exact hQ)
        | exact Or.inl rfl
        | exact Or.inr rfl
        | (show (_ : Int32) = 0 ∨ _ = 1; simp (disch := first | omega | decide) only [hM, e', zcn, zkpl, zki, zki1, zk8, zk16, zo32, zlt0, zle0, zeq0, zgt0, zLe0, nI_ltI, nI_leI, nI_eq, nI_add, nI_clamp, vp_in_nI, zup_s, zup_n, upd_s, upd_n, ne_eq, not_true_eq_false, not_false_eq_true, zeq1, true_or, or_true]; done))
    · have W := ih (t + 1) (by omega) hQ1 (fun g => hQ2 (fun t' g1 g2 => by
        by_cases e2 : t' = t
        · rw [e2]
          exact e
        · exact g t' (by omega) g2))
      rw [← e3] at W
      have e' : (m 41 t = x) = False := eq_false e
      refine zgo 20 [] ?_
      repeat' (first
        | (exact W)
        | (show vp_in _ _; simp (disch := first | omega | decide) only [hM, e', zcn, zkpl, zki, zki1, zk8, zk16, zo32, zlt0, zle0, zeq0, zgt0, zLe0, nI_ltI, nI_leI, nI_eq, nI_add, nI_clamp, vp_in_nI, zup_s, zup_n, upd_s, upd_n, ne_eq, not_true_eq_false, not_false_eq_true]; done)
        | (intro hc; exfalso; simp (disch := first | omega | decide) only [hM, e', zcn, zkpl, zki, zki1, zk8, zk16, zo32, zlt0, zle0, zeq0, zgt0, zLe0, nI_ltI, nI_leI, nI_eq, nI_add, nI_clamp, vp_in_nI, zup_s, zup_n, upd_s, upd_n, ne_eq, not_true_eq_false, not_false_eq_true] at hc <;> omega)
        | (intro hc; exact absurd rfl hc)
        | intro hc
        | apply And.intro
        | exact Or.inl rfl
        | exact Or.inr rfl
        | (show (_ : Int32) = 0 ∨ _ = 1; simp (disch := first | omega | decide) only [hM, e', zcn, zkpl, zki, zki1, zk8, zk16, zo32, zlt0, zle0, zeq0, zgt0, zLe0, nI_ltI, nI_leI, nI_eq, nI_add, nI_clamp, vp_in_nI, zup_s, zup_n, upd_s, upd_n, ne_eq, not_true_eq_false, not_false_eq_true, zeq1, true_or, or_true]; done))
theorem ev_knows {m : zM} {nM : Nat} {x b : Int32} (hM : m 18 4 = nI nM) (hn : nM ≤ 60) (hb : (b = 1 ∧ ∃ t, t < nM ∧ m 41 t = x) ∨ (b = 0 ∧ ¬ ∃ t, t < nM ∧ m 41 t = x)) : Ev 19 [.ref 18, .int x] m (some (.int b)) m := by
  intro Q hQ
  have W := knows_loop hM hn Q nM 0 (by omega) (x := x) (fun g => by
    rcases hb with ⟨rfl, hb⟩ | ⟨rfl, hb⟩
    · exact hQ
    · exact absurd g hb) (fun g => by
    rcases hb with ⟨rfl, t, hb⟩ | ⟨rfl, hb⟩
    · exact absurd hb.2 (g t (by omega) hb.1)
    · exact hQ)
  refine zgo 20 [] ?_
  exact W
