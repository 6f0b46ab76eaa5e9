/-! waking keeps both sides together -/
theorem mlv_far {u : zM} {n a : Nat} (h1 : a ≠ 66) (h2 : a ≠ 42) : mlv u n a = u a := by
  unfold mlv
  rw [zup_n _ h2, zshl_far h1]
theorem mlv_42 {u : zM} {n f : Nat} (h : f ≠ 47) : mlv u n 42 f = u 42 f := by
  unfold mlv
  rw [zup_s, upd_n _ h, zshl_far (by decide)]
theorem mlv_q {u : zM} {n : Nat} : mlv u n 42 47 = nI (n - 1) := by
  unfold mlv
  rw [zup_s, upd_s]
theorem mlv_66 {u : zM} {n k : Nat} (h : k < n - 1) : mlv u n 66 k = u 66 (k + 1) := by
  unfold mlv
  rw [zup_n _ (by decide), zshl_in (n - 1) u 0 k (by omega) (by omega)]
theorem zdq_q {u : zM} {n : Nat} : zdq u n 28 8 = nI (n - 1) := by
  unfold zdq
  rw [zup_s, upd_s]
theorem zdq_35 {u : zM} {n k : Nat} (h : k < n - 1) : zdq u n 35 k = u 35 (k + 1) := by
  unfold zdq
  rw [zup_n _ (by decide), zshl_in (n - 1) u 0 k (by omega) (by omega)]
/-- what waking doesn't touch -/
theorem zwk_far {sA dA qA oA fA b : Nat} {d : Int32} (h1 : b ≠ sA) (h2 : b ≠ qA) (h3 : b ≠ oA) : ∀ (k i : Nat) (u : zM), zwk u sA dA qA oA fA d i k b = u b
  | 0, _, _ => rfl
  | k + 1, i, u => by
    rw [zwk]
    split
    · rw [zwk_far h1 h2 h3 k, zup_n _ h3, zup_n _ h2, zup_n _ h1]
    · exact zwk_far h1 h2 h3 k _ _
theorem zwk_fld {sA dA qA oA fA f : Nat} {d : Int32} (h1 : oA ≠ sA) (h2 : oA ≠ qA) (h3 : f ≠ fA) : ∀ (k i : Nat) (u : zM), zwk u sA dA qA oA fA d i k oA f = u oA f
  | 0, _, _ => rfl
  | k + 1, i, u => by
    rw [zwk]
    split
    · rw [zwk_fld h1 h2 h3 k, zup_s, upd_n _ h3, zup_n _ h2, zup_n _ h1]
    · exact zwk_fld h1 h2 h3 k _ _
/-- the queue as waking uses it: q entries; all different, all below n, of status 1; and all those of status 1 are in it -/
def qW (m : zM) (sA qA oA fA n q : Nat) : Prop := m oA fA = nI q ∧ (∀ k, k < q → ∃ t, t < n ∧ m qA k = nI t ∧ m sA t = nI 1) ∧ (∀ k j, k < q → j < q → m qA k = m qA j → k = j) ∧ q = cnt (m sA) (nI 1) n
theorem qW_le {m : zM} {sA qA oA fA n q : Nat} (h : qW m sA qA oA fA n q) : q ≤ n := by
  rw [h.2.2.2]
  exact cnt_le n
/-- one is woken -/
theorem qW_push {m : zM} {sA qA oA fA n q i : Nat} (hA : sA ≠ qA ∧ sA ≠ oA ∧ qA ≠ oA) (hn : n ≤ 20) (hi : i < n) (h : qW m sA qA oA fA n q) (h2 : ¬ m sA i = nI 1) : qW (zup (zup (zup m sA i (nI 1)) qA q (nI i)) oA fA (nI (q + 1))) sA qA oA fA n (q + 1) := by
  obtain ⟨a1, a2, a3, a4⟩ := h
  obtain ⟨b1, b2, b3⟩ := hA
  have eS : zup (zup (zup m sA i (nI 1)) qA q (nI i)) oA fA (nI (q + 1)) sA = upd (m sA) i (nI 1) := by
    rw [zup_n _ b2, zup_n _ b1, zup_s]
  have eQ : zup (zup (zup m sA i (nI 1)) qA q (nI i)) oA fA (nI (q + 1)) qA = upd (m qA) q (nI i) := by
    rw [zup_n _ b3, zup_s, zup_n _ (Ne.symm b1)]
  have hqn : q ≤ n := by
    rw [a4]
    exact cnt_le n
  refine ⟨by rw [zup_s, upd_s], fun k hk => ?_, fun k j hk hj e => ?_, ?_⟩
  · rw [eS, eQ]
    by_cases e : k = q
    · subst e
      exact ⟨i, hi, by rw [upd_s], by rw [upd_s]⟩
    · obtain ⟨t, t1, t2, t3⟩ := a2 k (by omega)
      have hti : t ≠ i := fun e => h2 (by rw [← e]; exact t3)
      exact ⟨t, t1, by rw [upd_n _ e]; exact t2, by rw [upd_n _ hti]; exact t3⟩
  · rw [eQ] at e
    by_cases e1 : k = q
    · by_cases e2 : j = q
      · omega
      · exfalso
        subst e1
        rw [upd_s, upd_n _ e2] at e
        obtain ⟨t, t1, t2, t3⟩ := a2 j (by omega)
        rw [t2, nI_eq (by omega) (by omega)] at e
        subst e
        exact h2 t3
    · by_cases e2 : j = q
      · exfalso
        subst e2
        rw [upd_s, upd_n _ e1] at e
        obtain ⟨t, t1, t2, t3⟩ := a2 k (by omega)
        rw [t2, nI_eq (by omega) (by omega)] at e
        subst e
        exact h2 t3
      · rw [upd_n _ e1, upd_n _ e2] at e
        exact a3 k j (by omega) (by omega) e
  · rw [eS]
    have := cnt_upd (f := m sA) (v := nI 1) (x := nI 1) (t := i) n hi
    rw [if_neg h2, if_pos rfl] at this
    omega
/-- both sides wake alike -/
theorem wake_both {n : Nat} (hn : n ≤ 20) (d : Int32) : ∀ (k i : Nat) (u m : zM) (q : Nat), i + k = n → qW m 33 35 28 8 n q → u 42 47 = nI q → (∀ t, t < n → u 64 t = m 33 t ∧ u 62 t = m 31 t) → (∀ j, j < q → u 66 j = m 35 j) → ∃ q', qW (zwk m 33 31 35 28 8 d i k) 33 35 28 8 n q' ∧ zwk u 64 62 66 42 47 d i k 42 47 = nI q' ∧ (∀ t, t < n → zwk u 64 62 66 42 47 d i k 64 t = zwk m 33 31 35 28 8 d i k 33 t) ∧ (∀ j, j < q' → zwk u 64 62 66 42 47 d i k 66 j = zwk m 33 31 35 28 8 d i k 35 j) ∧ (∀ v : Int32, v ≠ nI 1 → v ≠ nI 2 → cnt (zwk m 33 31 35 28 8 d i k 33) v n = cnt (m 33) v n) ∧ (∀ t, t < n → zwk m 33 31 35 28 8 d i k 33 t = m 33 t ∨ (m 33 t = nI 2 ∧ zwk m 33 31 35 28 8 d i k 33 t = nI 1)) := by
  intro k
  induction k with
  | zero =>
    intro i u m q hi hq hu hr hqr
    exact ⟨q, hq, hu, fun t ht => (hr t ht).1, hqr, fun _ _ _ => rfl, fun t ht => Or.inl rfl⟩
  | succ k ih =>
    intro i u m q hi hq hu hr hqr
    obtain ⟨r1, r2⟩ := hr i (by omega)
    rw [zwk, zwk]
    by_cases hw : m 33 i = nI 2 ∧ m 31 i = d
    · have hw2 : u 64 i = nI 2 ∧ u 62 i = d := by rw [r1, r2]; exact hw
      rw [if_pos hw, if_pos hw2]
      have hm8 := hq.1
      have hqn := qW_le hq
      rw [hm8, hu, nI_clamp (by omega), nI_add]
      have hne : ¬ m 33 i = nI 1 := by rw [hw.1]; decide
      have hp := qW_push (m := m) (sA := 33) (qA := 35) (oA := 28) (fA := 8) (by decide) hn (show i < n by omega) hq hne
      have eS : zup (zup (zup m 33 i (nI 1)) 35 q (nI i)) 28 8 (nI (q + 1)) 33 = upd (m 33) i (nI 1) := by simp (disch := first | omega | decide) only [zcn, zkpl, zki, zki1, zk8, zk16, zo32, zlt0, zle0, zeq0, zgt0, zLe0, nI_ltI, nI_leI, nI_eq, nI_add, nI_clamp, vp_in_nI, zup_s, zup_n, upd_s, upd_n, ne_eq, not_true_eq_false, not_false_eq_true]
      obtain ⟨q', g1, g2, g3, g4, g5, g6⟩ := ih (i + 1) (zup (zup (zup u 64 i (nI 1)) 66 q (nI i)) 42 47 (nI (q + 1))) (zup (zup (zup m 33 i (nI 1)) 35 q (nI i)) 28 8 (nI (q + 1))) (q + 1) (by omega) hp (by simp (disch := first | omega | decide) only [zcn, zkpl, zki, zki1, zk8, zk16, zo32, zlt0, zle0, zeq0, zgt0, zLe0, nI_ltI, nI_leI, nI_eq, nI_add, nI_clamp, vp_in_nI, zup_s, zup_n, upd_s, upd_n, ne_eq, not_true_eq_false, not_false_eq_true]) (fun t ht => by
        obtain ⟨s1, s2⟩ := hr t ht
        by_cases e : t = i
        · subst e
          exact ⟨by simp (disch := first | omega | decide) only [zcn, zkpl, zki, zki1, zk8, zk16, zo32, zlt0, zle0, zeq0, zgt0, zLe0, nI_ltI, nI_leI, nI_eq, nI_add, nI_clamp, vp_in_nI, zup_s, zup_n, upd_s, upd_n, ne_eq, not_true_eq_false, not_false_eq_true], by simp (disch := first | omega | decide) only [s2, zcn, zkpl, zki, zki1, zk8, zk16, zo32, zlt0, zle0, zeq0, zgt0, zLe0, nI_ltI, nI_leI, nI_eq, nI_add, nI_clamp, vp_in_nI, zup_s, zup_n, upd_s, upd_n, ne_eq, not_true_eq_false, not_false_eq_true]⟩
        · exact ⟨by simp (disch := first | omega | decide) only [s1, zcn, zkpl, zki, zki1, zk8, zk16, zo32, zlt0, zle0, zeq0, zgt0, zLe0, nI_ltI, nI_leI, nI_eq, nI_add, nI_clamp, vp_in_nI, zup_s, zup_n, upd_s, upd_n, ne_eq, not_true_eq_false, not_false_eq_true], by simp (disch := first | omega | decide) only [s2, zcn, zkpl, zki, zki1, zk8, zk16, zo32, zlt0, zle0, zeq0, zgt0, zLe0, nI_ltI, nI_leI, nI_eq, nI_add, nI_clamp, vp_in_nI, zup_s, zup_n, upd_s, upd_n, ne_eq, not_true_eq_false, not_false_eq_true]⟩) (fun j hj => by
        by_cases e : j = q
        · subst e
          simp (disch := first | omega | decide) only [zcn, zkpl, zki, zki1, zk8, zk16, zo32, zlt0, zle0, zeq0, zgt0, zLe0, nI_ltI, nI_leI, nI_eq, nI_add, nI_clamp, vp_in_nI, zup_s, zup_n, upd_s, upd_n, ne_eq, not_true_eq_false, not_false_eq_true]
        · have := hqr j (by omega)
          simp (disch := first | omega | decide) only [this, zcn, zkpl, zki, zki1, zk8, zk16, zo32, zlt0, zle0, zeq0, zgt0, zLe0, nI_ltI, nI_leI, nI_eq, nI_add, nI_clamp, vp_in_nI, zup_s, zup_n, upd_s, upd_n, ne_eq, not_true_eq_false, not_false_eq_true])
      refine ⟨q', g1, g2, g3, g4, fun v v1 v2 => ?_, fun t ht => ?_⟩
      · rw [g5 v v1 v2, eS]
        have := cnt_upd (f := m 33) (v := v) (x := nI 1) (t := i) n (by omega)
        rw [if_neg (by rw [hw.1]; exact Ne.symm v2), if_neg (Ne.symm v1)] at this
        omega
      · rcases g6 t ht with g | ⟨g, g'⟩
        · rw [eS] at g
          by_cases e : t = i
          · subst e
            rw [upd_s] at g
            exact Or.inr ⟨hw.1, g⟩
          · rw [upd_n _ e] at g
            exact Or.inl g
        · rw [eS] at g
          by_cases e : t = i
          · subst e
            exact Or.inr ⟨hw.1, g'⟩
          · rw [upd_n _ e] at g
            exact Or.inr ⟨g, g'⟩
    · have hw2 : ¬ (u 64 i = nI 2 ∧ u 62 i = d) := by rw [r1, r2]; exact hw
      rw [if_neg hw, if_neg hw2]
      exact ih (i + 1) u m q (by omega) hq hu hr hqr
