/-! reading the text: the reader's state as numbers, and the class's small steps -/
abbrev pS : Type := Nat → Nat → Nat
def ud (f : Nat → Nat) (k v : Nat) : Nat → Nat := fun j => if j = k then v else f j
def sp (s : pS) (a k v : Nat) : pS := fun b => if b = a then ud (s a) k v else s b
theorem ud_s (f : Nat → Nat) (k v : Nat) : ud f k v k = v := if_pos rfl
theorem ud_n (f : Nat → Nat) {j k v : Nat} (h : j ≠ k) : ud f k v j = f j := if_neg h
theorem sp_s (s : pS) (a k v : Nat) : sp s a k v a = ud (s a) k v := if_pos rfl
theorem sp_n (s : pS) {a b k v : Nat} (h : b ≠ a) : sp s a k v b = s b := if_neg h
def aR (f : Nat → Int32) (g : Nat → Nat) (n : Nat) : Prop := ∀ j, j < n → f j = nI (g j)
theorem aR_push {f : Nat → Int32} {g : Nat → Nat} {n : Nat} (h : aR f g n) (v : Nat) : aR (upd f n (nI v)) (ud g n v) (n + 1) := by
  intro j hj
  by_cases e : j = n
  · rw [e, upd_s, ud_s]
  · rw [upd_n _ e, ud_n _ e]
    exact h j (by omega)
theorem aR_set {f : Nat → Int32} {g : Nat → Nat} {n : Nat} (h : aR f g n) (k v : Nat) : aR (upd f k (nI v)) (ud g k v) n := by
  intro j hj
  by_cases e : j = k
  · rw [e, upd_s, ud_s]
  · rw [upd_n _ e, ud_n _ e]
    exact h j hj
theorem aR_mono {f : Nat → Int32} {g : Nat → Nat} {n k : Nat} (h : aR f g n) (hk : k ≤ n) : aR f g k := fun j hj => h j (by omega)
/-- the text beyond which nothing stands -/
def pe (w : Nat → Nat) (wl j : Nat) : Nat := if j < wl then w j else 0
def okT (w : Nat → Nat) (wl : Nat) : Prop := wl ≤ 300 ∧ ∀ j, j < wl → 32 ≤ w j ∧ w j ≤ 126
theorem pe_le {w : Nat → Nat} {wl : Nat} (h : okT w wl) (j : Nat) : pe w wl j ≤ 126 := by
  unfold pe
  split
  · exact (h.2 j (by omega)).2
  · omega
theorem pe_in {w : Nat → Nat} {wl j : Nat} (h : pe w wl j ≠ 0) : j < wl := by
  by_cases e : j < wl
  · exact e
  · exact absurd (if_neg e) h
theorem pe_w {w : Nat → Nat} {wl j : Nat} (h : j < wl) : pe w wl j = w j := if_pos h
theorem pe_z {w : Nat → Nat} {wl j : Nat} (h : wl ≤ j) : pe w wl j = 0 := if_neg (by omega)
/-- the class's reader: its text and where it stands -/
def tX (w : Nat → Nat) (wl : Nat) (m : zM) (a : Nat) : Prop := m 9 2 = nI wl ∧ aR (m 10) w wl ∧ m 9 3 = nI a
theorem tX.mv {w : Nat → Nat} {wl a : Nat} {m : zM} (h : tX w wl m a) (b : Nat) : tX w wl (zup m 9 3 (nI b)) b := by
  obtain ⟨h1, h2, h3⟩ := h
  refine ⟨?_, ?_, ?_⟩
  · rw [zup_s, upd_n _ (by decide), h1]
  · rw [zup_n _ (by decide)]
    exact h2
  · rw [zup_s, upd_s]
theorem ev_peek {w : Nat → Nat} {wl a : Nat} {m : zM} (ho : okT w wl) (h : tX w wl m a) (k : Nat) {x : Int32} (hx : x = nI k) (hk : k ≤ 3) (ha : a ≤ 310) : Ev 88 [.ref 9, .int x] m (some (.int (nI (pe w wl (a + k))))) m := by
  obtain ⟨h1, h2, h3⟩ := h
  have hl := ho.1
  subst hx
  intro Q hQ
  by_cases e : a + k < wl
  · have e2 := h2 (a + k) e
    rw [pe_w e, ← e2] at hQ
    refine zgo 40 [] ?_
    repeat' (first
      | (show vp_in _ _; simp (disch := first | omega | decide) only [h1, h3, zcn, zkpl, zki, zki1, zk8, zk16, zo32, zlt0, zle0, zeq0, zgt0, zLe0, nI_ltI, nI_leI, nI_eq, nI_add, nI_clamp, vp_in_nI, zup_s, zup_n, upd_s, upd_n, ne_eq, not_true_eq_false, not_false_eq_true]; done)
      | (intro hc; exfalso; simp (disch := first | omega | decide) only [h1, h3, zcn, zkpl, zki, zki1, zk8, zk16, zo32, zlt0, zle0, zeq0, zgt0, zLe0, nI_ltI, nI_leI, nI_eq, nI_add, nI_clamp, vp_in_nI, zup_s, zup_n, upd_s, upd_n, ne_eq, not_true_eq_false, not_false_eq_true] at hc <;> omega)
      | (intro hc; exact absurd rfl hc)
      | intro hc
      | apply And.intro
      | exact hQ
      | (show Q _ (SH, _); simp (disch := first | omega | decide) only [h1, h3, zcn, zkpl, zki, zki1, zk8, zk16, zo32, zlt0, zle0, zeq0, zgt0, zLe0, nI_ltI, nI_leI, nI_eq, nI_add, nI_clamp, vp_in_nI, zup_s, zup_n, upd_s, upd_n, ne_eq, not_true_eq_false, not_false_eq_true]; exact hQ)
      | exact Or.inl rfl
      | exact Or.inr rfl
      | (show (_ : Int32) = 0 ∨ _ = 1; simp (disch := first | omega | decide) only [h1, h3, zcn, zkpl, zki, zki1, zk8, zk16, zo32, zlt0, zle0, zeq0, zgt0, zLe0, nI_ltI, nI_leI, nI_eq, nI_add, nI_clamp, vp_in_nI, zup_s, zup_n, upd_s, upd_n, ne_eq, not_true_eq_false, not_false_eq_true, zeq1, true_or, or_true]; done))
  · rw [pe_z (by omega)] at hQ
    refine zgo 40 [] ?_
    repeat' (first
      | (show vp_in _ _; simp (disch := first | omega | decide) only [h1, h3, zcn, zkpl, zki, zki1, zk8, zk16, zo32, zlt0, zle0, zeq0, zgt0, zLe0, nI_ltI, nI_leI, nI_eq, nI_add, nI_clamp, vp_in_nI, zup_s, zup_n, upd_s, upd_n, ne_eq, not_true_eq_false, not_false_eq_true]; done)
      | (intro hc; exfalso; simp (disch := first | omega | decide) only [h1, h3, zcn, zkpl, zki, zki1, zk8, zk16, zo32, zlt0, zle0, zeq0, zgt0, zLe0, nI_ltI, nI_leI, nI_eq, nI_add, nI_clamp, vp_in_nI, zup_s, zup_n, upd_s, upd_n, ne_eq, not_true_eq_false, not_false_eq_true] at hc <;> omega)
      | (intro hc; exact absurd rfl hc)
      | intro hc
      | apply And.intro
      | exact hQ
      | (show Q _ (SH, _); simp (disch := first | omega | decide) only [h1, h3, zcn, zkpl, zki, zki1, zk8, zk16, zo32, zlt0, zle0, zeq0, zgt0, zLe0, nI_ltI, nI_leI, nI_eq, nI_add, nI_clamp, vp_in_nI, zup_s, zup_n, upd_s, upd_n, ne_eq, not_true_eq_false, not_false_eq_true]; exact hQ)
      | exact Or.inl rfl
      | exact Or.inr rfl
      | (show (_ : Int32) = 0 ∨ _ = 1; simp (disch := first | omega | decide) only [h1, h3, zcn, zkpl, zki, zki1, zk8, zk16, zo32, zlt0, zle0, zeq0, zgt0, zLe0, nI_ltI, nI_leI, nI_eq, nI_add, nI_clamp, vp_in_nI, zup_s, zup_n, upd_s, upd_n, ne_eq, not_true_eq_false, not_false_eq_true, zeq1, true_or, or_true]; done))
theorem ev_tinc {w : Nat → Nat} {wl a : Nat} {m : zM} (h : tX w wl m a) : m 9 3 + Int32.ofInt 1 = nI (a + 1) := by rw [h.2.2, zki, nI_add]
theorem zup2 (m : zM) (a k : Nat) (v v' : Int32) : zup (zup m a k v) a k v' = zup m a k v' := by
  funext b j
  unfold zup upd
  split
  · simp only [if_true]
    split <;> rfl
  · rfl
theorem ev_skip {w : Nat → Nat} {wl : Nat} (ho : okT w wl) : ∀ (k a : Nat) (m : zM), tX w wl m a → a ≤ 310 → (∀ j, j < k → pe w wl (a + j) = 32) → pe w wl (a + k) ≠ 32 → Ev 87 [.ref 9] m none (zup m 9 3 (nI (a + k))) := by
  intro k
  induction k with
  | zero =>
    intro a m h ha _ h0 Q hQ
    have hl := ho.1
    have hp := pe_le ho (a + 0)
    have h1 := h.1
    have h3 := h.2.2
    rw [Nat.add_zero, zup_id h3] at hQ
    have f : ZW 87 (0, 0, 0, 0) 16 [(0, .ref 9)] [.int (nI (pe w wl (a + 0)))] (SH, m) Q := by
      refine zgo 20 [] ?_
      repeat' (first
        | (show vp_in _ _; simp (disch := first | omega | decide) only [zcn, zkpl, zki, zki1, zk8, zk16, zo32, zlt0, zle0, zeq0, zgt0, zLe0, nI_ltI, nI_leI, nI_eq, nI_add, nI_clamp, vp_in_nI, zup_s, zup_n, upd_s, upd_n, ne_eq, not_true_eq_false, not_false_eq_true]; done)
        | (intro hc; exfalso; simp (disch := first | omega | decide) only [zcn, zkpl, zki, zki1, zk8, zk16, zo32, zlt0, zle0, zeq0, zgt0, zLe0, nI_ltI, nI_leI, nI_eq, nI_add, nI_clamp, vp_in_nI, zup_s, zup_n, upd_s, upd_n, ne_eq, not_true_eq_false, not_false_eq_true] at hc <;> omega)
        | (intro hc; exact absurd rfl hc)
        | intro hc
        | apply And.intro
        | exact hQ
        | (show Q _ (SH, _); simp (disch := first | omega | decide) only [zcn, zkpl, zki, zki1, zk8, zk16, zo32, zlt0, zle0, zeq0, zgt0, zLe0, nI_ltI, nI_leI, nI_eq, nI_add, nI_clamp, vp_in_nI, zup_s, zup_n, upd_s, upd_n, ne_eq, not_true_eq_false, not_false_eq_true]; exact hQ)
        | exact Or.inl rfl
        | exact Or.inr rfl
        | (show (_ : Int32) = 0 ∨ _ = 1; simp (disch := first | omega | decide) only [zcn, zkpl, zki, zki1, zk8, zk16, zo32, zlt0, zle0, zeq0, zgt0, zLe0, nI_ltI, nI_leI, nI_eq, nI_add, nI_clamp, vp_in_nI, zup_s, zup_n, upd_s, upd_n, ne_eq, not_true_eq_false, not_false_eq_true, zeq1, true_or, or_true]; done))
    by_cases e : a < wl
    · refine zgo 20 [] ?_
      repeat' (first
        | (exact (ev_peek ho h 0 rfl (by omega) ha).use f)
        | (show vp_in _ _; simp (disch := first | omega | decide) only [h1, h3, zcn, zkpl, zki, zki1, zk8, zk16, zo32, zlt0, zle0, zeq0, zgt0, zLe0, nI_ltI, nI_leI, nI_eq, nI_add, nI_clamp, vp_in_nI, zup_s, zup_n, upd_s, upd_n, ne_eq, not_true_eq_false, not_false_eq_true]; done)
        | (intro hc; exfalso; simp (disch := first | omega | decide) only [h1, h3, zcn, zkpl, zki, zki1, zk8, zk16, zo32, zlt0, zle0, zeq0, zgt0, zLe0, nI_ltI, nI_leI, nI_eq, nI_add, nI_clamp, vp_in_nI, zup_s, zup_n, upd_s, upd_n, ne_eq, not_true_eq_false, not_false_eq_true] at hc <;> omega)
        | (intro hc; exact absurd rfl hc)
        | intro hc
        | apply And.intro
        | exact Or.inl rfl
        | exact Or.inr rfl
        | (show (_ : Int32) = 0 ∨ _ = 1; simp (disch := first | omega | decide) only [h1, h3, zcn, zkpl, zki, zki1, zk8, zk16, zo32, zlt0, zle0, zeq0, zgt0, zLe0, nI_ltI, nI_leI, nI_eq, nI_add, nI_clamp, vp_in_nI, zup_s, zup_n, upd_s, upd_n, ne_eq, not_true_eq_false, not_false_eq_true, zeq1, true_or, or_true]; done))
    · refine zgo 20 [] ?_
      repeat' (first
        | (show vp_in _ _; simp (disch := first | omega | decide) only [h1, h3, zcn, zkpl, zki, zki1, zk8, zk16, zo32, zlt0, zle0, zeq0, zgt0, zLe0, nI_ltI, nI_leI, nI_eq, nI_add, nI_clamp, vp_in_nI, zup_s, zup_n, upd_s, upd_n, ne_eq, not_true_eq_false, not_false_eq_true]; done)
        | (intro hc; exfalso; simp (disch := first | omega | decide) only [h1, h3, zcn, zkpl, zki, zki1, zk8, zk16, zo32, zlt0, zle0, zeq0, zgt0, zLe0, nI_ltI, nI_leI, nI_eq, nI_add, nI_clamp, vp_in_nI, zup_s, zup_n, upd_s, upd_n, ne_eq, not_true_eq_false, not_false_eq_true] at hc <;> omega)
        | (intro hc; exact absurd rfl hc)
        | intro hc
        | apply And.intro
        | exact hQ
        | (show Q _ (SH, _); simp (disch := first | omega | decide) only [h1, h3, zcn, zkpl, zki, zki1, zk8, zk16, zo32, zlt0, zle0, zeq0, zgt0, zLe0, nI_ltI, nI_leI, nI_eq, nI_add, nI_clamp, vp_in_nI, zup_s, zup_n, upd_s, upd_n, ne_eq, not_true_eq_false, not_false_eq_true]; exact hQ)
        | exact Or.inl rfl
        | exact Or.inr rfl
        | (show (_ : Int32) = 0 ∨ _ = 1; simp (disch := first | omega | decide) only [h1, h3, zcn, zkpl, zki, zki1, zk8, zk16, zo32, zlt0, zle0, zeq0, zgt0, zLe0, nI_ltI, nI_leI, nI_eq, nI_add, nI_clamp, vp_in_nI, zup_s, zup_n, upd_s, upd_n, ne_eq, not_true_eq_false, not_false_eq_true, zeq1, true_or, or_true]; done))
  | succ k ih =>
    intro a m h ha hb h0 Q hQ
    have hl := ho.1
    have hp := hb 0 (by omega)
    have e : a < wl := pe_in (w := w) (j := a + 0) (by omega)
    have w2 := ih (a + 1) _ (h.mv (a + 1)) (by omega) (fun j hj => by rw [show a + 1 + j = a + (j + 1) by omega]; exact hb _ (by omega)) (by rw [show a + 1 + k = a + (k + 1) by omega]; exact h0) Q (by
      rw [zup2, show a + 1 + k = a + (k + 1) by omega]
      exact hQ)
    have e1 := ev_tinc h
    have f : ZW 87 (0, 0, 0, 0) 16 [(0, .ref 9)] [.int (nI (pe w wl (a + 0)))] (SH, m) Q := by
      refine zgo 20 [] ?_
      repeat' (first
        | (exact zcg (by rw [← e1]) w2)
        | (show vp_in _ _; simp (disch := first | omega | decide) only [zcn, zkpl, zki, zki1, zk8, zk16, zo32, zlt0, zle0, zeq0, zgt0, zLe0, nI_ltI, nI_leI, nI_eq, nI_add, nI_clamp, vp_in_nI, zup_s, zup_n, upd_s, upd_n, ne_eq, not_true_eq_false, not_false_eq_true]; done)
        | (intro hc; exfalso; simp (disch := first | omega | decide) only [zcn, zkpl, zki, zki1, zk8, zk16, zo32, zlt0, zle0, zeq0, zgt0, zLe0, nI_ltI, nI_leI, nI_eq, nI_add, nI_clamp, vp_in_nI, zup_s, zup_n, upd_s, upd_n, ne_eq, not_true_eq_false, not_false_eq_true] at hc <;> omega)
        | (intro hc; exact absurd rfl hc)
        | intro hc
        | apply And.intro
        | exact Or.inl rfl
        | exact Or.inr rfl
        | (show (_ : Int32) = 0 ∨ _ = 1; simp (disch := first | omega | decide) only [zcn, zkpl, zki, zki1, zk8, zk16, zo32, zlt0, zle0, zeq0, zgt0, zLe0, nI_ltI, nI_leI, nI_eq, nI_add, nI_clamp, vp_in_nI, zup_s, zup_n, upd_s, upd_n, ne_eq, not_true_eq_false, not_false_eq_true, zeq1, true_or, or_true]; done))
    have h1 := h.1
    have h3 := h.2.2
    refine zgo 20 [] ?_
    repeat' (first
      | (exact (ev_peek ho h 0 rfl (by omega) ha).use f)
      | (show vp_in _ _; simp (disch := first | omega | decide) only [h1, h3, zcn, zkpl, zki, zki1, zk8, zk16, zo32, zlt0, zle0, zeq0, zgt0, zLe0, nI_ltI, nI_leI, nI_eq, nI_add, nI_clamp, vp_in_nI, zup_s, zup_n, upd_s, upd_n, ne_eq, not_true_eq_false, not_false_eq_true]; done)
      | (intro hc; exfalso; simp (disch := first | omega | decide) only [h1, h3, zcn, zkpl, zki, zki1, zk8, zk16, zo32, zlt0, zle0, zeq0, zgt0, zLe0, nI_ltI, nI_leI, nI_eq, nI_add, nI_clamp, vp_in_nI, zup_s, zup_n, upd_s, upd_n, ne_eq, not_true_eq_false, not_false_eq_true] at hc <;> omega)
      | (intro hc; exact absurd rfl hc)
      | intro hc
      | apply And.intro
      | exact Or.inl rfl
      | exact Or.inr rfl
      | (show (_ : Int32) = 0 ∨ _ = 1; simp (disch := first | omega | decide) only [h1, h3, zcn, zkpl, zki, zki1, zk8, zk16, zo32, zlt0, zle0, zeq0, zgt0, zLe0, nI_ltI, nI_leI, nI_eq, nI_add, nI_clamp, vp_in_nI, zup_s, zup_n, upd_s, upd_n, ne_eq, not_true_eq_false, not_false_eq_true, zeq1, true_or, or_true]; done))
theorem sk_ex (w : Nat → Nat) (wl a : Nat) : ∃ k, (∀ j, j < k → pe w wl (a + j) = 32) ∧ pe w wl (a + k) ≠ 32 ∧ (a ≤ wl → a + k ≤ wl) := by
  generalize hn : wl - a = n
  induction n generalizing a with
  | zero => exact ⟨0, fun j hj => absurd hj (by omega), by rw [pe_z (by omega)]; decide, fun h => h⟩
  | succ n ih =>
    by_cases e : pe w wl a = 32
    · obtain ⟨k, h1, h2, h3⟩ := ih (a + 1) (by omega)
      refine ⟨k + 1, fun j hj => ?_, by rw [show a + (k + 1) = a + 1 + k by omega]; exact h2, fun h => by have := h3 (by omega); omega⟩
      rcases Nat.eq_zero_or_pos j with rfl | hj0
      · exact e
      · rw [show a + j = a + 1 + (j - 1) by omega]
        exact h1 _ (by omega)
    · exact ⟨0, fun j hj => absurd hj (by omega), e, fun h => h⟩
/-- the class's tree: 0: -, elements, characters, depth; 2 letters, 3 depths, 4 begins, 5 ends, 6 written, 7 path, 8 characters, 9 parents -/
def tD (m : zM) (s : pS) : Prop := (m 1 5 = nI (s 0 1) ∧ m 1 9 = nI (s 0 2) ∧ m 1 7 = nI (s 0 3)) ∧ (aR (m 2) (s 2) (s 0 1) ∧ aR (m 3) (s 3) (s 0 1) ∧ aR (m 4) (s 4) (s 0 1) ∧ aR (m 5) (s 5) (s 0 1) ∧ aR (m 6) (s 6) (s 0 1)) ∧ aR (m 7) (s 7) (s 0 3) ∧ aR (m 8) (s 8) (s 0 2)
/-- what the reader keeps, a characters read -/
def sI (a : Nat) (s : pS) : Prop := (4 * s 0 1 ≤ a + s 0 3 ∧ s 0 2 ≤ a ∧ s 0 3 ≤ 4) ∧ (∀ i, i < s 0 1 → (65 ≤ s 2 i ∧ s 2 i ≤ 122) ∧ (s 4 i ≤ s 5 i ∧ s 5 i ≤ s 0 2) ∧ s 6 i ≤ 1) ∧ (∀ j, j < s 0 2 → 32 ≤ s 8 j ∧ s 8 j ≤ 126) ∧ (∀ j, j < s 0 3 → s 7 j < s 0 1 ∧ s 3 (s 7 j) = j ∧ ∀ i, s 7 j < i → i < s 0 1 → j < s 3 i) ∧ (0 < s 0 1 → s 3 0 = 0) ∧ (∀ i, 0 < i → i < s 0 1 → s 9 i < i ∧ s 3 (s 9 i) + 1 = s 3 i ∧ ∀ j, s 9 i < j → j < i → s 3 i ≤ s 3 j)
theorem tX.cg {w : Nat → Nat} {wl a : Nat} {m m' : zM} (h : tX w wl m a) (h1 : m' 9 = m 9) (h2 : m' 10 = m 10) : tX w wl m' a := by
  unfold tX
  rw [h1, h2]
  exact h
theorem tD.cg {m m' : zM} {s : pS} (h : tD m s) (h1 : ∀ a, a < 9 → m' a = m a) : tD m' s := by
  unfold tD
  rw [h1 1 (by decide), h1 2 (by decide), h1 3 (by decide), h1 4 (by decide), h1 5 (by decide), h1 6 (by decide), h1 7 (by decide), h1 8 (by decide)]
  exact h
theorem vch {b : Nat} (h : b < 256) : vp_nar .char (nI b) = nI b := by
  have : ∀ b : Fin 256, vp_nar .char (nI b.val) = nI b.val := by decide +kernel
  exact this ⟨b, h⟩
theorem zboo0 : vp_nar .boolean (nI 0) = nI 0 := by decide
theorem zboo1n : vp_nar .boolean (nI 1) = nI 1 := by decide
theorem et_end {m : zM} {s : pS} {a : Nat} (h : tD m s) (hi : sI a s) {N : Nat} (hN : s 0 1 = N) (hN2 : N ≤ 75) {c d : Nat} (hd : s 0 3 = d + 1) (hc8 : c ≤ 126) {b : Int32} (hb : (b = 1 ∧ s 2 (s 7 d) = c) ∨ (b = 0 ∧ s 2 (s 7 d) ≠ c)) : Ev 113 [.ref 1, .int (nI c)] m (some (.int b)) (if b = 1 then zup (zup m 5 (s 7 d) (nI (s 0 2))) 1 7 (nI d) else m) := by
  obtain ⟨⟨h2, h3, h4⟩, ⟨h5, h6⟩, h7, h8⟩ := h
  obtain ⟨p1, p2, p3⟩ := hi.2.2.2.1 d (by omega)
  have p4 := hi.1.2.2
  obtain ⟨q1, q2⟩ := hi.2.1 _ p1
  have e7 := h7 d (by omega)
  have e2 := h5 _ p1
  rw [hd] at h4
  rw [hN] at h2 p1
  generalize s 7 d = k at *
  have e8 : nI (d + 1) - Int32.ofInt 1 = nI d := by rw [zki, pk_sub (by omega), Nat.add_sub_cancel]
  intro Q hQ
  rcases hb with ⟨rfl, hb⟩ | ⟨rfl, hb⟩
  · rw [if_pos rfl] at hQ
    refine zgo 60 [121, 122] ?_
    repeat' (first
      | (show vp_in _ _; simp (disch := first | omega | decide) only [h4, h2, e7, e2, pk_sub, Nat.add_sub_cancel, h3, zcn, zkpl, zki, zki1, zk8, zk16, zo32, zlt0, zle0, zeq0, zgt0, zLe0, nI_ltI, nI_leI, nI_eq, nI_add, nI_clamp, vp_in_nI, zup_s, zup_n, upd_s, upd_n, ne_eq, not_true_eq_false, not_false_eq_true]; done)
      | (intro hc; exfalso; simp (disch := first | omega | decide) only [h4, h2, e7, e2, pk_sub, Nat.add_sub_cancel, h3, zcn, zkpl, zki, zki1, zk8, zk16, zo32, zlt0, zle0, zeq0, zgt0, zLe0, nI_ltI, nI_leI, nI_eq, nI_add, nI_clamp, vp_in_nI, zup_s, zup_n, upd_s, upd_n, ne_eq, not_true_eq_false, not_false_eq_true] at hc <;> omega)
      | (intro hc; exact absurd rfl hc)
      | intro hc
      | apply And.intro
      | exact hQ
      | (show Q _ (SH, _); simp (disch := first | omega | decide) only [h4, h2, e7, e2, pk_sub, Nat.add_sub_cancel, h3, zcn, zkpl, zki, zki1, zk8, zk16, zo32, zlt0, zle0, zeq0, zgt0, zLe0, nI_ltI, nI_leI, nI_eq, nI_add, nI_clamp, vp_in_nI, zup_s, zup_n, upd_s, upd_n, ne_eq, not_true_eq_false, not_false_eq_true]; exact hQ)
      | exact Or.inl rfl
      | exact Or.inr rfl
      | (show (_ : Int32) = 0 ∨ _ = 1; simp (disch := first | omega | decide) only [h4, h2, e7, e2, pk_sub, Nat.add_sub_cancel, h3, zcn, zkpl, zki, zki1, zk8, zk16, zo32, zlt0, zle0, zeq0, zgt0, zLe0, nI_ltI, nI_leI, nI_eq, nI_add, nI_clamp, vp_in_nI, zup_s, zup_n, upd_s, upd_n, ne_eq, not_true_eq_false, not_false_eq_true, zeq1, true_or, or_true]; done))
  · rw [if_neg (by decide)] at hQ
    refine zgo 60 [121, 122] ?_
    repeat' (first
      | (show vp_in _ _; simp (disch := first | omega | decide) only [h4, h2, e7, e2, pk_sub, Nat.add_sub_cancel, h3, zcn, zkpl, zki, zki1, zk8, zk16, zo32, zlt0, zle0, zeq0, zgt0, zLe0, nI_ltI, nI_leI, nI_eq, nI_add, nI_clamp, vp_in_nI, zup_s, zup_n, upd_s, upd_n, ne_eq, not_true_eq_false, not_false_eq_true]; done)
      | (intro hc; exfalso; simp (disch := first | omega | decide) only [h4, h2, e7, e2, pk_sub, Nat.add_sub_cancel, h3, zcn, zkpl, zki, zki1, zk8, zk16, zo32, zlt0, zle0, zeq0, zgt0, zLe0, nI_ltI, nI_leI, nI_eq, nI_add, nI_clamp, vp_in_nI, zup_s, zup_n, upd_s, upd_n, ne_eq, not_true_eq_false, not_false_eq_true] at hc <;> omega)
      | (intro hc; exact absurd rfl hc)
      | intro hc
      | apply And.intro
      | exact hQ
      | (show Q _ (SH, _); simp (disch := first | omega | decide) only [h4, h2, e7, e2, pk_sub, Nat.add_sub_cancel, h3, zcn, zkpl, zki, zki1, zk8, zk16, zo32, zlt0, zle0, zeq0, zgt0, zLe0, nI_ltI, nI_leI, nI_eq, nI_add, nI_clamp, vp_in_nI, zup_s, zup_n, upd_s, upd_n, ne_eq, not_true_eq_false, not_false_eq_true]; exact hQ)
      | exact Or.inl rfl
      | exact Or.inr rfl
      | (show (_ : Int32) = 0 ∨ _ = 1; simp (disch := first | omega | decide) only [h4, h2, e7, e2, pk_sub, Nat.add_sub_cancel, h3, zcn, zkpl, zki, zki1, zk8, zk16, zo32, zlt0, zle0, zeq0, zgt0, zLe0, nI_ltI, nI_leI, nI_eq, nI_add, nI_clamp, vp_in_nI, zup_s, zup_n, upd_s, upd_n, ne_eq, not_true_eq_false, not_false_eq_true, zeq1, true_or, or_true]; done))
theorem et_end0 {m : zM} {x : Int32} (h : m 1 7 = nI 0) : Ev 113 [.ref 1, .int x] m (some (.int 0)) m := by
  intro Q hQ
  refine zgo 60 [121, 122] ?_
  repeat' (first
    | (show vp_in _ _; simp (disch := first | omega | decide) only [h, zcn, zkpl, zki, zki1, zk8, zk16, zo32, zlt0, zle0, zeq0, zgt0, zLe0, nI_ltI, nI_leI, nI_eq, nI_add, nI_clamp, vp_in_nI, zup_s, zup_n, upd_s, upd_n, ne_eq, not_true_eq_false, not_false_eq_true]; done)
    | (intro hc; exfalso; simp (disch := first | omega | decide) only [h, zcn, zkpl, zki, zki1, zk8, zk16, zo32, zlt0, zle0, zeq0, zgt0, zLe0, nI_ltI, nI_leI, nI_eq, nI_add, nI_clamp, vp_in_nI, zup_s, zup_n, upd_s, upd_n, ne_eq, not_true_eq_false, not_false_eq_true] at hc <;> omega)
    | (intro hc; exact absurd rfl hc)
    | intro hc
    | apply And.intro
    | exact hQ
    | (show Q _ (SH, _); simp (disch := first | omega | decide) only [h, zcn, zkpl, zki, zki1, zk8, zk16, zo32, zlt0, zle0, zeq0, zgt0, zLe0, nI_ltI, nI_leI, nI_eq, nI_add, nI_clamp, vp_in_nI, zup_s, zup_n, upd_s, upd_n, ne_eq, not_true_eq_false, not_false_eq_true]; exact hQ)
    | exact Or.inl rfl
    | exact Or.inr rfl
    | (show (_ : Int32) = 0 ∨ _ = 1; simp (disch := first | omega | decide) only [h, zcn, zkpl, zki, zki1, zk8, zk16, zo32, zlt0, zle0, zeq0, zgt0, zLe0, nI_ltI, nI_leI, nI_eq, nI_add, nI_clamp, vp_in_nI, zup_s, zup_n, upd_s, upd_n, ne_eq, not_true_eq_false, not_false_eq_true, zeq1, true_or, or_true]; done))
theorem et_add {m : zM} {s : pS} {a : Nat} (h : tD m s) (hi : sI a s) (hN2 : s 0 1 ≤ 75) (hL : s 0 2 < 300) {c d : Nat} (hd : s 0 3 = d + 1) (hc8 : c ≤ 126) : Ev 114 [.ref 1, .int (nI c)] m (some (.int 1)) (if c = 32 then zup (zup m 8 (s 0 2) (nI c)) 1 9 (nI (s 0 2 + 1)) else zup (zup (zup m 8 (s 0 2) (nI c)) 1 9 (nI (s 0 2 + 1))) 6 (s 7 d) (nI 1)) := by
  obtain ⟨⟨h2, h3, h4⟩, ⟨h5, h6⟩, h7, h8⟩ := h
  obtain ⟨p1, p2, p3⟩ := hi.2.2.2.1 d (by omega)
  have p4 := hi.1.2.2
  have e7 := h7 d (by omega)
  rw [hd] at h4
  generalize s 7 d = k at *
  generalize s 0 1 = N at *
  generalize s 0 2 = L at *
  have e8 : nI (d + 1) - Int32.ofInt 1 = nI d := by rw [zki, pk_sub (by omega), Nat.add_sub_cancel]
  intro Q hQ
  by_cases e : c = 32
  · rw [if_pos e] at hQ
    refine zgo 60 [121, 122] ?_
    repeat' (first
      | (show vp_in _ _; simp (disch := first | omega | decide) only [h4, h2, e7, pk_sub, Nat.add_sub_cancel, h3, zcn, zkpl, zki, zki1, zk8, zk16, zo32, zlt0, zle0, zeq0, zgt0, zLe0, nI_ltI, nI_leI, nI_eq, nI_add, nI_clamp, vp_in_nI, zup_s, zup_n, upd_s, upd_n, ne_eq, not_true_eq_false, not_false_eq_true]; done)
      | (intro hc; exfalso; simp (disch := first | omega | decide) only [h4, h2, e7, pk_sub, Nat.add_sub_cancel, h3, zcn, zkpl, zki, zki1, zk8, zk16, zo32, zlt0, zle0, zeq0, zgt0, zLe0, nI_ltI, nI_leI, nI_eq, nI_add, nI_clamp, vp_in_nI, zup_s, zup_n, upd_s, upd_n, ne_eq, not_true_eq_false, not_false_eq_true] at hc <;> omega)
      | (intro hc; exact absurd rfl hc)
      | intro hc
      | apply And.intro
      | exact hQ
      | (show Q _ (SH, _); simp (disch := first | omega | decide) only [h4, h2, e7, pk_sub, Nat.add_sub_cancel, h3, zcn, zkpl, zki, zki1, zk8, zk16, zo32, zlt0, zle0, zeq0, zgt0, zLe0, nI_ltI, nI_leI, nI_eq, nI_add, nI_clamp, vp_in_nI, zup_s, zup_n, upd_s, upd_n, ne_eq, not_true_eq_false, not_false_eq_true]; exact hQ)
      | exact Or.inl rfl
      | exact Or.inr rfl
      | (show (_ : Int32) = 0 ∨ _ = 1; simp (disch := first | omega | decide) only [h4, h2, e7, pk_sub, Nat.add_sub_cancel, h3, zcn, zkpl, zki, zki1, zk8, zk16, zo32, zlt0, zle0, zeq0, zgt0, zLe0, nI_ltI, nI_leI, nI_eq, nI_add, nI_clamp, vp_in_nI, zup_s, zup_n, upd_s, upd_n, ne_eq, not_true_eq_false, not_false_eq_true, zeq1, true_or, or_true]; done))
  · rw [if_neg e] at hQ
    refine zgo 60 [121, 122] ?_
    repeat' (first
      | (show vp_in _ _; simp (disch := first | omega | decide) only [h4, h2, e7, pk_sub, Nat.add_sub_cancel, h3, zboo1n, zcn, zkpl, zki, zki1, zk8, zk16, zo32, zlt0, zle0, zeq0, zgt0, zLe0, nI_ltI, nI_leI, nI_eq, nI_add, nI_clamp, vp_in_nI, zup_s, zup_n, upd_s, upd_n, ne_eq, not_true_eq_false, not_false_eq_true]; done)
      | (intro hc; exfalso; simp (disch := first | omega | decide) only [h4, h2, e7, pk_sub, Nat.add_sub_cancel, h3, zboo1n, zcn, zkpl, zki, zki1, zk8, zk16, zo32, zlt0, zle0, zeq0, zgt0, zLe0, nI_ltI, nI_leI, nI_eq, nI_add, nI_clamp, vp_in_nI, zup_s, zup_n, upd_s, upd_n, ne_eq, not_true_eq_false, not_false_eq_true] at hc <;> omega)
      | (intro hc; exact absurd rfl hc)
      | intro hc
      | apply And.intro
      | exact hQ
      | (show Q _ (SH, _); simp (disch := first | omega | decide) only [h4, h2, e7, pk_sub, Nat.add_sub_cancel, h3, zboo1n, zcn, zkpl, zki, zki1, zk8, zk16, zo32, zlt0, zle0, zeq0, zgt0, zLe0, nI_ltI, nI_leI, nI_eq, nI_add, nI_clamp, vp_in_nI, zup_s, zup_n, upd_s, upd_n, ne_eq, not_true_eq_false, not_false_eq_true]; exact hQ)
      | exact Or.inl rfl
      | exact Or.inr rfl
      | (show (_ : Int32) = 0 ∨ _ = 1; simp (disch := first | omega | decide) only [h4, h2, e7, pk_sub, Nat.add_sub_cancel, h3, zboo1n, zcn, zkpl, zki, zki1, zk8, zk16, zo32, zlt0, zle0, zeq0, zgt0, zLe0, nI_ltI, nI_leI, nI_eq, nI_add, nI_clamp, vp_in_nI, zup_s, zup_n, upd_s, upd_n, ne_eq, not_true_eq_false, not_false_eq_true, zeq1, true_or, or_true]; done))
theorem et_add0 {m : zM} {x : Int32} (h : m 1 7 = nI 0) : Ev 114 [.ref 1, .int x] m (some (.int 0)) m := by
  intro Q hQ
  refine zgo 60 [121, 122] ?_
  repeat' (first
    | (show vp_in _ _; simp (disch := first | omega | decide) only [h, zcn, zkpl, zki, zki1, zk8, zk16, zo32, zlt0, zle0, zeq0, zgt0, zLe0, nI_ltI, nI_leI, nI_eq, nI_add, nI_clamp, vp_in_nI, zup_s, zup_n, upd_s, upd_n, ne_eq, not_true_eq_false, not_false_eq_true]; done)
    | (intro hc; exfalso; simp (disch := first | omega | decide) only [h, zcn, zkpl, zki, zki1, zk8, zk16, zo32, zlt0, zle0, zeq0, zgt0, zLe0, nI_ltI, nI_leI, nI_eq, nI_add, nI_clamp, vp_in_nI, zup_s, zup_n, upd_s, upd_n, ne_eq, not_true_eq_false, not_false_eq_true] at hc <;> omega)
    | (intro hc; exact absurd rfl hc)
    | intro hc
    | apply And.intro
    | exact hQ
    | (show Q _ (SH, _); simp (disch := first | omega | decide) only [h, zcn, zkpl, zki, zki1, zk8, zk16, zo32, zlt0, zle0, zeq0, zgt0, zLe0, nI_ltI, nI_leI, nI_eq, nI_add, nI_clamp, vp_in_nI, zup_s, zup_n, upd_s, upd_n, ne_eq, not_true_eq_false, not_false_eq_true]; exact hQ)
    | exact Or.inl rfl
    | exact Or.inr rfl
    | (show (_ : Int32) = 0 ∨ _ = 1; simp (disch := first | omega | decide) only [h, zcn, zkpl, zki, zki1, zk8, zk16, zo32, zlt0, zle0, zeq0, zgt0, zLe0, nI_ltI, nI_leI, nI_eq, nI_add, nI_clamp, vp_in_nI, zup_s, zup_n, upd_s, upd_n, ne_eq, not_true_eq_false, not_false_eq_true, zeq1, true_or, or_true]; done))
def cbg (m : zM) (c N d L : Nat) : zM := zup (zup (zup (zup (zup (zup (zup (zup m 2 N (nI c)) 3 N (nI d)) 4 N (nI L)) 5 N (nI L)) 6 N (nI 0)) 7 d (nI N)) 1 7 (nI (d + 1))) 1 5 (nI (N + 1))
theorem et_begin {m : zM} {c N d L : Nat} (h2 : m 1 5 = nI N) (h3 : m 1 9 = nI L) (h4 : m 1 7 = nI d) (hN : N < 75) (hd : d < 4) (h0 : d = 0 → N = 0) (hL : L ≤ 300) : Ev 112 [.ref 1, .int (nI c)] m (some (.int 1)) (cbg m c N d L) := by
  intro Q hQ
  unfold cbg at hQ
  by_cases e : d = 0
  · have := h0 e
    subst this
    subst e
    refine zgo 80 [] ?_
    repeat' (first
      | (show vp_in _ _; simp (disch := first | omega | decide) only [h2, h3, h4, zboo0, zcn, zkpl, zki, zki1, zk8, zk16, zo32, zlt0, zle0, zeq0, zgt0, zLe0, nI_ltI, nI_leI, nI_eq, nI_add, nI_clamp, vp_in_nI, zup_s, zup_n, upd_s, upd_n, ne_eq, not_true_eq_false, not_false_eq_true]; done)
      | (intro hc; exfalso; simp (disch := first | omega | decide) only [h2, h3, h4, zboo0, zcn, zkpl, zki, zki1, zk8, zk16, zo32, zlt0, zle0, zeq0, zgt0, zLe0, nI_ltI, nI_leI, nI_eq, nI_add, nI_clamp, vp_in_nI, zup_s, zup_n, upd_s, upd_n, ne_eq, not_true_eq_false, not_false_eq_true] at hc <;> omega)
      | (intro hc; exact absurd rfl hc)
      | intro hc
      | apply And.intro
      | exact hQ
      | (show Q _ (SH, _); simp (disch := first | omega | decide) only [h2, h3, h4, zboo0, zcn, zkpl, zki, zki1, zk8, zk16, zo32, zlt0, zle0, zeq0, zgt0, zLe0, nI_ltI, nI_leI, nI_eq, nI_add, nI_clamp, vp_in_nI, zup_s, zup_n, upd_s, upd_n, ne_eq, not_true_eq_false, not_false_eq_true]; exact hQ)
      | exact Or.inl rfl
      | exact Or.inr rfl
      | (show (_ : Int32) = 0 ∨ _ = 1; simp (disch := first | omega | decide) only [h2, h3, h4, zboo0, zcn, zkpl, zki, zki1, zk8, zk16, zo32, zlt0, zle0, zeq0, zgt0, zLe0, nI_ltI, nI_leI, nI_eq, nI_add, nI_clamp, vp_in_nI, zup_s, zup_n, upd_s, upd_n, ne_eq, not_true_eq_false, not_false_eq_true, zeq1, true_or, or_true]; done))
  · refine zgo 80 [] ?_
    repeat' (first
      | (show vp_in _ _; simp (disch := first | omega | decide) only [h2, h3, h4, zboo0, zcn, zkpl, zki, zki1, zk8, zk16, zo32, zlt0, zle0, zeq0, zgt0, zLe0, nI_ltI, nI_leI, nI_eq, nI_add, nI_clamp, vp_in_nI, zup_s, zup_n, upd_s, upd_n, ne_eq, not_true_eq_false, not_false_eq_true]; done)
      | (intro hc; exfalso; simp (disch := first | omega | decide) only [h2, h3, h4, zboo0, zcn, zkpl, zki, zki1, zk8, zk16, zo32, zlt0, zle0, zeq0, zgt0, zLe0, nI_ltI, nI_leI, nI_eq, nI_add, nI_clamp, vp_in_nI, zup_s, zup_n, upd_s, upd_n, ne_eq, not_true_eq_false, not_false_eq_true] at hc <;> omega)
      | (intro hc; exact absurd rfl hc)
      | intro hc
      | apply And.intro
      | exact hQ
      | (show Q _ (SH, _); simp (disch := first | omega | decide) only [h2, h3, h4, zboo0, zcn, zkpl, zki, zki1, zk8, zk16, zo32, zlt0, zle0, zeq0, zgt0, zLe0, nI_ltI, nI_leI, nI_eq, nI_add, nI_clamp, vp_in_nI, zup_s, zup_n, upd_s, upd_n, ne_eq, not_true_eq_false, not_false_eq_true]; exact hQ)
      | exact Or.inl rfl
      | exact Or.inr rfl
      | (show (_ : Int32) = 0 ∨ _ = 1; simp (disch := first | omega | decide) only [h2, h3, h4, zboo0, zcn, zkpl, zki, zki1, zk8, zk16, zo32, zlt0, zle0, zeq0, zgt0, zLe0, nI_ltI, nI_leI, nI_eq, nI_add, nI_clamp, vp_in_nI, zup_s, zup_n, upd_s, upd_n, ne_eq, not_true_eq_false, not_false_eq_true, zeq1, true_or, or_true]; done))
theorem et_begin0 {m : zM} {x : Int32} {N d : Nat} (h2 : m 1 5 = nI N) (h4 : m 1 7 = nI d) (hN : N ≤ 75) (hd : d ≤ 4) (h0 : (d = 0 ∧ 0 < N) ∨ d = 4 ∨ N = 75) : Ev 112 [.ref 1, .int x] m (some (.int 0)) m := by
  intro Q hQ
  by_cases e : d = 0
  · by_cases e2 : N = 0
    · omega
    · refine zgo 80 [] ?_
      repeat' (first
        | (show vp_in _ _; simp (disch := first | omega | decide) only [h2, h4, zcn, zkpl, zki, zki1, zk8, zk16, zo32, zlt0, zle0, zeq0, zgt0, zLe0, nI_ltI, nI_leI, nI_eq, nI_add, nI_clamp, vp_in_nI, zup_s, zup_n, upd_s, upd_n, ne_eq, not_true_eq_false, not_false_eq_true]; done)
        | (intro hc; exfalso; simp (disch := first | omega | decide) only [h2, h4, zcn, zkpl, zki, zki1, zk8, zk16, zo32, zlt0, zle0, zeq0, zgt0, zLe0, nI_ltI, nI_leI, nI_eq, nI_add, nI_clamp, vp_in_nI, zup_s, zup_n, upd_s, upd_n, ne_eq, not_true_eq_false, not_false_eq_true] at hc <;> omega)
        | (intro hc; exact absurd rfl hc)
        | intro hc
        | apply And.intro
        | exact hQ
        | (show Q _ (SH, _); simp (disch := first | omega | decide) only [h2, h4, zcn, zkpl, zki, zki1, zk8, zk16, zo32, zlt0, zle0, zeq0, zgt0, zLe0, nI_ltI, nI_leI, nI_eq, nI_add, nI_clamp, vp_in_nI, zup_s, zup_n, upd_s, upd_n, ne_eq, not_true_eq_false, not_false_eq_true]; exact hQ)
        | exact Or.inl rfl
        | exact Or.inr rfl
        | (show (_ : Int32) = 0 ∨ _ = 1; simp (disch := first | omega | decide) only [h2, h4, zcn, zkpl, zki, zki1, zk8, zk16, zo32, zlt0, zle0, zeq0, zgt0, zLe0, nI_ltI, nI_leI, nI_eq, nI_add, nI_clamp, vp_in_nI, zup_s, zup_n, upd_s, upd_n, ne_eq, not_true_eq_false, not_false_eq_true, zeq1, true_or, or_true]; done))
  · by_cases e2 : d = 4
    · refine zgo 80 [] ?_
      repeat' (first
        | (show vp_in _ _; simp (disch := first | omega | decide) only [h2, h4, zcn, zkpl, zki, zki1, zk8, zk16, zo32, zlt0, zle0, zeq0, zgt0, zLe0, nI_ltI, nI_leI, nI_eq, nI_add, nI_clamp, vp_in_nI, zup_s, zup_n, upd_s, upd_n, ne_eq, not_true_eq_false, not_false_eq_true]; done)
        | (intro hc; exfalso; simp (disch := first | omega | decide) only [h2, h4, zcn, zkpl, zki, zki1, zk8, zk16, zo32, zlt0, zle0, zeq0, zgt0, zLe0, nI_ltI, nI_leI, nI_eq, nI_add, nI_clamp, vp_in_nI, zup_s, zup_n, upd_s, upd_n, ne_eq, not_true_eq_false, not_false_eq_true] at hc <;> omega)
        | (intro hc; exact absurd rfl hc)
        | intro hc
        | apply And.intro
        | exact hQ
        | (show Q _ (SH, _); simp (disch := first | omega | decide) only [h2, h4, zcn, zkpl, zki, zki1, zk8, zk16, zo32, zlt0, zle0, zeq0, zgt0, zLe0, nI_ltI, nI_leI, nI_eq, nI_add, nI_clamp, vp_in_nI, zup_s, zup_n, upd_s, upd_n, ne_eq, not_true_eq_false, not_false_eq_true]; exact hQ)
        | exact Or.inl rfl
        | exact Or.inr rfl
        | (show (_ : Int32) = 0 ∨ _ = 1; simp (disch := first | omega | decide) only [h2, h4, zcn, zkpl, zki, zki1, zk8, zk16, zo32, zlt0, zle0, zeq0, zgt0, zLe0, nI_ltI, nI_leI, nI_eq, nI_add, nI_clamp, vp_in_nI, zup_s, zup_n, upd_s, upd_n, ne_eq, not_true_eq_false, not_false_eq_true, zeq1, true_or, or_true]; done))
    · refine zgo 80 [] ?_
      repeat' (first
        | (show vp_in _ _; simp (disch := first | omega | decide) only [h2, h4, zcn, zkpl, zki, zki1, zk8, zk16, zo32, zlt0, zle0, zeq0, zgt0, zLe0, nI_ltI, nI_leI, nI_eq, nI_add, nI_clamp, vp_in_nI, zup_s, zup_n, upd_s, upd_n, ne_eq, not_true_eq_false, not_false_eq_true]; done)
        | (intro hc; exfalso; simp (disch := first | omega | decide) only [h2, h4, zcn, zkpl, zki, zki1, zk8, zk16, zo32, zlt0, zle0, zeq0, zgt0, zLe0, nI_ltI, nI_leI, nI_eq, nI_add, nI_clamp, vp_in_nI, zup_s, zup_n, upd_s, upd_n, ne_eq, not_true_eq_false, not_false_eq_true] at hc <;> omega)
        | (intro hc; exact absurd rfl hc)
        | intro hc
        | apply And.intro
        | exact hQ
        | (show Q _ (SH, _); simp (disch := first | omega | decide) only [h2, h4, zcn, zkpl, zki, zki1, zk8, zk16, zo32, zlt0, zle0, zeq0, zgt0, zLe0, nI_ltI, nI_leI, nI_eq, nI_add, nI_clamp, vp_in_nI, zup_s, zup_n, upd_s, upd_n, ne_eq, not_true_eq_false, not_false_eq_true]; exact hQ)
        | exact Or.inl rfl
        | exact Or.inr rfl
        | (show (_ : Int32) = 0 ∨ _ = 1; simp (disch := first | omega | decide) only [h2, h4, zcn, zkpl, zki, zki1, zk8, zk16, zo32, zlt0, zle0, zeq0, zgt0, zLe0, nI_ltI, nI_leI, nI_eq, nI_add, nI_clamp, vp_in_nI, zup_s, zup_n, upd_s, upd_n, ne_eq, not_true_eq_false, not_false_eq_true, zeq1, true_or, or_true]; done))
