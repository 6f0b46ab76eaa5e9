/-! the model's canonical form -/
def gd (u : zM) (s : pS) : Prop := mV u s ∧ ∀ e, 1 ≤ e → e < s 0 1 → kc (s 9) e (s 0 1) = 0 → tr1 u s e
theorem gd_A {u : zM} {s : pS} (h : gd u s) (c : Nat) (xs : List Nat) : gd (uA u c xs) s := by
  refine ⟨h.1.cg (uA_fld (by decide)) (fun a ha => uA_far (by omega) (by omega)), fun e h1 h2 h3 => ?_⟩
  unfold tr1
  rw [uA_far (by decide) (by decide), uA_far (by decide) (by decide)]
  exact h.2 e h1 h2 h3
theorem gd_uV {u : zM} {s : pS} (hs : mdy s) (h : gd u s) {e : Nat} (h1 : 1 ≤ e) (h2 : e < s 0 1) (h3 : kc (s 9) e (s 0 1) = 0) : uV u s e (tb s e) (vlen s e) := by
  have ht := h.2 e h1 h2 h3
  have hb := (hs.1.2.2 e h2).2.2.1
  obtain ⟨t1, t2, t3⟩ := tbe hb.1
  have := hs.1.2.1
  refine ⟨hs.1.1, h.1.2.2.1, ht.1, ?_, ?_, by omega⟩
  · rw [ht.2]
    unfold vlen
    congr 1
    omega
  · unfold vlen
    omega
def lfx (l : Nat) (xs : List Nat) : List Nat := [60, l, 62] ++ (xs ++ [60, 47, l, 62])
theorem es_lf {u : zM} {s : pS} (hs : mdy s) (h : gd u s) {e c : Nat} {xs : List Nat} (h1 : 1 ≤ e) (h2 : e < s 0 1) (h3 : kc (s 9) e (s 0 1) = 0) (hc : u 42 34 = nI c) (hc' : c + 20 ≤ 300) (hx : lfT s e xs) : Ev 188 [.ref 42, .int (nI e)] u none (uA u c (lfx (s 2 e) xs)) := es_lfO (gd_uV hs h h1 h2 h3) (h.1.2.1.1 e h2) (hs.1.2.2 e h2).1 hc hc' hx
def cnL (e : Nat) (R : zLs) : Prop := R = [(1, .int (nI e)), (0, .ref 42)] ∨ ∃ x y, R = [(1, .int (nI e)), (2, .int x), (3, .int y), (0, .ref 42)]
theorem cn_leaf {u : zM} {s : pS} (hs : mdy s) (h : gd u s) {e c : Nat} {xs : List Nat} (h1 : 1 ≤ e) (h2 : e < s 0 1) (h3 : kc (s 9) e (s 0 1) = 0) (hp : s 9 e = 0) (hc : u 42 34 = nI c) (hc' : c + 20 ≤ 300) (hx : lfT s e xs) (Q : zQ) (W : ∀ R, cnL (e + 1) R → ZW 189 (0, 0, 0, 0) 18 R [] (SH, uA u c (lfx (s 2 e) xs)) Q) : ∀ R, cnL e R → ZW 189 (0, 0, 0, 0) 18 R [] (SH, u) Q := by
  have hN := hs.1.2.1
  have s1 := es_lf hs h h1 h2 h3 hc hc' hx
  have e3 : nI e + Int32.ofInt 1 = nI (e + 1) := by rw [zki, nI_add]
  have g14 := h.1.1
  have g46 := h.1.2.2.2.2.2 e h2
  rw [h3] at g46
  have g45 := h.1.2.2.2.1 e (by omega) h2
  rw [hp] at g45
  have f91 : ∀ R, cnL e R → ZW 189 (0, 0, 0, 0) 91 R [] (SH, uA u c (lfx (s 2 e) xs)) Q := by
    intro R hR
    rcases hR with rfl | ⟨x, y, rfl⟩
    · have W1 := W _ (Or.inl rfl)
      rw [← e3] at W1
      refine zgo 5 [] ?_
      exact W1
    · have W1 := W _ (Or.inr ⟨x, y, rfl⟩)
      rw [← e3] at W1
      refine zgo 5 [] ?_
      exact W1
  intro R hR
  have f := f91 R hR
  generalize uA u c (lfx (s 2 e) xs) = u' at *
  generalize s 0 1 = N at *
  rcases hR with rfl | ⟨x, y, rfl⟩
  · refine zgo 30 [] ?_
    repeat' (first
      | (exact s1.use f)
      | (show vp_in _ _; simp (disch := first | omega | decide) only [g14, g46, g45, zcn, zkpl, zki, zki1, zk8, zk16, zo32, zlt0, zle0, zeq0, zgt0, zLe0, nI_ltI, nI_leI, nI_eq, nI_add, nI_clamp, vp_in_nI, zup_s, zup_n, upd_s, upd_n, ne_eq, not_true_eq_false, not_false_eq_true]; done)
      | (intro hc; exfalso; simp (disch := first | omega | decide) only [g14, g46, g45, zcn, zkpl, zki, zki1, zk8, zk16, zo32, zlt0, zle0, zeq0, zgt0, zLe0, nI_ltI, nI_leI, nI_eq, nI_add, nI_clamp, vp_in_nI, zup_s, zup_n, upd_s, upd_n, ne_eq, not_true_eq_false, not_false_eq_true] at hc <;> omega)
      | (intro hc; exact absurd rfl hc)
      | intro hc
      | apply And.intro
      | exact Or.inl rfl
      | exact Or.inr rfl
      | (show (_ : Int32) = 0 ∨ _ = 1; simp (disch := first | omega | decide) only [g14, g46, g45, zcn, zkpl, zki, zki1, zk8, zk16, zo32, zlt0, zle0, zeq0, zgt0, zLe0, nI_ltI, nI_leI, nI_eq, nI_add, nI_clamp, vp_in_nI, zup_s, zup_n, upd_s, upd_n, ne_eq, not_true_eq_false, not_false_eq_true, zeq1, true_or, or_true]; done))
  · refine zgo 30 [] ?_
    repeat' (first
      | (exact s1.use f)
      | (show vp_in _ _; simp (disch := first | omega | decide) only [g14, g46, g45, zcn, zkpl, zki, zki1, zk8, zk16, zo32, zlt0, zle0, zeq0, zgt0, zLe0, nI_ltI, nI_leI, nI_eq, nI_add, nI_clamp, vp_in_nI, zup_s, zup_n, upd_s, upd_n, ne_eq, not_true_eq_false, not_false_eq_true]; done)
      | (intro hc; exfalso; simp (disch := first | omega | decide) only [g14, g46, g45, zcn, zkpl, zki, zki1, zk8, zk16, zo32, zlt0, zle0, zeq0, zgt0, zLe0, nI_ltI, nI_leI, nI_eq, nI_add, nI_clamp, vp_in_nI, zup_s, zup_n, upd_s, upd_n, ne_eq, not_true_eq_false, not_false_eq_true] at hc <;> omega)
      | (intro hc; exact absurd rfl hc)
      | intro hc
      | apply And.intro
      | exact Or.inl rfl
      | exact Or.inr rfl
      | (show (_ : Int32) = 0 ∨ _ = 1; simp (disch := first | omega | decide) only [g14, g46, g45, zcn, zkpl, zki, zki1, zk8, zk16, zo32, zlt0, zle0, zeq0, zgt0, zLe0, nI_ltI, nI_leI, nI_eq, nI_add, nI_clamp, vp_in_nI, zup_s, zup_n, upd_s, upd_n, ne_eq, not_true_eq_false, not_false_eq_true, zeq1, true_or, or_true]; done))
theorem cn_skip {u : zM} {s : pS} (hs : mdy s) (h : gd u s) {e : Nat} (h1 : 1 ≤ e) (h2 : e < s 0 1) (h3 : kc (s 9) e (s 0 1) = 0) (hp : s 9 e ≠ 0) (Q : zQ) (W : ∀ R, cnL (e + 1) R → ZW 189 (0, 0, 0, 0) 18 R [] (SH, u) Q) : ∀ R, cnL e R → ZW 189 (0, 0, 0, 0) 18 R [] (SH, u) Q := by
  have hN := hs.1.2.1
  have e3 : nI e + Int32.ofInt 1 = nI (e + 1) := by rw [zki, nI_add]
  have g14 := h.1.1
  have g46 := h.1.2.2.2.2.2 e h2
  rw [h3] at g46
  have g45 := h.1.2.2.2.1 e (by omega) h2
  have hpl := hs.2 e (by omega) h2
  intro R hR
  rcases hR with rfl | ⟨x, y, rfl⟩
  · have W1 := W _ (Or.inl rfl)
    rw [← e3] at W1
    generalize s 0 1 = N at *
    generalize s 9 e = pp at *
    refine zgo 30 [] ?_
    repeat' (first
      | (exact W1)
      | (show vp_in _ _; simp (disch := first | omega | decide) only [g14, g46, g45, zcn, zkpl, zki, zki1, zk8, zk16, zo32, zlt0, zle0, zeq0, zgt0, zLe0, nI_ltI, nI_leI, nI_eq, nI_add, nI_clamp, vp_in_nI, zup_s, zup_n, upd_s, upd_n, ne_eq, not_true_eq_false, not_false_eq_true]; done)
      | (intro hc; exfalso; simp (disch := first | omega | decide) only [g14, g46, g45, zcn, zkpl, zki, zki1, zk8, zk16, zo32, zlt0, zle0, zeq0, zgt0, zLe0, nI_ltI, nI_leI, nI_eq, nI_add, nI_clamp, vp_in_nI, zup_s, zup_n, upd_s, upd_n, ne_eq, not_true_eq_false, not_false_eq_true] at hc <;> omega)
      | (intro hc; exact absurd rfl hc)
      | intro hc
      | apply And.intro
      | exact Or.inl rfl
      | exact Or.inr rfl
      | (show (_ : Int32) = 0 ∨ _ = 1; simp (disch := first | omega | decide) only [g14, g46, g45, zcn, zkpl, zki, zki1, zk8, zk16, zo32, zlt0, zle0, zeq0, zgt0, zLe0, nI_ltI, nI_leI, nI_eq, nI_add, nI_clamp, vp_in_nI, zup_s, zup_n, upd_s, upd_n, ne_eq, not_true_eq_false, not_false_eq_true, zeq1, true_or, or_true]; done))
  · have W1 := W _ (Or.inr ⟨x, y, rfl⟩)
    rw [← e3] at W1
    generalize s 0 1 = N at *
    generalize s 9 e = pp at *
    refine zgo 30 [] ?_
    repeat' (first
      | (exact W1)
      | (show vp_in _ _; simp (disch := first | omega | decide) only [g14, g46, g45, zcn, zkpl, zki, zki1, zk8, zk16, zo32, zlt0, zle0, zeq0, zgt0, zLe0, nI_ltI, nI_leI, nI_eq, nI_add, nI_clamp, vp_in_nI, zup_s, zup_n, upd_s, upd_n, ne_eq, not_true_eq_false, not_false_eq_true]; done)
      | (intro hc; exfalso; simp (disch := first | omega | decide) only [g14, g46, g45, zcn, zkpl, zki, zki1, zk8, zk16, zo32, zlt0, zle0, zeq0, zgt0, zLe0, nI_ltI, nI_leI, nI_eq, nI_add, nI_clamp, vp_in_nI, zup_s, zup_n, upd_s, upd_n, ne_eq, not_true_eq_false, not_false_eq_true] at hc <;> omega)
      | (intro hc; exact absurd rfl hc)
      | intro hc
      | apply And.intro
      | exact Or.inl rfl
      | exact Or.inr rfl
      | (show (_ : Int32) = 0 ∨ _ = 1; simp (disch := first | omega | decide) only [g14, g46, g45, zcn, zkpl, zki, zki1, zk8, zk16, zo32, zlt0, zle0, zeq0, zgt0, zLe0, nI_ltI, nI_leI, nI_eq, nI_add, nI_clamp, vp_in_nI, zup_s, zup_n, upd_s, upd_n, ne_eq, not_true_eq_false, not_false_eq_true, zeq1, true_or, or_true]; done))
def ciL (k e : Nat) (R : zLs) : Prop := R = [(2, .int (nI k)), (1, .int (nI e)), (0, .ref 42)] ∨ (∃ y, R = [(2, .int (nI k)), (1, .int (nI e)), (3, .int y), (0, .ref 42)]) ∨ ∃ y, R = [(2, .int (nI k)), (3, .int y), (1, .int (nI e)), (0, .ref 42)]
def itx (s : pS) (X : Nat → List Nat) (e : Nat) : Nat → Nat → List Nat
  | 0, _ => []
  | n + 1, k => lfx (s 2 (e + 1 + k)) (X (k + 1)) ++ itx s X e n (k + 1)
theorem ci_loop {s : pS} (hs : mdy s) {e : Nat} (he : e < 75) {X : Nat → List Nat} (hch : ∀ k, k < 4 → chF (s 9) e (s 0 1) 0 k = some (e + 1 + k) ∧ kc (s 9) (e + 1 + k) (s 0 1) = 0 ∧ lfT s (e + 1 + k) (X (k + 1))) (Q : zQ) : ∀ (n k : Nat) (u : zM) (c : Nat) (R : zLs), k + n = 4 → gd u s → u 42 34 = nI c → c + 20 * n ≤ 280 → (∀ k, k < 4 → (X (k + 1)).length ≤ 9) → ciL k e R → (k = 4 → ∃ y, R = [(2, .int (nI k)), (3, .int y), (1, .int (nI e)), (0, .ref 42)]) → (∀ y, ZW 189 (0, 0, 0, 0) 67 [(2, .int (nI 4)), (3, .int y), (1, .int (nI e)), (0, .ref 42)] [] (SH, uA u c (itx s X e n k)) Q) → ZW 189 (0, 0, 0, 0) 44 R [] (SH, u) Q := by
  have hN := hs.1.2.1
  intro n
  induction n with
  | zero =>
    intro k u c R hk hg h hc' _ _ hR W
    obtain rfl : k = 4 := by omega
    obtain ⟨y, rfl⟩ := hR rfl
    have W1 : ZW 189 (0, 0, 0, 0) 67 [(2, .int (nI 4)), (3, .int y), (1, .int (nI e)), (0, .ref 42)] [] (SH, u) Q := W y
    refine zgo 3 [] ?_
    repeat' (first
      | (exact W1)
      | (show vp_in _ _; simp (disch := first | omega | decide) only [zcn, zkpl, zki, zki1, zk8, zk16, zo32, zlt0, zle0, zeq0, zgt0, zLe0, nI_ltI, nI_leI, nI_eq, nI_add, nI_clamp, vp_in_nI, zup_s, zup_n, upd_s, upd_n, ne_eq, not_true_eq_false, not_false_eq_true]; done)
      | (intro hc; exfalso; simp (disch := first | omega | decide) only [zcn, zkpl, zki, zki1, zk8, zk16, zo32, zlt0, zle0, zeq0, zgt0, zLe0, nI_ltI, nI_leI, nI_eq, nI_add, nI_clamp, vp_in_nI, zup_s, zup_n, upd_s, upd_n, ne_eq, not_true_eq_false, not_false_eq_true] at hc <;> omega)
      | (intro hc; exact absurd rfl hc)
      | intro hc
      | apply And.intro
      | exact Or.inl rfl
      | exact Or.inr rfl
      | (show (_ : Int32) = 0 ∨ _ = 1; simp (disch := first | omega | decide) only [zcn, zkpl, zki, zki1, zk8, zk16, zo32, zlt0, zle0, zeq0, zgt0, zLe0, nI_ltI, nI_leI, nI_eq, nI_add, nI_clamp, vp_in_nI, zup_s, zup_n, upd_s, upd_n, ne_eq, not_true_eq_false, not_false_eq_true, zeq1, true_or, or_true]; done))
  | succ n ih =>
    intro k u c R hk hg h hc' hXl hR _ W
    obtain ⟨h1, h2, h3⟩ := hch k (by omega)
    obtain ⟨a1, a2, a3, a4⟩ := ch_some h1
    have e3 : nI k + Int32.ofInt 1 = nI (k + 1) := by rw [zki, nI_add]
    have hcd := es_child hg.1 hN hs.2 e k (x := nI e) (y := nI k) rfl rfl he (by omega)
    rw [h1] at hcd
    have s1 := es_lf hs hg (by omega) a2 h2 h (by omega) h3
    have hll : (lfx (s 2 (e + 1 + k)) (X (k + 1))).length ≤ 16 := by
      have := hXl k (by omega)
      unfold lfx
      simp only [List.length_append, List.length_cons, List.length_nil]
      omega
    have W1 := ih (k + 1) (uA u c (lfx (s 2 (e + 1 + k)) (X (k + 1)))) _ [(2, .int (nI (k + 1))), (3, .int (nI (e + 1 + k))), (1, .int (nI e)), (0, .ref 42)] (by omega) (gd_A hg _ _) (uA_cnt h _) (by omega) hXl (Or.inr (Or.inr ⟨_, rfl⟩)) (fun _ => ⟨_, rfl⟩) (fun y => by
      rw [uA_app]
      exact W y)
    rw [← e3] at W1
    have f61 : ZW 189 (0, 0, 0, 0) 61 [(3, .int (nI (e + 1 + k))), (2, .int (nI k)), (1, .int (nI e)), (0, .ref 42)] [] (SH, uA u c (lfx (s 2 (e + 1 + k)) (X (k + 1)))) Q := by
      refine zgo 5 [] ?_
      exact W1
    have f55 : ∀ R, ciL k e R → ZW 189 (0, 0, 0, 0) 55 R [.int (nI (e + 1 + k))] (SH, u) Q := by
      intro R hR
      rcases hR with rfl | ⟨y, rfl⟩ | ⟨y, rfl⟩
      · refine zgo 10 [] ?_
        repeat' (first
          | (exact s1.use f61)
          | (show vp_in _ _; simp (disch := first | omega | decide) only [zcn, zkpl, zki, zki1, zk8, zk16, zo32, zlt0, zle0, zeq0, zgt0, zLe0, nI_ltI, nI_leI, nI_eq, nI_add, nI_clamp, vp_in_nI, zup_s, zup_n, upd_s, upd_n, ne_eq, not_true_eq_false, not_false_eq_true]; done)
          | (intro hc; exfalso; simp (disch := first | omega | decide) only [zcn, zkpl, zki, zki1, zk8, zk16, zo32, zlt0, zle0, zeq0, zgt0, zLe0, nI_ltI, nI_leI, nI_eq, nI_add, nI_clamp, vp_in_nI, zup_s, zup_n, upd_s, upd_n, ne_eq, not_true_eq_false, not_false_eq_true] at hc <;> omega)
          | (intro hc; exact absurd rfl hc)
          | intro hc
          | apply And.intro
          | exact Or.inl rfl
          | exact Or.inr rfl
          | (show (_ : Int32) = 0 ∨ _ = 1; simp (disch := first | omega | decide) only [zcn, zkpl, zki, zki1, zk8, zk16, zo32, zlt0, zle0, zeq0, zgt0, zLe0, nI_ltI, nI_leI, nI_eq, nI_add, nI_clamp, vp_in_nI, zup_s, zup_n, upd_s, upd_n, ne_eq, not_true_eq_false, not_false_eq_true, zeq1, true_or, or_true]; done))
      · refine zgo 10 [] ?_
        repeat' (first
          | (exact s1.use f61)
          | (show vp_in _ _; simp (disch := first | omega | decide) only [zcn, zkpl, zki, zki1, zk8, zk16, zo32, zlt0, zle0, zeq0, zgt0, zLe0, nI_ltI, nI_leI, nI_eq, nI_add, nI_clamp, vp_in_nI, zup_s, zup_n, upd_s, upd_n, ne_eq, not_true_eq_false, not_false_eq_true]; done)
          | (intro hc; exfalso; simp (disch := first | omega | decide) only [zcn, zkpl, zki, zki1, zk8, zk16, zo32, zlt0, zle0, zeq0, zgt0, zLe0, nI_ltI, nI_leI, nI_eq, nI_add, nI_clamp, vp_in_nI, zup_s, zup_n, upd_s, upd_n, ne_eq, not_true_eq_false, not_false_eq_true] at hc <;> omega)
          | (intro hc; exact absurd rfl hc)
          | intro hc
          | apply And.intro
          | exact Or.inl rfl
          | exact Or.inr rfl
          | (show (_ : Int32) = 0 ∨ _ = 1; simp (disch := first | omega | decide) only [zcn, zkpl, zki, zki1, zk8, zk16, zo32, zlt0, zle0, zeq0, zgt0, zLe0, nI_ltI, nI_leI, nI_eq, nI_add, nI_clamp, vp_in_nI, zup_s, zup_n, upd_s, upd_n, ne_eq, not_true_eq_false, not_false_eq_true, zeq1, true_or, or_true]; done))
      · refine zgo 10 [] ?_
        repeat' (first
          | (exact s1.use f61)
          | (show vp_in _ _; simp (disch := first | omega | decide) only [zcn, zkpl, zki, zki1, zk8, zk16, zo32, zlt0, zle0, zeq0, zgt0, zLe0, nI_ltI, nI_leI, nI_eq, nI_add, nI_clamp, vp_in_nI, zup_s, zup_n, upd_s, upd_n, ne_eq, not_true_eq_false, not_false_eq_true]; done)
          | (intro hc; exfalso; simp (disch := first | omega | decide) only [zcn, zkpl, zki, zki1, zk8, zk16, zo32, zlt0, zle0, zeq0, zgt0, zLe0, nI_ltI, nI_leI, nI_eq, nI_add, nI_clamp, vp_in_nI, zup_s, zup_n, upd_s, upd_n, ne_eq, not_true_eq_false, not_false_eq_true] at hc <;> omega)
          | (intro hc; exact absurd rfl hc)
          | intro hc
          | apply And.intro
          | exact Or.inl rfl
          | exact Or.inr rfl
          | (show (_ : Int32) = 0 ∨ _ = 1; simp (disch := first | omega | decide) only [zcn, zkpl, zki, zki1, zk8, zk16, zo32, zlt0, zle0, zeq0, zgt0, zLe0, nI_ltI, nI_leI, nI_eq, nI_add, nI_clamp, vp_in_nI, zup_s, zup_n, upd_s, upd_n, ne_eq, not_true_eq_false, not_false_eq_true, zeq1, true_or, or_true]; done))
    have f := f55 R hR
    rcases hR with rfl | ⟨y, rfl⟩ | ⟨y, rfl⟩
    · refine zgo 10 [] ?_
      repeat' (first
        | (exact hcd.use f)
        | (show vp_in _ _; simp (disch := first | omega | decide) only [zcn, zkpl, zki, zki1, zk8, zk16, zo32, zlt0, zle0, zeq0, zgt0, zLe0, nI_ltI, nI_leI, nI_eq, nI_add, nI_clamp, vp_in_nI, zup_s, zup_n, upd_s, upd_n, ne_eq, not_true_eq_false, not_false_eq_true]; done)
        | (intro hc; exfalso; simp (disch := first | omega | decide) only [zcn, zkpl, zki, zki1, zk8, zk16, zo32, zlt0, zle0, zeq0, zgt0, zLe0, nI_ltI, nI_leI, nI_eq, nI_add, nI_clamp, vp_in_nI, zup_s, zup_n, upd_s, upd_n, ne_eq, not_true_eq_false, not_false_eq_true] at hc <;> omega)
        | (intro hc; exact absurd rfl hc)
        | intro hc
        | apply And.intro
        | exact Or.inl rfl
        | exact Or.inr rfl
        | (show (_ : Int32) = 0 ∨ _ = 1; simp (disch := first | omega | decide) only [zcn, zkpl, zki, zki1, zk8, zk16, zo32, zlt0, zle0, zeq0, zgt0, zLe0, nI_ltI, nI_leI, nI_eq, nI_add, nI_clamp, vp_in_nI, zup_s, zup_n, upd_s, upd_n, ne_eq, not_true_eq_false, not_false_eq_true, zeq1, true_or, or_true]; done))
    · refine zgo 10 [] ?_
      repeat' (first
        | (exact hcd.use f)
        | (show vp_in _ _; simp (disch := first | omega | decide) only [zcn, zkpl, zki, zki1, zk8, zk16, zo32, zlt0, zle0, zeq0, zgt0, zLe0, nI_ltI, nI_leI, nI_eq, nI_add, nI_clamp, vp_in_nI, zup_s, zup_n, upd_s, upd_n, ne_eq, not_true_eq_false, not_false_eq_true]; done)
        | (intro hc; exfalso; simp (disch := first | omega | decide) only [zcn, zkpl, zki, zki1, zk8, zk16, zo32, zlt0, zle0, zeq0, zgt0, zLe0, nI_ltI, nI_leI, nI_eq, nI_add, nI_clamp, vp_in_nI, zup_s, zup_n, upd_s, upd_n, ne_eq, not_true_eq_false, not_false_eq_true] at hc <;> omega)
        | (intro hc; exact absurd rfl hc)
        | intro hc
        | apply And.intro
        | exact Or.inl rfl
        | exact Or.inr rfl
        | (show (_ : Int32) = 0 ∨ _ = 1; simp (disch := first | omega | decide) only [zcn, zkpl, zki, zki1, zk8, zk16, zo32, zlt0, zle0, zeq0, zgt0, zLe0, nI_ltI, nI_leI, nI_eq, nI_add, nI_clamp, vp_in_nI, zup_s, zup_n, upd_s, upd_n, ne_eq, not_true_eq_false, not_false_eq_true, zeq1, true_or, or_true]; done))
    · refine zgo 10 [] ?_
      repeat' (first
        | (exact hcd.use f)
        | (show vp_in _ _; simp (disch := first | omega | decide) only [zcn, zkpl, zki, zki1, zk8, zk16, zo32, zlt0, zle0, zeq0, zgt0, zLe0, nI_ltI, nI_leI, nI_eq, nI_add, nI_clamp, vp_in_nI, zup_s, zup_n, upd_s, upd_n, ne_eq, not_true_eq_false, not_false_eq_true]; done)
        | (intro hc; exfalso; simp (disch := first | omega | decide) only [zcn, zkpl, zki, zki1, zk8, zk16, zo32, zlt0, zle0, zeq0, zgt0, zLe0, nI_ltI, nI_leI, nI_eq, nI_add, nI_clamp, vp_in_nI, zup_s, zup_n, upd_s, upd_n, ne_eq, not_true_eq_false, not_false_eq_true] at hc <;> omega)
        | (intro hc; exact absurd rfl hc)
        | intro hc
        | apply And.intro
        | exact Or.inl rfl
        | exact Or.inr rfl
        | (show (_ : Int32) = 0 ∨ _ = 1; simp (disch := first | omega | decide) only [zcn, zkpl, zki, zki1, zk8, zk16, zo32, zlt0, zle0, zeq0, zgt0, zLe0, nI_ltI, nI_leI, nI_eq, nI_add, nI_clamp, vp_in_nI, zup_s, zup_n, upd_s, upd_n, ne_eq, not_true_eq_false, not_false_eq_true, zeq1, true_or, or_true]; done))
theorem cn_T {s : pS} (hs : mdy s) (hl : lay s) {e : Nat} (e0 : 0 < e) (eN : e < s 0 1) (hP : PT s e) {X : Nat → List Nat} (hX : ∀ k, k < 4 → lfT s (e + 1 + k) (X (k + 1)) ∧ (X (k + 1)).length ≤ 9) {u : zM} {c : Nat} (h : gd u s) (hc : u 42 34 = nI c) (hc' : c + 90 ≤ 280) (Q : zQ) (W : ∀ R, cnL (e + 1) R → ZW 189 (0, 0, 0, 0) 18 R [] (SH, uA u c ([60, 84, 62] ++ (itx s X e 4 0 ++ [60, 47, 84, 62]))) Q) : ∀ R, cnL e R → ZW 189 (0, 0, 0, 0) 18 R [] (SH, u) Q := by
  have hN := hs.1.2.1
  have e3 : nI e + Int32.ofInt 1 = nI (e + 1) := by rw [zki, nI_add]
  have g14 := h.1.1
  have g46 := h.1.2.2.2.2.2 e eN
  rw [hP.2.1] at g46
  have s1 := es_tB (l := 84) hc (by omega)
  have l3 : ([60, 84, 62] : List Nat).length = 3 := rfl
  have h1 := uA_cnt hc [60, 84, 62]
  rw [l3] at h1
  have hlen : (itx s X e 4 0).length ≤ 64 := by
    have e1 : itx s X e 4 0 = lfx (s 2 (e + 1 + 0)) (X 1) ++ (lfx (s 2 (e + 1 + 1)) (X 2) ++ (lfx (s 2 (e + 1 + 2)) (X 3) ++ (lfx (s 2 (e + 1 + 3)) (X 4) ++ []))) := rfl
    have a1 := (hX 0 (by omega)).2
    have a2 := (hX 1 (by omega)).2
    have a3 := (hX 2 (by omega)).2
    have a4 := (hX 3 (by omega)).2
    simp only [Nat.zero_add, Nat.reduceAdd] at a1 a2 a3 a4
    rw [e1]
    unfold lfx
    simp only [List.length_append, List.length_cons, List.length_nil]
    omega
  have h2 := uA_cnt h1 (itx s X e 4 0)
  have s2 := es_tE (l := 84) h2 (by omega)
  rw [show nI 84 = (Int8.ofInt 84).toInt32 by decide] at s1 s2
  rw [← uA_app, ← uA_app, l3] at W
  have f74 : ∀ y, ZW 189 (0, 0, 0, 0) 74 [(2, .int (nI 4)), (3, .int y), (1, .int (nI e)), (0, .ref 42)] [] (SH, uA (uA (uA u c [60, 84, 62]) (c + 3) (itx s X e 4 0)) (c + 3 + (itx s X e 4 0).length) [60, 47, 84, 62]) Q := by
    intro y
    have W1 := W [(1, .int (nI (e + 1))), (2, .int (nI 4)), (3, .int y), (0, .ref 42)] (Or.inr ⟨_, _, rfl⟩)
    rw [← e3] at W1
    refine zgo 5 [] ?_
    exact W1
  have f67 : ∀ y, ZW 189 (0, 0, 0, 0) 67 [(2, .int (nI 4)), (3, .int y), (1, .int (nI e)), (0, .ref 42)] [] (SH, uA (uA u c [60, 84, 62]) (c + 3) (itx s X e 4 0)) Q := by
    intro y
    refine zgo 5 [] ?_
    repeat' (first
      | (exact s2.use (f74 y))
      | (show vp_in _ _; simp (disch := first | omega | decide) only [zcn, zkpl, zki, zki1, zk8, zk16, zo32, zlt0, zle0, zeq0, zgt0, zLe0, nI_ltI, nI_leI, nI_eq, nI_add, nI_clamp, vp_in_nI, zup_s, zup_n, upd_s, upd_n, ne_eq, not_true_eq_false, not_false_eq_true]; done)
      | (intro hc; exfalso; simp (disch := first | omega | decide) only [zcn, zkpl, zki, zki1, zk8, zk16, zo32, zlt0, zle0, zeq0, zgt0, zLe0, nI_ltI, nI_leI, nI_eq, nI_add, nI_clamp, vp_in_nI, zup_s, zup_n, upd_s, upd_n, ne_eq, not_true_eq_false, not_false_eq_true] at hc <;> omega)
      | (intro hc; exact absurd rfl hc)
      | intro hc
      | apply And.intro
      | exact Or.inl rfl
      | exact Or.inr rfl
      | (show (_ : Int32) = 0 ∨ _ = 1; simp (disch := first | omega | decide) only [zcn, zkpl, zki, zki1, zk8, zk16, zo32, zlt0, zle0, zeq0, zgt0, zLe0, nI_ltI, nI_leI, nI_eq, nI_add, nI_clamp, vp_in_nI, zup_s, zup_n, upd_s, upd_n, ne_eq, not_true_eq_false, not_false_eq_true, zeq1, true_or, or_true]; done))
  have f44 : ∀ R, ciL 0 e R → ZW 189 (0, 0, 0, 0) 44 R [] (SH, uA u c [60, 84, 62]) Q := fun R hR => ci_loop hs (by omega) (X := X) (fun k hk => ⟨(PT_ch hl eN hP k hk).1, (PT_ch hl eN hP k hk).2.2, (hX k hk).1⟩) Q 4 0 _ _ R (by omega) (gd_A h _ _) h1 (by omega) (fun k hk => (hX k hk).2) hR (fun g => by omega) f67
  have f42 : ∀ R, cnL e R → ZW 189 (0, 0, 0, 0) 42 R [] (SH, uA u c [60, 84, 62]) Q := by
    intro R hR
    rcases hR with rfl | ⟨x, y, rfl⟩
    · have W1 := f44 _ (Or.inl rfl)
      refine zgo 5 [] ?_
      exact W1
    · have W1 := f44 _ (Or.inr (Or.inl ⟨y, rfl⟩))
      refine zgo 5 [] ?_
      exact W1
  intro R hR
  have f := f42 R hR
  generalize uA u c [60, 84, 62] = u1 at *
  generalize s 0 1 = N at *
  rcases hR with rfl | ⟨x, y, rfl⟩
  · refine zgo 30 [] ?_
    repeat' (first
      | (exact s1.use f)
      | (show vp_in _ _; simp (disch := first | omega | decide) only [g14, g46, zcn, zkpl, zki, zki1, zk8, zk16, zo32, zlt0, zle0, zeq0, zgt0, zLe0, nI_ltI, nI_leI, nI_eq, nI_add, nI_clamp, vp_in_nI, zup_s, zup_n, upd_s, upd_n, ne_eq, not_true_eq_false, not_false_eq_true]; done)
      | (intro hc; exfalso; simp (disch := first | omega | decide) only [g14, g46, zcn, zkpl, zki, zki1, zk8, zk16, zo32, zlt0, zle0, zeq0, zgt0, zLe0, nI_ltI, nI_leI, nI_eq, nI_add, nI_clamp, vp_in_nI, zup_s, zup_n, upd_s, upd_n, ne_eq, not_true_eq_false, not_false_eq_true] at hc <;> omega)
      | (intro hc; exact absurd rfl hc)
      | intro hc
      | apply And.intro
      | exact Or.inl rfl
      | exact Or.inr rfl
      | (show (_ : Int32) = 0 ∨ _ = 1; simp (disch := first | omega | decide) only [g14, g46, zcn, zkpl, zki, zki1, zk8, zk16, zo32, zlt0, zle0, zeq0, zgt0, zLe0, nI_ltI, nI_leI, nI_eq, nI_add, nI_clamp, vp_in_nI, zup_s, zup_n, upd_s, upd_n, ne_eq, not_true_eq_false, not_false_eq_true, zeq1, true_or, or_true]; done))
  · refine zgo 30 [] ?_
    repeat' (first
      | (exact s1.use f)
      | (show vp_in _ _; simp (disch := first | omega | decide) only [g14, g46, zcn, zkpl, zki, zki1, zk8, zk16, zo32, zlt0, zle0, zeq0, zgt0, zLe0, nI_ltI, nI_leI, nI_eq, nI_add, nI_clamp, vp_in_nI, zup_s, zup_n, upd_s, upd_n, ne_eq, not_true_eq_false, not_false_eq_true]; done)
      | (intro hc; exfalso; simp (disch := first | omega | decide) only [g14, g46, zcn, zkpl, zki, zki1, zk8, zk16, zo32, zlt0, zle0, zeq0, zgt0, zLe0, nI_ltI, nI_leI, nI_eq, nI_add, nI_clamp, vp_in_nI, zup_s, zup_n, upd_s, upd_n, ne_eq, not_true_eq_false, not_false_eq_true] at hc <;> omega)
      | (intro hc; exact absurd rfl hc)
      | intro hc
      | apply And.intro
      | exact Or.inl rfl
      | exact Or.inr rfl
      | (show (_ : Int32) = 0 ∨ _ = 1; simp (disch := first | omega | decide) only [g14, g46, zcn, zkpl, zki, zki1, zk8, zk16, zo32, zlt0, zle0, zeq0, zgt0, zLe0, nI_ltI, nI_leI, nI_eq, nI_add, nI_clamp, vp_in_nI, zup_s, zup_n, upd_s, upd_n, ne_eq, not_true_eq_false, not_false_eq_true, zeq1, true_or, or_true]; done))
