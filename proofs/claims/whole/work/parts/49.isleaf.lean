/-! the model's leaves -/
theorem skF_f {f : Nat → Nat} : ∀ n b, skF f n b = b + n ∨ f (skF f n b) ≠ 32 := by
  intro n
  induction n with
  | zero => intro b; exact Or.inl rfl
  | succ n ih =>
    intro b
    rw [skF]
    split
    · rcases ih (b + 1) with h | h
      · exact Or.inl (by omega)
      · exact Or.inr h
    · next h => exact Or.inr h
theorem bkF_f {f : Nat → Nat} : ∀ n e, n ≤ e → bkF f n e = e - n ∨ f (bkF f n e - 1) ≠ 32 := by
  intro n
  induction n with
  | zero => intro e _; exact Or.inl rfl
  | succ n ih =>
    intro e he
    rw [bkF]
    split
    · rcases ih (e - 1) (by omega) with h | h
      · exact Or.inl (by omega)
      · exact Or.inr h
    · next h => exact Or.inr h
theorem skF_i {f : Nat → Nat} {n b : Nat} (h : n = 0 ∨ f b ≠ 32) : skF f n b = b := by
  cases n with
  | zero => rfl
  | succ n => rw [skF, if_neg (by omega)]
theorem bkF_i {f : Nat → Nat} {n e : Nat} (h : n = 0 ∨ f (e - 1) ≠ 32) : bkF f n e = e := by
  cases n with
  | zero => rfl
  | succ n => rw [bkF, if_neg (by omega)]
theorem tb_i {s : pS} {i : Nat} (h : s 4 i ≤ s 5 i) : skF (s 8) (te s i - tb s i) (tb s i) = tb s i := by
  obtain ⟨t1, t2, t3⟩ := tbe h
  refine skF_i ?_
  have := skF_f (f := s 8) (s 5 i - s 4 i) (s 4 i)
  have e : skF (s 8) (s 5 i - s 4 i) (s 4 i) = tb s i := rfl
  rw [e] at this
  omega
theorem te_i {s : pS} {i : Nat} (h : s 4 i ≤ s 5 i) : bkF (s 8) (te s i - tb s i) (te s i) = te s i := by
  obtain ⟨t1, t2, t3⟩ := tbe h
  refine bkF_i ?_
  have := bkF_f (f := s 8) (s 5 i - tb s i) (s 5 i) (by omega)
  have e : bkF (s 8) (s 5 i - tb s i) (s 5 i) = te s i := rfl
  rw [e] at this
  omega
theorem lf1 {s : pS} (hs : okC8 s) {c : Nat} (hc' : c < 100) {x y z : Int32} (Q : zQ) : ∀ (n b : Nat) (u : zM), aR (u 50) (s 8) (s 0 2) → u 48 c = nI b → u 49 c = nI (b + n) → b + n ≤ s 0 2 → ZW 173 (0, 0, 0, 0) 84 [(4, .int (nI c)), (0, .ref 42), (1, .int x), (2, .int y), (3, .int z)] [] (SH, zup u 48 c (nI (skF (s 8) n b))) Q → ZW 173 (0, 0, 0, 0) 36 [(4, .int (nI c)), (0, .ref 42), (1, .int x), (2, .int y), (3, .int z)] [] (SH, u) Q := by
  obtain ⟨hl, h32⟩ := hs
  intro n
  induction n with
  | zero =>
    intro b u h50 h48 h49 hb W
    rw [skF, zup_id h48] at W
    refine zgo 9 [] ?_
    repeat' (first
      | (exact W)
      | (show vp_in _ _; simp (disch := first | omega | decide) only [h48, h49, zcn, zkpl, zki, zki1, zk8, zk16, zo32, zlt0, zle0, zeq0, zgt0, zLe0, nI_ltI, nI_leI, nI_eq, nI_add, nI_clamp, vp_in_nI, zup_s, zup_n, upd_s, upd_n, ne_eq, not_true_eq_false, not_false_eq_true]; done)
      | (intro hc; exfalso; simp (disch := first | omega | decide) only [h48, h49, zcn, zkpl, zki, zki1, zk8, zk16, zo32, zlt0, zle0, zeq0, zgt0, zLe0, nI_ltI, nI_leI, nI_eq, nI_add, nI_clamp, vp_in_nI, zup_s, zup_n, upd_s, upd_n, ne_eq, not_true_eq_false, not_false_eq_true] at hc <;> omega)
      | (intro hc; exact absurd rfl hc)
      | intro hc
      | apply And.intro
      | exact Or.inl rfl
      | exact Or.inr rfl
      | (show (_ : Int32) = 0 ∨ _ = 1; simp (disch := first | omega | decide) only [h48, h49, zcn, zkpl, zki, zki1, zk8, zk16, zo32, zlt0, zle0, zeq0, zgt0, zLe0, nI_ltI, nI_leI, nI_eq, nI_add, nI_clamp, vp_in_nI, zup_s, zup_n, upd_s, upd_n, ne_eq, not_true_eq_false, not_false_eq_true, zeq1, true_or, or_true]; done))
  | succ n ih =>
    intro b u h50 h48 h49 hb W
    have g1 := h50 b (by omega)
    have h126 := (h32 b (by omega)).2
    by_cases e : s 8 b = 32
    · rw [skF, if_pos e] at W
      rw [e] at g1
      have W1 := ih (b + 1) (zup u 48 c (nI (b + 1))) (by rw [zup_n _ (by decide)]; exact h50) (by rw [zup_s, upd_s]) (by rw [zup_n _ (by decide), h49]; congr 1; omega) (by omega) (by rw [zup2]; exact W)
      refine zgo 40 [] ?_
      repeat' (first
        | (exact zcg (by simp (disch := first | omega | decide) only [h48, zcn, zkpl, zki, zki1, zk8, zk16, zo32, zlt0, zle0, zeq0, zgt0, zLe0, nI_ltI, nI_leI, nI_eq, nI_add, nI_clamp, vp_in_nI, zup_s, zup_n, upd_s, upd_n, ne_eq, not_true_eq_false, not_false_eq_true]) W1)
        | (show vp_in _ _; simp (disch := first | omega | decide) only [h48, h49, g1, zcn, zkpl, zki, zki1, zk8, zk16, zo32, zlt0, zle0, zeq0, zgt0, zLe0, nI_ltI, nI_leI, nI_eq, nI_add, nI_clamp, vp_in_nI, zup_s, zup_n, upd_s, upd_n, ne_eq, not_true_eq_false, not_false_eq_true]; done)
        | (intro hc; exfalso; simp (disch := first | omega | decide) only [h48, h49, g1, zcn, zkpl, zki, zki1, zk8, zk16, zo32, zlt0, zle0, zeq0, zgt0, zLe0, nI_ltI, nI_leI, nI_eq, nI_add, nI_clamp, vp_in_nI, zup_s, zup_n, upd_s, upd_n, ne_eq, not_true_eq_false, not_false_eq_true] at hc <;> omega)
        | (intro hc; exact absurd rfl hc)
        | intro hc
        | apply And.intro
        | exact Or.inl rfl
        | exact Or.inr rfl
        | (show (_ : Int32) = 0 ∨ _ = 1; simp (disch := first | omega | decide) only [h48, h49, g1, zcn, zkpl, zki, zki1, zk8, zk16, zo32, zlt0, zle0, zeq0, zgt0, zLe0, nI_ltI, nI_leI, nI_eq, nI_add, nI_clamp, vp_in_nI, zup_s, zup_n, upd_s, upd_n, ne_eq, not_true_eq_false, not_false_eq_true, zeq1, true_or, or_true]; done))
    · rw [skF, if_neg e, zup_id h48] at W
      refine zgo 18 [] ?_
      repeat' (first
        | (exact W)
        | (show vp_in _ _; simp (disch := first | omega | decide) only [h48, h49, g1, zcn, zkpl, zki, zki1, zk8, zk16, zo32, zlt0, zle0, zeq0, zgt0, zLe0, nI_ltI, nI_leI, nI_eq, nI_add, nI_clamp, vp_in_nI, zup_s, zup_n, upd_s, upd_n, ne_eq, not_true_eq_false, not_false_eq_true]; done)
        | (intro hc; exfalso; simp (disch := first | omega | decide) only [h48, h49, g1, zcn, zkpl, zki, zki1, zk8, zk16, zo32, zlt0, zle0, zeq0, zgt0, zLe0, nI_ltI, nI_leI, nI_eq, nI_add, nI_clamp, vp_in_nI, zup_s, zup_n, upd_s, upd_n, ne_eq, not_true_eq_false, not_false_eq_true] at hc <;> omega)
        | (intro hc; exact absurd rfl hc)
        | intro hc
        | apply And.intro
        | exact Or.inl rfl
        | exact Or.inr rfl
        | (show (_ : Int32) = 0 ∨ _ = 1; simp (disch := first | omega | decide) only [h48, h49, g1, zcn, zkpl, zki, zki1, zk8, zk16, zo32, zlt0, zle0, zeq0, zgt0, zLe0, nI_ltI, nI_leI, nI_eq, nI_add, nI_clamp, vp_in_nI, zup_s, zup_n, upd_s, upd_n, ne_eq, not_true_eq_false, not_false_eq_true, zeq1, true_or, or_true]; done))
theorem lf2 {s : pS} (hs : okC8 s) {c b : Nat} (hc' : c < 100) {x y z : Int32} (Q : zQ) : ∀ (n : Nat) (u : zM), aR (u 50) (s 8) (s 0 2) → u 48 c = nI b → u 49 c = nI (b + n) → b + n ≤ s 0 2 → ZW 173 (0, 0, 0, 0) 134 [(4, .int (nI c)), (0, .ref 42), (1, .int x), (2, .int y), (3, .int z)] [] (SH, zup u 49 c (nI (bkF (s 8) n (b + n)))) Q → ZW 173 (0, 0, 0, 0) 84 [(4, .int (nI c)), (0, .ref 42), (1, .int x), (2, .int y), (3, .int z)] [] (SH, u) Q := by
  obtain ⟨hl, h32⟩ := hs
  intro n
  induction n with
  | zero =>
    intro u h50 h48 h49 hb W
    rw [bkF, zup_id h49] at W
    refine zgo 9 [] ?_
    repeat' (first
      | (exact W)
      | (show vp_in _ _; simp (disch := first | omega | decide) only [h48, h49, zcn, zkpl, zki, zki1, zk8, zk16, zo32, zlt0, zle0, zeq0, zgt0, zLe0, nI_ltI, nI_leI, nI_eq, nI_add, nI_clamp, vp_in_nI, zup_s, zup_n, upd_s, upd_n, ne_eq, not_true_eq_false, not_false_eq_true]; done)
      | (intro hc; exfalso; simp (disch := first | omega | decide) only [h48, h49, zcn, zkpl, zki, zki1, zk8, zk16, zo32, zlt0, zle0, zeq0, zgt0, zLe0, nI_ltI, nI_leI, nI_eq, nI_add, nI_clamp, vp_in_nI, zup_s, zup_n, upd_s, upd_n, ne_eq, not_true_eq_false, not_false_eq_true] at hc <;> omega)
      | (intro hc; exact absurd rfl hc)
      | intro hc
      | apply And.intro
      | exact Or.inl rfl
      | exact Or.inr rfl
      | (show (_ : Int32) = 0 ∨ _ = 1; simp (disch := first | omega | decide) only [h48, h49, zcn, zkpl, zki, zki1, zk8, zk16, zo32, zlt0, zle0, zeq0, zgt0, zLe0, nI_ltI, nI_leI, nI_eq, nI_add, nI_clamp, vp_in_nI, zup_s, zup_n, upd_s, upd_n, ne_eq, not_true_eq_false, not_false_eq_true, zeq1, true_or, or_true]; done))
  | succ n ih =>
    intro u h50 h48 h49 hb W
    have g1 := h50 (b + n) (by omega)
    have h126 := (h32 (b + n) (by omega)).2
    have es : b + (n + 1) - 1 = b + n := by omega
    by_cases e : s 8 (b + n) = 32
    · rw [bkF, es, if_pos e] at W
      rw [e] at g1
      have W1 := ih (zup u 49 c (nI (b + n))) (by rw [zup_n _ (by decide)]; exact h50) (by rw [zup_n _ (by decide)]; exact h48) (by rw [zup_s, upd_s]) (by omega) (by rw [zup2]; exact W)
      refine zgo 40 [] ?_
      repeat' (first
        | (exact zcg (by simp (disch := first | omega | decide) only [h49, pk_sub, es, zcn, zkpl, zki, zki1, zk8, zk16, zo32, zlt0, zle0, zeq0, zgt0, zLe0, nI_ltI, nI_leI, nI_eq, nI_add, nI_clamp, vp_in_nI, zup_s, zup_n, upd_s, upd_n, ne_eq, not_true_eq_false, not_false_eq_true]) W1)
        | (show vp_in _ _; simp (disch := first | omega | decide) only [h48, h49, pk_sub, es, g1, zcn, zkpl, zki, zki1, zk8, zk16, zo32, zlt0, zle0, zeq0, zgt0, zLe0, nI_ltI, nI_leI, nI_eq, nI_add, nI_clamp, vp_in_nI, zup_s, zup_n, upd_s, upd_n, ne_eq, not_true_eq_false, not_false_eq_true]; done)
        | (intro hc; exfalso; simp (disch := first | omega | decide) only [h48, h49, pk_sub, es, g1, zcn, zkpl, zki, zki1, zk8, zk16, zo32, zlt0, zle0, zeq0, zgt0, zLe0, nI_ltI, nI_leI, nI_eq, nI_add, nI_clamp, vp_in_nI, zup_s, zup_n, upd_s, upd_n, ne_eq, not_true_eq_false, not_false_eq_true] at hc <;> omega)
        | (intro hc; exact absurd rfl hc)
        | intro hc
        | apply And.intro
        | exact Or.inl rfl
        | exact Or.inr rfl
        | (show (_ : Int32) = 0 ∨ _ = 1; simp (disch := first | omega | decide) only [h48, h49, pk_sub, es, g1, zcn, zkpl, zki, zki1, zk8, zk16, zo32, zlt0, zle0, zeq0, zgt0, zLe0, nI_ltI, nI_leI, nI_eq, nI_add, nI_clamp, vp_in_nI, zup_s, zup_n, upd_s, upd_n, ne_eq, not_true_eq_false, not_false_eq_true, zeq1, true_or, or_true]; done))
    · rw [bkF, es, if_neg e, zup_id h49] at W
      refine zgo 20 [] ?_
      repeat' (first
        | (exact W)
        | (show vp_in _ _; simp (disch := first | omega | decide) only [h48, h49, pk_sub, es, g1, zcn, zkpl, zki, zki1, zk8, zk16, zo32, zlt0, zle0, zeq0, zgt0, zLe0, nI_ltI, nI_leI, nI_eq, nI_add, nI_clamp, vp_in_nI, zup_s, zup_n, upd_s, upd_n, ne_eq, not_true_eq_false, not_false_eq_true]; done)
        | (intro hc; exfalso; simp (disch := first | omega | decide) only [h48, h49, pk_sub, es, g1, zcn, zkpl, zki, zki1, zk8, zk16, zo32, zlt0, zle0, zeq0, zgt0, zLe0, nI_ltI, nI_leI, nI_eq, nI_add, nI_clamp, vp_in_nI, zup_s, zup_n, upd_s, upd_n, ne_eq, not_true_eq_false, not_false_eq_true] at hc <;> omega)
        | (intro hc; exact absurd rfl hc)
        | intro hc
        | apply And.intro
        | exact Or.inl rfl
        | exact Or.inr rfl
        | (show (_ : Int32) = 0 ∨ _ = 1; simp (disch := first | omega | decide) only [h48, h49, pk_sub, es, g1, zcn, zkpl, zki, zki1, zk8, zk16, zo32, zlt0, zle0, zeq0, zgt0, zLe0, nI_ltI, nI_leI, nI_eq, nI_add, nI_clamp, vp_in_nI, zup_s, zup_n, upd_s, upd_n, ne_eq, not_true_eq_false, not_false_eq_true, zeq1, true_or, or_true]; done))
def rt (u : zM) (s : pS) (i : Nat) : Prop := (u 48 i = nI (s 4 i) ∧ u 49 i = nI (s 5 i)) ∨ (u 48 i = nI (tb s i) ∧ u 49 i = nI (te s i))
def tmm (u : zM) (s : pS) (i : Nat) : zM := zup (zup u 48 i (nI (tb s i))) 49 i (nI (te s i))
theorem es_trim {u : zM} {s : pS} {i : Nat} (hs : okC8 s) (h50 : aR (u 50) (s 8) (s 0 2)) (hi : i < 100) (h1 : s 4 i ≤ s 5 i ∧ s 5 i ≤ s 0 2) (hr : rt u s i) {x y z : Int32} (Q : zQ) (hQ : Q (some (.int 1)) (SH, tmm u s i)) : ZW 173 (0, 0, 0, 0) 36 [(4, .int (nI i)), (0, .ref 42), (1, .int x), (2, .int y), (3, .int z)] [] (SH, u) Q := by
  obtain ⟨t1, t2, t3⟩ := tbe h1.1
  have fin : ∀ u', u' = tmm u s i → ZW 173 (0, 0, 0, 0) 134 [(4, .int (nI i)), (0, .ref 42), (1, .int x), (2, .int y), (3, .int z)] [] (SH, u') Q := by
    rintro u' rfl
    refine zgo 5 [] ?_
    repeat' (first
      | (show vp_in _ _; simp (disch := first | omega | decide) only [zcn, zkpl, zki, zki1, zk8, zk16, zo32, zlt0, zle0, zeq0, zgt0, zLe0, nI_ltI, nI_leI, nI_eq, nI_add, nI_clamp, vp_in_nI, zup_s, zup_n, upd_s, upd_n, ne_eq, not_true_eq_false, not_false_eq_true]; done)
      | (intro hc; exfalso; simp (disch := first | omega | decide) only [zcn, zkpl, zki, zki1, zk8, zk16, zo32, zlt0, zle0, zeq0, zgt0, zLe0, nI_ltI, nI_leI, nI_eq, nI_add, nI_clamp, vp_in_nI, zup_s, zup_n, upd_s, upd_n, ne_eq, not_true_eq_false, not_false_eq_true] at hc <;> omega)
      | (intro hc; exact absurd rfl hc)
      | intro hc
      | apply And.intro
      | exact hQ
      | (show Q _ (SH, _); simp (disch := first | omega | decide) only [zcn, zkpl, zki, zki1, zk8, zk16, zo32, zlt0, zle0, zeq0, zgt0, zLe0, nI_ltI, nI_leI, nI_eq, nI_add, nI_clamp, vp_in_nI, zup_s, zup_n, upd_s, upd_n, ne_eq, not_true_eq_false, not_false_eq_true]; exact hQ)
      | exact Or.inl rfl
      | exact Or.inr rfl
      | (show (_ : Int32) = 0 ∨ _ = 1; simp (disch := first | omega | decide) only [zcn, zkpl, zki, zki1, zk8, zk16, zo32, zlt0, zle0, zeq0, zgt0, zLe0, nI_ltI, nI_leI, nI_eq, nI_add, nI_clamp, vp_in_nI, zup_s, zup_n, upd_s, upd_n, ne_eq, not_true_eq_false, not_false_eq_true, zeq1, true_or, or_true]; done))
  rcases hr with ⟨r1, r2⟩ | ⟨r1, r2⟩
  · refine lf1 hs hi Q (s 5 i - s 4 i) (s 4 i) u h50 r1 (by rw [r2]; congr 1; omega) (by omega) ?_
    have e1 : skF (s 8) (s 5 i - s 4 i) (s 4 i) = tb s i := rfl
    rw [e1]
    refine lf2 hs (b := tb s i) hi Q (s 5 i - tb s i) _ (by rw [zup_n _ (by decide)]; exact h50) (by rw [zup_s, upd_s]) (by rw [zup_n _ (by decide), r2]; congr 1; omega) (by omega) ?_
    have e2 : bkF (s 8) (s 5 i - tb s i) (tb s i + (s 5 i - tb s i)) = te s i := by
      rw [show tb s i + (s 5 i - tb s i) = s 5 i by omega]
      rfl
    rw [e2]
    exact fin _ rfl
  · refine lf1 hs hi Q (te s i - tb s i) (tb s i) u h50 r1 (by rw [r2]; congr 1; omega) (by omega) ?_
    rw [tb_i h1.1]
    refine lf2 hs (b := tb s i) hi Q (te s i - tb s i) _ (by rw [zup_n _ (by decide)]; exact h50) (by rw [zup_s, upd_s]) (by rw [zup_n _ (by decide), r2]; congr 1; omega) (by omega) ?_
    rw [show tb s i + (te s i - tb s i) = te s i by omega, te_i h1.1]
    exact fin _ rfl
/-- what the model needs of the document -/
def mdy (s : pS) : Prop := rdy s ∧ ∀ j, 0 < j → j < s 0 1 → s 9 j < j
def lfO (s : pS) (e k c i : Nat) : Prop := chF (s 9) e (s 0 1) 0 k = some i ∧ s 2 i = c ∧ kc (s 9) i (s 0 1) = 0
theorem oI_lt {o : Option Nat} (h : o = none) : (oI o < 0) = True := by
  subst h
  decide
theorem es_leaf {u : zM} {s : pS} (hs : mdy s) (h : mV u s) {x y z : Int32} (e k c : Nat) (hx : x = nI e) (hy : y = nI k) (hz : z = nI c) (he : e < 75) (hk : k ≤ 10) (hc8 : c ≤ 126) (hrt : ∀ i, i < s 0 1 → rt u s i) : (∀ i, lfO s e k c i → Ev 173 [.ref 42, .int x, .int y, .int z] u (some (.int 1)) (tmm u s i)) ∧ ((¬ ∃ i, lfO s e k c i) → Ev 173 [.ref 42, .int x, .int y, .int z] u (some (.int 0)) u) := by
  subst hx
  subst hy
  subst hz
  obtain ⟨⟨hs8, hN, hb3⟩, hp⟩ := hs
  have hch := es_child h hN hp e k rfl rfl he hk
  obtain ⟨h1, ⟨h2, h2'⟩, h3, h4, h5, h6⟩ := h
  refine ⟨fun i hl => ?_, fun hl => ?_⟩
  · obtain ⟨l1, l2, l3⟩ := hl
    have hi := ((ch_spec (f := s 9) (e := e) (s 0 1) 0 k).1 i l1).2.1
    rw [Nat.zero_add] at hi
    rw [l1] at hch
    have g2 := h2 i hi
    have g6 := h6 i hi
    rw [l3] at g6
    rw [l2] at g2
    intro Q hQ
    have W := es_trim (x := nI e) (y := nI k) (z := nI c) hs8 h3 (by omega) (hb3 i hi).2.2.1 (hrt i hi) Q hQ
    have f6 : ZW 173 (0, 0, 0, 0) 6 [(0, .ref 42), (1, .int (nI e)), (2, .int (nI k)), (3, .int (nI c))] [.int (nI i)] (SH, u) Q := by
      generalize s 0 1 = N at *
      refine zgo 20 [] ?_
      repeat' (first
        | (exact W)
        | (show vp_in _ _; simp (disch := first | omega | decide) only [g2, g6, zcn, zkpl, zki, zki1, zk8, zk16, zo32, zlt0, zle0, zeq0, zgt0, zLe0, nI_ltI, nI_leI, nI_eq, nI_add, nI_clamp, vp_in_nI, zup_s, zup_n, upd_s, upd_n, ne_eq, not_true_eq_false, not_false_eq_true]; done)
        | (intro hc; exfalso; simp (disch := first | omega | decide) only [g2, g6, zcn, zkpl, zki, zki1, zk8, zk16, zo32, zlt0, zle0, zeq0, zgt0, zLe0, nI_ltI, nI_leI, nI_eq, nI_add, nI_clamp, vp_in_nI, zup_s, zup_n, upd_s, upd_n, ne_eq, not_true_eq_false, not_false_eq_true] at hc <;> omega)
        | (intro hc; exact absurd rfl hc)
        | intro hc
        | apply And.intro
        | exact Or.inl rfl
        | exact Or.inr rfl
        | (show (_ : Int32) = 0 ∨ _ = 1; simp (disch := first | omega | decide) only [g2, g6, zcn, zkpl, zki, zki1, zk8, zk16, zo32, zlt0, zle0, zeq0, zgt0, zLe0, nI_ltI, nI_leI, nI_eq, nI_add, nI_clamp, vp_in_nI, zup_s, zup_n, upd_s, upd_n, ne_eq, not_true_eq_false, not_false_eq_true, zeq1, true_or, or_true]; done))
    refine zgo 20 [] ?_
    repeat' (first
      | (exact hch.use f6)
      | (show vp_in _ _; simp (disch := first | omega | decide) only [zcn, zkpl, zki, zki1, zk8, zk16, zo32, zlt0, zle0, zeq0, zgt0, zLe0, nI_ltI, nI_leI, nI_eq, nI_add, nI_clamp, vp_in_nI, zup_s, zup_n, upd_s, upd_n, ne_eq, not_true_eq_false, not_false_eq_true]; done)
      | (intro hc; exfalso; simp (disch := first | omega | decide) only [zcn, zkpl, zki, zki1, zk8, zk16, zo32, zlt0, zle0, zeq0, zgt0, zLe0, nI_ltI, nI_leI, nI_eq, nI_add, nI_clamp, vp_in_nI, zup_s, zup_n, upd_s, upd_n, ne_eq, not_true_eq_false, not_false_eq_true] at hc <;> omega)
      | (intro hc; exact absurd rfl hc)
      | intro hc
      | apply And.intro
      | exact Or.inl rfl
      | exact Or.inr rfl
      | (show (_ : Int32) = 0 ∨ _ = 1; simp (disch := first | omega | decide) only [zcn, zkpl, zki, zki1, zk8, zk16, zo32, zlt0, zle0, zeq0, zgt0, zLe0, nI_ltI, nI_leI, nI_eq, nI_add, nI_clamp, vp_in_nI, zup_s, zup_n, upd_s, upd_n, ne_eq, not_true_eq_false, not_false_eq_true, zeq1, true_or, or_true]; done))
  · intro Q hQ
    cases ho : chF (s 9) e (s 0 1) 0 k with
    | none =>
      rw [ho] at hch
      have en := oI_lt (o := none) rfl
      have f6 : ZW 173 (0, 0, 0, 0) 6 [(0, .ref 42), (1, .int (nI e)), (2, .int (nI k)), (3, .int (nI c))] [.int (oI none)] (SH, u) Q := by
        refine zgo 20 [] ?_
        repeat' (first
          | (show vp_in _ _; simp (disch := first | omega | decide) only [en, zcn, zkpl, zki, zki1, zk8, zk16, zo32, zlt0, zle0, zeq0, zgt0, zLe0, nI_ltI, nI_leI, nI_eq, nI_add, nI_clamp, vp_in_nI, zup_s, zup_n, upd_s, upd_n, ne_eq, not_true_eq_false, not_false_eq_true]; done)
          | (intro hc; exfalso; simp (disch := first | omega | decide) only [en, zcn, zkpl, zki, zki1, zk8, zk16, zo32, zlt0, zle0, zeq0, zgt0, zLe0, nI_ltI, nI_leI, nI_eq, nI_add, nI_clamp, vp_in_nI, zup_s, zup_n, upd_s, upd_n, ne_eq, not_true_eq_false, not_false_eq_true] at hc <;> omega)
          | (intro hc; exact absurd rfl hc)
          | intro hc
          | apply And.intro
          | exact hQ
          | (show Q _ (SH, _); simp (disch := first | omega | decide) only [en, zcn, zkpl, zki, zki1, zk8, zk16, zo32, zlt0, zle0, zeq0, zgt0, zLe0, nI_ltI, nI_leI, nI_eq, nI_add, nI_clamp, vp_in_nI, zup_s, zup_n, upd_s, upd_n, ne_eq, not_true_eq_false, not_false_eq_true]; exact hQ)
          | exact Or.inl rfl
          | exact Or.inr rfl
          | (show (_ : Int32) = 0 ∨ _ = 1; simp (disch := first | omega | decide) only [en, zcn, zkpl, zki, zki1, zk8, zk16, zo32, zlt0, zle0, zeq0, zgt0, zLe0, nI_ltI, nI_leI, nI_eq, nI_add, nI_clamp, vp_in_nI, zup_s, zup_n, upd_s, upd_n, ne_eq, not_true_eq_false, not_false_eq_true, zeq1, true_or, or_true]; done))
      refine zgo 20 [] ?_
      repeat' (first
        | (exact hch.use f6)
        | (show vp_in _ _; simp (disch := first | omega | decide) only [zcn, zkpl, zki, zki1, zk8, zk16, zo32, zlt0, zle0, zeq0, zgt0, zLe0, nI_ltI, nI_leI, nI_eq, nI_add, nI_clamp, vp_in_nI, zup_s, zup_n, upd_s, upd_n, ne_eq, not_true_eq_false, not_false_eq_true]; done)
        | (intro hc; exfalso; simp (disch := first | omega | decide) only [zcn, zkpl, zki, zki1, zk8, zk16, zo32, zlt0, zle0, zeq0, zgt0, zLe0, nI_ltI, nI_leI, nI_eq, nI_add, nI_clamp, vp_in_nI, zup_s, zup_n, upd_s, upd_n, ne_eq, not_true_eq_false, not_false_eq_true] at hc <;> omega)
        | (intro hc; exact absurd rfl hc)
        | intro hc
        | apply And.intro
        | exact Or.inl rfl
        | exact Or.inr rfl
        | (show (_ : Int32) = 0 ∨ _ = 1; simp (disch := first | omega | decide) only [zcn, zkpl, zki, zki1, zk8, zk16, zo32, zlt0, zle0, zeq0, zgt0, zLe0, nI_ltI, nI_leI, nI_eq, nI_add, nI_clamp, vp_in_nI, zup_s, zup_n, upd_s, upd_n, ne_eq, not_true_eq_false, not_false_eq_true, zeq1, true_or, or_true]; done))
    | some i =>
      have hi := ((ch_spec (f := s 9) (e := e) (s 0 1) 0 k).1 i ho).2.1
      rw [Nat.zero_add] at hi
      rw [ho] at hch
      have g2 := h2 i hi
      have g6 := h6 i hi
      have hkb := kc_le (f := s 9) (i := i) (s 0 1)
      have b2 := (hb3 i hi).1
      have hne : ¬ (s 2 i = c ∧ kc (s 9) i (s 0 1) = 0) := fun g => hl ⟨i, ho, g.1, g.2⟩
      have f6 : ZW 173 (0, 0, 0, 0) 6 [(0, .ref 42), (1, .int (nI e)), (2, .int (nI k)), (3, .int (nI c))] [.int (nI i)] (SH, u) Q := by
        generalize s 2 i = cc at *
        generalize kc (s 9) i (s 0 1) = kk at *
        generalize s 0 1 = N at *
        by_cases e1 : cc = c
        · refine zgo 20 [] ?_
          repeat' (first
            | (show vp_in _ _; simp (disch := first | omega | decide) only [g2, g6, zcn, zkpl, zki, zki1, zk8, zk16, zo32, zlt0, zle0, zeq0, zgt0, zLe0, nI_ltI, nI_leI, nI_eq, nI_add, nI_clamp, vp_in_nI, zup_s, zup_n, upd_s, upd_n, ne_eq, not_true_eq_false, not_false_eq_true]; done)
            | (intro hc; exfalso; simp (disch := first | omega | decide) only [g2, g6, zcn, zkpl, zki, zki1, zk8, zk16, zo32, zlt0, zle0, zeq0, zgt0, zLe0, nI_ltI, nI_leI, nI_eq, nI_add, nI_clamp, vp_in_nI, zup_s, zup_n, upd_s, upd_n, ne_eq, not_true_eq_false, not_false_eq_true] at hc <;> omega)
            | (intro hc; exact absurd rfl hc)
            | intro hc
            | apply And.intro
            | exact hQ
            | (show Q _ (SH, _); simp (disch := first | omega | decide) only [g2, g6, zcn, zkpl, zki, zki1, zk8, zk16, zo32, zlt0, zle0, zeq0, zgt0, zLe0, nI_ltI, nI_leI, nI_eq, nI_add, nI_clamp, vp_in_nI, zup_s, zup_n, upd_s, upd_n, ne_eq, not_true_eq_false, not_false_eq_true]; exact hQ)
            | exact Or.inl rfl
            | exact Or.inr rfl
            | (show (_ : Int32) = 0 ∨ _ = 1; simp (disch := first | omega | decide) only [g2, g6, zcn, zkpl, zki, zki1, zk8, zk16, zo32, zlt0, zle0, zeq0, zgt0, zLe0, nI_ltI, nI_leI, nI_eq, nI_add, nI_clamp, vp_in_nI, zup_s, zup_n, upd_s, upd_n, ne_eq, not_true_eq_false, not_false_eq_true, zeq1, true_or, or_true]; done))
        · refine zgo 20 [] ?_
          repeat' (first
            | (show vp_in _ _; simp (disch := first | omega | decide) only [g2, g6, zcn, zkpl, zki, zki1, zk8, zk16, zo32, zlt0, zle0, zeq0, zgt0, zLe0, nI_ltI, nI_leI, nI_eq, nI_add, nI_clamp, vp_in_nI, zup_s, zup_n, upd_s, upd_n, ne_eq, not_true_eq_false, not_false_eq_true]; done)
            | (intro hc; exfalso; simp (disch := first | omega | decide) only [g2, g6, zcn, zkpl, zki, zki1, zk8, zk16, zo32, zlt0, zle0, zeq0, zgt0, zLe0, nI_ltI, nI_leI, nI_eq, nI_add, nI_clamp, vp_in_nI, zup_s, zup_n, upd_s, upd_n, ne_eq, not_true_eq_false, not_false_eq_true] at hc <;> omega)
            | (intro hc; exact absurd rfl hc)
            | intro hc
            | apply And.intro
            | exact hQ
            | (show Q _ (SH, _); simp (disch := first | omega | decide) only [g2, g6, zcn, zkpl, zki, zki1, zk8, zk16, zo32, zlt0, zle0, zeq0, zgt0, zLe0, nI_ltI, nI_leI, nI_eq, nI_add, nI_clamp, vp_in_nI, zup_s, zup_n, upd_s, upd_n, ne_eq, not_true_eq_false, not_false_eq_true]; exact hQ)
            | exact Or.inl rfl
            | exact Or.inr rfl
            | (show (_ : Int32) = 0 ∨ _ = 1; simp (disch := first | omega | decide) only [g2, g6, zcn, zkpl, zki, zki1, zk8, zk16, zo32, zlt0, zle0, zeq0, zgt0, zLe0, nI_ltI, nI_leI, nI_eq, nI_add, nI_clamp, vp_in_nI, zup_s, zup_n, upd_s, upd_n, ne_eq, not_true_eq_false, not_false_eq_true, zeq1, true_or, or_true]; done))
      refine zgo 20 [] ?_
      repeat' (first
        | (exact hch.use f6)
        | (show vp_in _ _; simp (disch := first | omega | decide) only [zcn, zkpl, zki, zki1, zk8, zk16, zo32, zlt0, zle0, zeq0, zgt0, zLe0, nI_ltI, nI_leI, nI_eq, nI_add, nI_clamp, vp_in_nI, zup_s, zup_n, upd_s, upd_n, ne_eq, not_true_eq_false, not_false_eq_true]; done)
        | (intro hc; exfalso; simp (disch := first | omega | decide) only [zcn, zkpl, zki, zki1, zk8, zk16, zo32, zlt0, zle0, zeq0, zgt0, zLe0, nI_ltI, nI_leI, nI_eq, nI_add, nI_clamp, vp_in_nI, zup_s, zup_n, upd_s, upd_n, ne_eq, not_true_eq_false, not_false_eq_true] at hc <;> omega)
        | (intro hc; exact absurd rfl hc)
        | intro hc
        | apply And.intro
        | exact Or.inl rfl
        | exact Or.inr rfl
        | (show (_ : Int32) = 0 ∨ _ = 1; simp (disch := first | omega | decide) only [zcn, zkpl, zki, zki1, zk8, zk16, zo32, zlt0, zle0, zeq0, zgt0, zLe0, nI_ltI, nI_leI, nI_eq, nI_add, nI_clamp, vp_in_nI, zup_s, zup_n, upd_s, upd_n, ne_eq, not_true_eq_false, not_false_eq_true, zeq1, true_or, or_true]; done))
