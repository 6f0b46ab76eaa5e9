/-! the model's reader -/
def mX (w : Nat → Nat) (wl : Nat) (u : zM) (a : Nat) : Prop := u 42 7 = nI wl ∧ aR (u 43) w wl ∧ u 42 20 = nI a
theorem mX.mv {w : Nat → Nat} {wl a : Nat} {u : zM} (h : mX w wl u a) (b : Nat) : mX w wl (zup u 42 20 (nI b)) b := by
  obtain ⟨h1, h2, h3⟩ := h
  refine ⟨?_, ?_, ?_⟩
  · rw [zup_s, upd_n _ (by decide), h1]
  · rw [zup_n _ (by decide)]
    exact h2
  · rw [zup_s, upd_s]
theorem mX.cg {w : Nat → Nat} {wl a : Nat} {u u' : zM} (h : mX w wl u a) (h1 : u' 42 7 = u 42 7) (h2 : u' 43 = u 43) (h3 : u' 42 20 = u 42 20) : mX w wl u' a := by
  unfold mX
  rw [h1, h2, h3]
  exact h
/-- how many of the first n elements lie right in i -/
def kc (f : Nat → Nat) (i : Nat) : Nat → Nat
  | 0 => 0
  | n + 1 => kc f i n + (if n ≠ 0 ∧ f n = i then 1 else 0)
theorem kc_ud {f : Nat → Nat} {i k v : Nat} : ∀ n, n ≤ k → kc (ud f k v) i n = kc f i n := by
  intro n
  induction n with
  | zero => intro _; rfl
  | succ n ih =>
    intro h
    rw [kc, kc, ih (by omega), ud_n _ (by omega)]
theorem kc_0 {f : Nat → Nat} {i : Nat} : ∀ n, (∀ j, 0 < j → j < n → f j ≠ i) → kc f i n = 0 := by
  intro n
  induction n with
  | zero => intro _; rfl
  | succ n ih =>
    intro h
    rw [kc, ih (fun j h0 h1 => h j h0 (by omega)), if_neg (fun g => h n (by omega) (by omega) g.2)]
theorem kc_le {f : Nat → Nat} {i : Nat} : ∀ n, kc f i n ≤ n := by
  intro n
  induction n with
  | zero => exact Nat.le_refl 0
  | succ n ih =>
    rw [kc]
    split <;> omega
def mD (u : zM) (s : pS) : Prop := (u 42 14 = nI (s 0 1) ∧ u 42 16 = nI (s 0 2) ∧ u 42 18 = nI (s 0 3) ∧ u 42 19 = nI (if s 0 1 = 0 then 0 else 1)) ∧ (aR (u 44) (s 2) (s 0 1) ∧ aR (u 48) (s 4) (s 0 1) ∧ aR (u 49) (s 5) (s 0 1) ∧ aR (u 47) (s 6) (s 0 1)) ∧ aR (u 51) (s 7) (s 0 3) ∧ aR (u 50) (s 8) (s 0 2) ∧ (∀ j, 0 < j → j < s 0 1 → u 45 j = nI (s 9 j)) ∧ (0 < s 0 1 → u 45 0 = -1) ∧ ∀ j, j < s 0 1 → u 46 j = nI (kc (s 9) j (s 0 1))
theorem mD.cg {u u' : zM} {s : pS} (h : mD u s) (h1 : ∀ a, 44 ≤ a → a ≤ 51 → u' a = u a) (h2 : ∀ f, f = 14 ∨ f = 16 ∨ f = 18 ∨ f = 19 → u' 42 f = u 42 f) : mD u' s := by
  unfold mD
  rw [h1 44 (by decide) (by decide), h1 45 (by decide) (by decide), h1 46 (by decide) (by decide), h1 47 (by decide) (by decide), h1 48 (by decide) (by decide), h1 49 (by decide) (by decide), h1 50 (by decide) (by decide), h1 51 (by decide) (by decide), h2 14 (by decide), h2 16 (by decide), h2 18 (by decide), h2 19 (by decide)]
  exact h
theorem mD.f {u : zM} {s : pS} (h : mD u s) {f : Nat} (x : Int32) (hf : f = 20 ∨ f = 21) : mD (zup u 42 f x) s := h.cg (fun a g1 g2 => zup_n _ (by omega)) (fun g hg => by rw [zup_s, upd_n _ (by omega)])
def mG (u u' : zM) : Prop := (∀ a, a < 42 ∨ a = 43 ∨ 51 < a → u' a = u a) ∧ ∀ f, f < 14 ∨ 21 < f → u' 42 f = u 42 f
theorem mG.tr {u u' u'' : zM} (h : mG u u') (h' : mG u' u'') : mG u u'' := ⟨fun a ha => (h'.1 a ha).trans (h.1 a ha), fun f hf => (h'.2 f hf).trans (h.2 f hf)⟩
theorem mG_f (u : zM) {f : Nat} (x : Int32) (hf : 14 ≤ f ∧ f ≤ 21) : mG u (zup u 42 f x) := ⟨fun a ha => zup_n _ (by omega), fun g hg => by rw [zup_s, upd_n _ (by omega)]⟩
theorem mG_a (u : zM) {a k : Nat} (x : Int32) (ha : 44 ≤ a ∧ a ≤ 51) : mG u (zup u a k x) := ⟨fun b hb => zup_n _ (by omega), fun g hg => by rw [zup_n _ (by omega)]⟩
theorem mG_r (u : zM) : mG u u := ⟨fun _ _ => rfl, fun _ _ => rfl⟩
theorem es_sees {w : Nat → Nat} {wl : Nat} {u : zM} (ho : okT w wl) (h1 : u 42 7 = nI wl) (h2 : aR (u 43) w wl) {x y : Int32} (p c : Nat) (hx : x = nI p) (hy : y = nI c) (hp : p ≤ 400) (hc8 : 0 < c ∧ c ≤ 126) {b : Int32} (hb : (b = 1 ∧ pe w wl p = c) ∨ (b = 0 ∧ pe w wl p ≠ c)) : Ev 162 [.ref 42, .int x, .int y] u (some (.int b)) u := by
  subst hx
  subst hy
  have hl := ho.1
  intro Q hQ
  by_cases e : p < wl
  · have e2 := h2 p e
    have e3 := (ho.2 p e).2
    rw [pe_w e] at hb
    rcases hb with ⟨rfl, hb⟩ | ⟨rfl, hb⟩
    · refine zgo 30 [] ?_
      repeat' (first
        | (show vp_in _ _; simp (disch := first | omega | decide) only [h1, e2, zcn, zkpl, zki, zki1, zk8, zk16, zo32, zlt0, zle0, zeq0, zgt0, zLe0, nI_ltI, nI_leI, nI_eq, nI_add, nI_clamp, vp_in_nI, zup_s, zup_n, upd_s, upd_n, ne_eq, not_true_eq_false, not_false_eq_true]; done)
        | (intro hc; exfalso; simp (disch := first | omega | decide) only [h1, e2, zcn, zkpl, zki, zki1, zk8, zk16, zo32, zlt0, zle0, zeq0, zgt0, zLe0, nI_ltI, nI_leI, nI_eq, nI_add, nI_clamp, vp_in_nI, zup_s, zup_n, upd_s, upd_n, ne_eq, not_true_eq_false, not_false_eq_true] at hc <;> omega)
        | (intro hc; exact absurd rfl hc)
        | intro hc
        | apply And.intro
        | exact hQ
        | (show Q _ (SH, _); simp (disch := first | omega | decide) only [h1, e2, zcn, zkpl, zki, zki1, zk8, zk16, zo32, zlt0, zle0, zeq0, zgt0, zLe0, nI_ltI, nI_leI, nI_eq, nI_add, nI_clamp, vp_in_nI, zup_s, zup_n, upd_s, upd_n, ne_eq, not_true_eq_false, not_false_eq_true]; exact hQ)
        | exact Or.inl rfl
        | exact Or.inr rfl
        | (show (_ : Int32) = 0 ∨ _ = 1; simp (disch := first | omega | decide) only [h1, e2, zcn, zkpl, zki, zki1, zk8, zk16, zo32, zlt0, zle0, zeq0, zgt0, zLe0, nI_ltI, nI_leI, nI_eq, nI_add, nI_clamp, vp_in_nI, zup_s, zup_n, upd_s, upd_n, ne_eq, not_true_eq_false, not_false_eq_true, zeq1, true_or, or_true]; done))
    · refine zgo 30 [] ?_
      repeat' (first
        | (show vp_in _ _; simp (disch := first | omega | decide) only [h1, e2, zcn, zkpl, zki, zki1, zk8, zk16, zo32, zlt0, zle0, zeq0, zgt0, zLe0, nI_ltI, nI_leI, nI_eq, nI_add, nI_clamp, vp_in_nI, zup_s, zup_n, upd_s, upd_n, ne_eq, not_true_eq_false, not_false_eq_true]; done)
        | (intro hc; exfalso; simp (disch := first | omega | decide) only [h1, e2, zcn, zkpl, zki, zki1, zk8, zk16, zo32, zlt0, zle0, zeq0, zgt0, zLe0, nI_ltI, nI_leI, nI_eq, nI_add, nI_clamp, vp_in_nI, zup_s, zup_n, upd_s, upd_n, ne_eq, not_true_eq_false, not_false_eq_true] at hc <;> omega)
        | (intro hc; exact absurd rfl hc)
        | intro hc
        | apply And.intro
        | exact hQ
        | (show Q _ (SH, _); simp (disch := first | omega | decide) only [h1, e2, zcn, zkpl, zki, zki1, zk8, zk16, zo32, zlt0, zle0, zeq0, zgt0, zLe0, nI_ltI, nI_leI, nI_eq, nI_add, nI_clamp, vp_in_nI, zup_s, zup_n, upd_s, upd_n, ne_eq, not_true_eq_false, not_false_eq_true]; exact hQ)
        | exact Or.inl rfl
        | exact Or.inr rfl
        | (show (_ : Int32) = 0 ∨ _ = 1; simp (disch := first | omega | decide) only [h1, e2, zcn, zkpl, zki, zki1, zk8, zk16, zo32, zlt0, zle0, zeq0, zgt0, zLe0, nI_ltI, nI_leI, nI_eq, nI_add, nI_clamp, vp_in_nI, zup_s, zup_n, upd_s, upd_n, ne_eq, not_true_eq_false, not_false_eq_true, zeq1, true_or, or_true]; done))
  · rw [pe_z (by omega)] at hb
    obtain rfl : b = 0 := by
      rcases hb with hb | hb
      · omega
      · exact hb.1
    refine zgo 30 [] ?_
    repeat' (first
      | (show vp_in _ _; simp (disch := first | omega | decide) only [h1, zcn, zkpl, zki, zki1, zk8, zk16, zo32, zlt0, zle0, zeq0, zgt0, zLe0, nI_ltI, nI_leI, nI_eq, nI_add, nI_clamp, vp_in_nI, zup_s, zup_n, upd_s, upd_n, ne_eq, not_true_eq_false, not_false_eq_true]; done)
      | (intro hc; exfalso; simp (disch := first | omega | decide) only [h1, zcn, zkpl, zki, zki1, zk8, zk16, zo32, zlt0, zle0, zeq0, zgt0, zLe0, nI_ltI, nI_leI, nI_eq, nI_add, nI_clamp, vp_in_nI, zup_s, zup_n, upd_s, upd_n, ne_eq, not_true_eq_false, not_false_eq_true] at hc <;> omega)
      | (intro hc; exact absurd rfl hc)
      | intro hc
      | apply And.intro
      | exact hQ
      | (show Q _ (SH, _); simp (disch := first | omega | decide) only [h1, zcn, zkpl, zki, zki1, zk8, zk16, zo32, zlt0, zle0, zeq0, zgt0, zLe0, nI_ltI, nI_leI, nI_eq, nI_add, nI_clamp, vp_in_nI, zup_s, zup_n, upd_s, upd_n, ne_eq, not_true_eq_false, not_false_eq_true]; exact hQ)
      | exact Or.inl rfl
      | exact Or.inr rfl
      | (show (_ : Int32) = 0 ∨ _ = 1; simp (disch := first | omega | decide) only [h1, zcn, zkpl, zki, zki1, zk8, zk16, zo32, zlt0, zle0, zeq0, zgt0, zLe0, nI_ltI, nI_leI, nI_eq, nI_add, nI_clamp, vp_in_nI, zup_s, zup_n, upd_s, upd_n, ne_eq, not_true_eq_false, not_false_eq_true, zeq1, true_or, or_true]; done))
theorem es_skip {w : Nat → Nat} {wl : Nat} (ho : okT w wl) : ∀ (k a : Nat) (m : zM), mX w wl m a → a ≤ 310 → (∀ j, j < k → pe w wl (a + j) = 32) → pe w wl (a + k) ≠ 32 → Ev 165 [.ref 42] m none (zup m 42 20 (nI (a + k))) := by
  intro k
  induction k with
  | zero =>
    intro a m h ha _ h0 Q hQ
    have hl := ho.1
    obtain ⟨h1, h2, h3⟩ := h
    rw [Nat.add_zero, zup_id h3] at hQ
    by_cases e : a < wl
    · have e2 := h2 a e
      have e3 := (ho.2 a e).2
      rw [Nat.add_zero, pe_w e] at h0
      refine zgo 20 [] ?_
      repeat' (first
        | (show vp_in _ _; simp (disch := first | omega | decide) only [h1, h3, e2, zcn, zkpl, zki, zki1, zk8, zk16, zo32, zlt0, zle0, zeq0, zgt0, zLe0, nI_ltI, nI_leI, nI_eq, nI_add, nI_clamp, vp_in_nI, zup_s, zup_n, upd_s, upd_n, ne_eq, not_true_eq_false, not_false_eq_true]; done)
        | (intro hc; exfalso; simp (disch := first | omega | decide) only [h1, h3, e2, zcn, zkpl, zki, zki1, zk8, zk16, zo32, zlt0, zle0, zeq0, zgt0, zLe0, nI_ltI, nI_leI, nI_eq, nI_add, nI_clamp, vp_in_nI, zup_s, zup_n, upd_s, upd_n, ne_eq, not_true_eq_false, not_false_eq_true] at hc <;> omega)
        | (intro hc; exact absurd rfl hc)
        | intro hc
        | apply And.intro
        | exact hQ
        | (show Q _ (SH, _); simp (disch := first | omega | decide) only [h1, h3, e2, zcn, zkpl, zki, zki1, zk8, zk16, zo32, zlt0, zle0, zeq0, zgt0, zLe0, nI_ltI, nI_leI, nI_eq, nI_add, nI_clamp, vp_in_nI, zup_s, zup_n, upd_s, upd_n, ne_eq, not_true_eq_false, not_false_eq_true]; exact hQ)
        | exact Or.inl rfl
        | exact Or.inr rfl
        | (show (_ : Int32) = 0 ∨ _ = 1; simp (disch := first | omega | decide) only [h1, h3, e2, zcn, zkpl, zki, zki1, zk8, zk16, zo32, zlt0, zle0, zeq0, zgt0, zLe0, nI_ltI, nI_leI, nI_eq, nI_add, nI_clamp, vp_in_nI, zup_s, zup_n, upd_s, upd_n, ne_eq, not_true_eq_false, not_false_eq_true, zeq1, true_or, or_true]; done))
    · refine zgo 20 [] ?_
      repeat' (first
        | (show vp_in _ _; simp (disch := first | omega | decide) only [h1, h3, zcn, zkpl, zki, zki1, zk8, zk16, zo32, zlt0, zle0, zeq0, zgt0, zLe0, nI_ltI, nI_leI, nI_eq, nI_add, nI_clamp, vp_in_nI, zup_s, zup_n, upd_s, upd_n, ne_eq, not_true_eq_false, not_false_eq_true]; done)
        | (intro hc; exfalso; simp (disch := first | omega | decide) only [h1, h3, zcn, zkpl, zki, zki1, zk8, zk16, zo32, zlt0, zle0, zeq0, zgt0, zLe0, nI_ltI, nI_leI, nI_eq, nI_add, nI_clamp, vp_in_nI, zup_s, zup_n, upd_s, upd_n, ne_eq, not_true_eq_false, not_false_eq_true] at hc <;> omega)
        | (intro hc; exact absurd rfl hc)
        | intro hc
        | apply And.intro
        | exact hQ
        | (show Q _ (SH, _); simp (disch := first | omega | decide) only [h1, h3, zcn, zkpl, zki, zki1, zk8, zk16, zo32, zlt0, zle0, zeq0, zgt0, zLe0, nI_ltI, nI_leI, nI_eq, nI_add, nI_clamp, vp_in_nI, zup_s, zup_n, upd_s, upd_n, ne_eq, not_true_eq_false, not_false_eq_true]; exact hQ)
        | exact Or.inl rfl
        | exact Or.inr rfl
        | (show (_ : Int32) = 0 ∨ _ = 1; simp (disch := first | omega | decide) only [h1, h3, zcn, zkpl, zki, zki1, zk8, zk16, zo32, zlt0, zle0, zeq0, zgt0, zLe0, nI_ltI, nI_leI, nI_eq, nI_add, nI_clamp, vp_in_nI, zup_s, zup_n, upd_s, upd_n, ne_eq, not_true_eq_false, not_false_eq_true, zeq1, true_or, or_true]; done))
  | succ k ih =>
    intro a m h ha hb h0 Q hQ
    have hl := ho.1
    have hp := hb 0 (by omega)
    have e : a < wl := pe_in (w := w) (j := a + 0) (by omega)
    have w2 := ih (a + 1) _ (h.mv (a + 1)) (by omega) (fun j hj => by rw [show a + 1 + j = a + (j + 1) by omega]; exact hb _ (by omega)) (by rw [show a + 1 + k = a + (k + 1) by omega]; exact h0) Q (by
      rw [zup2, show a + 1 + k = a + (k + 1) by omega]
      exact hQ)
    obtain ⟨h1, h2, h3⟩ := h
    have e2 := h2 a e
    rw [Nat.add_zero, pe_w e] at hp
    rw [hp] at e2
    refine zgo 20 [] ?_
    repeat' (first
      | (exact zcg (by simp (disch := first | omega | decide) only [h3, zcn, zkpl, zki, zki1, zk8, zk16, zo32, zlt0, zle0, zeq0, zgt0, zLe0, nI_ltI, nI_leI, nI_eq, nI_add, nI_clamp, vp_in_nI, zup_s, zup_n, upd_s, upd_n, ne_eq, not_true_eq_false, not_false_eq_true]) w2)
      | (show vp_in _ _; simp (disch := first | omega | decide) only [h1, h3, e2, zcn, zkpl, zki, zki1, zk8, zk16, zo32, zlt0, zle0, zeq0, zgt0, zLe0, nI_ltI, nI_leI, nI_eq, nI_add, nI_clamp, vp_in_nI, zup_s, zup_n, upd_s, upd_n, ne_eq, not_true_eq_false, not_false_eq_true]; done)
      | (intro hc; exfalso; simp (disch := first | omega | decide) only [h1, h3, e2, zcn, zkpl, zki, zki1, zk8, zk16, zo32, zlt0, zle0, zeq0, zgt0, zLe0, nI_ltI, nI_leI, nI_eq, nI_add, nI_clamp, vp_in_nI, zup_s, zup_n, upd_s, upd_n, ne_eq, not_true_eq_false, not_false_eq_true] at hc <;> omega)
      | (intro hc; exact absurd rfl hc)
      | intro hc
      | apply And.intro
      | exact Or.inl rfl
      | exact Or.inr rfl
      | (show (_ : Int32) = 0 ∨ _ = 1; simp (disch := first | omega | decide) only [h1, h3, e2, zcn, zkpl, zki, zki1, zk8, zk16, zo32, zlt0, zle0, zeq0, zgt0, zLe0, nI_ltI, nI_leI, nI_eq, nI_add, nI_clamp, vp_in_nI, zup_s, zup_n, upd_s, upd_n, ne_eq, not_true_eq_false, not_false_eq_true, zeq1, true_or, or_true]; done))
theorem mc_loop {w : Nat → Nat} {wl : Nat} (ho : okT w wl) {u : zM} (h1 : u 42 7 = nI wl) (h2 : aR (u 43) w wl) (Q : zQ) : ∀ (k p : Nat), p + k ≤ 310 → (∀ j, j < k → p + j + 1 < wl ∧ ¬ (pe w wl (p + j) = 45 ∧ pe w wl (p + j + 1) = 45)) → (wl ≤ p + k + 1 ∨ (pe w wl (p + k) = 45 ∧ pe w wl (p + k + 1) = 45)) → ZW 166 (0, 0, 0, 0) 47 [(1, .int (nI (p + k))), (0, .ref 42)] [] (SH, u) Q → ZW 166 (0, 0, 0, 0) 7 [(1, .int (nI p)), (0, .ref 42)] [] (SH, u) Q := by
  have hl := ho.1
  intro k
  induction k with
  | zero =>
    intro p hp _ he w3
    rw [Nat.add_zero] at w3
    by_cases e : p + 1 < wl
    · obtain ⟨e2, e3⟩ := he.resolve_left (by omega)
      rw [Nat.add_zero, pe_w (by omega)] at e2
      rw [Nat.add_zero, pe_w (by omega)] at e3
      have g1 := h2 p (by omega)
      have g2 := h2 (p + 1) (by omega)
      rw [e2] at g1
      rw [e3] at g2
      refine zgo 20 [] ?_
      repeat' (first
        | (exact w3)
        | (show vp_in _ _; simp (disch := first | omega | decide) only [h1, g1, g2, zcn, zkpl, zki, zki1, zk8, zk16, zo32, zlt0, zle0, zeq0, zgt0, zLe0, nI_ltI, nI_leI, nI_eq, nI_add, nI_clamp, vp_in_nI, zup_s, zup_n, upd_s, upd_n, ne_eq, not_true_eq_false, not_false_eq_true]; done)
        | (intro hc; exfalso; simp (disch := first | omega | decide) only [h1, g1, g2, zcn, zkpl, zki, zki1, zk8, zk16, zo32, zlt0, zle0, zeq0, zgt0, zLe0, nI_ltI, nI_leI, nI_eq, nI_add, nI_clamp, vp_in_nI, zup_s, zup_n, upd_s, upd_n, ne_eq, not_true_eq_false, not_false_eq_true] at hc <;> omega)
        | (intro hc; exact absurd rfl hc)
        | intro hc
        | apply And.intro
        | exact Or.inl rfl
        | exact Or.inr rfl
        | (show (_ : Int32) = 0 ∨ _ = 1; simp (disch := first | omega | decide) only [h1, g1, g2, zcn, zkpl, zki, zki1, zk8, zk16, zo32, zlt0, zle0, zeq0, zgt0, zLe0, nI_ltI, nI_leI, nI_eq, nI_add, nI_clamp, vp_in_nI, zup_s, zup_n, upd_s, upd_n, ne_eq, not_true_eq_false, not_false_eq_true, zeq1, true_or, or_true]; done))
    · refine zgo 6 [] ?_
      repeat' (first
        | (exact w3)
        | (show vp_in _ _; simp (disch := first | omega | decide) only [h1, zcn, zkpl, zki, zki1, zk8, zk16, zo32, zlt0, zle0, zeq0, zgt0, zLe0, nI_ltI, nI_leI, nI_eq, nI_add, nI_clamp, vp_in_nI, zup_s, zup_n, upd_s, upd_n, ne_eq, not_true_eq_false, not_false_eq_true]; done)
        | (intro hc; exfalso; simp (disch := first | omega | decide) only [h1, zcn, zkpl, zki, zki1, zk8, zk16, zo32, zlt0, zle0, zeq0, zgt0, zLe0, nI_ltI, nI_leI, nI_eq, nI_add, nI_clamp, vp_in_nI, zup_s, zup_n, upd_s, upd_n, ne_eq, not_true_eq_false, not_false_eq_true] at hc <;> omega)
        | (intro hc; exact absurd rfl hc)
        | intro hc
        | apply And.intro
        | exact Or.inl rfl
        | exact Or.inr rfl
        | (show (_ : Int32) = 0 ∨ _ = 1; simp (disch := first | omega | decide) only [h1, zcn, zkpl, zki, zki1, zk8, zk16, zo32, zlt0, zle0, zeq0, zgt0, zLe0, nI_ltI, nI_leI, nI_eq, nI_add, nI_clamp, vp_in_nI, zup_s, zup_n, upd_s, upd_n, ne_eq, not_true_eq_false, not_false_eq_true, zeq1, true_or, or_true]; done))
  | succ k ih =>
    intro p hp hj he w3
    obtain ⟨e1, e2⟩ := hj 0 (by omega)
    rw [Nat.add_zero, pe_w (show p < wl by omega), pe_w (show p + 1 < wl by omega)] at e2
    rw [Nat.add_zero] at e1
    have g1 := h2 p (by omega)
    have g2 := h2 (p + 1) (by omega)
    have b1 := (ho.2 p (by omega)).2
    have b2 := (ho.2 (p + 1) (by omega)).2
    have w4 := ih (p + 1) (by omega) (fun j g => by rw [show p + 1 + j = p + (j + 1) by omega]; exact hj _ (by omega)) (by rw [show p + 1 + k = p + (k + 1) by omega]; exact he) (by rw [show p + 1 + k = p + (k + 1) by omega]; exact w3)
    have e3 : nI p + Int32.ofInt 1 = nI (p + 1) := by rw [zki, nI_add]
    rw [← e3] at w4
    by_cases e : w p = 45
    · refine zgo 30 [] ?_
      repeat' (first
        | (exact w4)
        | (show vp_in _ _; simp (disch := first | omega | decide) only [h1, g1, g2, zcn, zkpl, zki, zki1, zk8, zk16, zo32, zlt0, zle0, zeq0, zgt0, zLe0, nI_ltI, nI_leI, nI_eq, nI_add, nI_clamp, vp_in_nI, zup_s, zup_n, upd_s, upd_n, ne_eq, not_true_eq_false, not_false_eq_true]; done)
        | (intro hc; exfalso; simp (disch := first | omega | decide) only [h1, g1, g2, zcn, zkpl, zki, zki1, zk8, zk16, zo32, zlt0, zle0, zeq0, zgt0, zLe0, nI_ltI, nI_leI, nI_eq, nI_add, nI_clamp, vp_in_nI, zup_s, zup_n, upd_s, upd_n, ne_eq, not_true_eq_false, not_false_eq_true] at hc <;> omega)
        | (intro hc; exact absurd rfl hc)
        | intro hc
        | apply And.intro
        | exact Or.inl rfl
        | exact Or.inr rfl
        | (show (_ : Int32) = 0 ∨ _ = 1; simp (disch := first | omega | decide) only [h1, g1, g2, zcn, zkpl, zki, zki1, zk8, zk16, zo32, zlt0, zle0, zeq0, zgt0, zLe0, nI_ltI, nI_leI, nI_eq, nI_add, nI_clamp, vp_in_nI, zup_s, zup_n, upd_s, upd_n, ne_eq, not_true_eq_false, not_false_eq_true, zeq1, true_or, or_true]; done))
    · refine zgo 30 [] ?_
      repeat' (first
        | (exact w4)
        | (show vp_in _ _; simp (disch := first | omega | decide) only [h1, g1, g2, zcn, zkpl, zki, zki1, zk8, zk16, zo32, zlt0, zle0, zeq0, zgt0, zLe0, nI_ltI, nI_leI, nI_eq, nI_add, nI_clamp, vp_in_nI, zup_s, zup_n, upd_s, upd_n, ne_eq, not_true_eq_false, not_false_eq_true]; done)
        | (intro hc; exfalso; simp (disch := first | omega | decide) only [h1, g1, g2, zcn, zkpl, zki, zki1, zk8, zk16, zo32, zlt0, zle0, zeq0, zgt0, zLe0, nI_ltI, nI_leI, nI_eq, nI_add, nI_clamp, vp_in_nI, zup_s, zup_n, upd_s, upd_n, ne_eq, not_true_eq_false, not_false_eq_true] at hc <;> omega)
        | (intro hc; exact absurd rfl hc)
        | intro hc
        | apply And.intro
        | exact Or.inl rfl
        | exact Or.inr rfl
        | (show (_ : Int32) = 0 ∨ _ = 1; simp (disch := first | omega | decide) only [h1, g1, g2, zcn, zkpl, zki, zki1, zk8, zk16, zo32, zlt0, zle0, zeq0, zgt0, zLe0, nI_ltI, nI_leI, nI_eq, nI_add, nI_clamp, vp_in_nI, zup_s, zup_n, upd_s, upd_n, ne_eq, not_true_eq_false, not_false_eq_true, zeq1, true_or, or_true]; done))
theorem m_166 {w : Nat → Nat} {wl a k : Nat} (ho : okT w wl) {u : zM} (hx : mX w wl u a) (ha : a + 4 + k ≤ 310) (hk : ∀ j, j < k → a + 4 + j + 1 < wl ∧ ¬ (pe w wl (a + 4 + j) = 45 ∧ pe w wl (a + 4 + j + 1) = 45)) (he : wl ≤ a + 4 + k + 1 ∨ (pe w wl (a + 4 + k) = 45 ∧ pe w wl (a + 4 + k + 1) = 45)) {b : Int32} (hb : (b = 1 ∧ a + 4 + k + 1 < wl ∧ pe w wl (a + 4 + k + 2) = 62) ∨ (b = 0 ∧ ¬ (a + 4 + k + 1 < wl ∧ pe w wl (a + 4 + k + 2) = 62))) : Ev 166 [.ref 42] u none (zup (zup u 42 21 b) 42 20 (nI (a + 4 + k + 3))) := by
  have hl := ho.1
  obtain ⟨h1, h2, h3⟩ := hx
  intro Q hQ
  have f2 : ZW 166 (0, 0, 0, 0) 47 [(1, .int (nI (a + 4 + k))), (0, .ref 42)] [] (SH, u) Q := by
    by_cases e : a + 4 + k + 1 < wl
    · have hs : ∀ b0 : Int32, ((b0 = 1 ∧ pe w wl (a + 4 + k + 2) = 62) ∨ (b0 = 0 ∧ pe w wl (a + 4 + k + 2) ≠ 62)) → Ev 162 [.ref 42, .int (nI (a + 4 + k) + Int32.ofInt 2), .int (Int8.ofInt 62).toInt32] u (some (.int b0)) u := fun b0 g => es_sees ho h1 h2 (a + 4 + k + 2) 62 (by rw [zki, nI_add]) (by decide) (by omega) (by decide) g
      by_cases e2 : pe w wl (a + 4 + k + 2) = 62
      · obtain rfl : b = 1 := by
          rcases hb with hb | hb
          · exact hb.1
          · exact absurd ⟨e, e2⟩ hb.2
        have f3 : ZW 166 (0, 0, 0, 0) 67 [(1, .int (nI (a + 4 + k))), (0, .ref 42)] [.int 1, .ref 42] (SH, u) Q := by
          refine zgo 30 [] ?_
          repeat' (first
            | (show vp_in _ _; simp (disch := first | omega | decide) only [z10, zcn, zkpl, zki, zki1, zk8, zk16, zo32, zlt0, zle0, zeq0, zgt0, zLe0, nI_ltI, nI_leI, nI_eq, nI_add, nI_clamp, vp_in_nI, zup_s, zup_n, upd_s, upd_n, ne_eq, not_true_eq_false, not_false_eq_true]; done)
            | (intro hc; exfalso; simp (disch := first | omega | decide) only [z10, zcn, zkpl, zki, zki1, zk8, zk16, zo32, zlt0, zle0, zeq0, zgt0, zLe0, nI_ltI, nI_leI, nI_eq, nI_add, nI_clamp, vp_in_nI, zup_s, zup_n, upd_s, upd_n, ne_eq, not_true_eq_false, not_false_eq_true] at hc <;> omega)
            | (intro hc; exact absurd rfl hc)
            | intro hc
            | apply And.intro
            | exact hQ
            | (show Q _ (SH, _); simp (disch := first | omega | decide) only [z10, zcn, zkpl, zki, zki1, zk8, zk16, zo32, zlt0, zle0, zeq0, zgt0, zLe0, nI_ltI, nI_leI, nI_eq, nI_add, nI_clamp, vp_in_nI, zup_s, zup_n, upd_s, upd_n, ne_eq, not_true_eq_false, not_false_eq_true]; exact hQ)
            | exact Or.inl rfl
            | exact Or.inr rfl
            | (show (_ : Int32) = 0 ∨ _ = 1; simp (disch := first | omega | decide) only [z10, zcn, zkpl, zki, zki1, zk8, zk16, zo32, zlt0, zle0, zeq0, zgt0, zLe0, nI_ltI, nI_leI, nI_eq, nI_add, nI_clamp, vp_in_nI, zup_s, zup_n, upd_s, upd_n, ne_eq, not_true_eq_false, not_false_eq_true, zeq1, true_or, or_true]; done))
        refine zgo 30 [] ?_
        repeat' (first
          | (exact (hs 1 (Or.inl ⟨rfl, e2⟩)).use f3)
          | (show vp_in _ _; simp (disch := first | omega | decide) only [h1, zcn, zkpl, zki, zki1, zk8, zk16, zo32, zlt0, zle0, zeq0, zgt0, zLe0, nI_ltI, nI_leI, nI_eq, nI_add, nI_clamp, vp_in_nI, zup_s, zup_n, upd_s, upd_n, ne_eq, not_true_eq_false, not_false_eq_true]; done)
          | (intro hc; exfalso; simp (disch := first | omega | decide) only [h1, zcn, zkpl, zki, zki1, zk8, zk16, zo32, zlt0, zle0, zeq0, zgt0, zLe0, nI_ltI, nI_leI, nI_eq, nI_add, nI_clamp, vp_in_nI, zup_s, zup_n, upd_s, upd_n, ne_eq, not_true_eq_false, not_false_eq_true] at hc <;> omega)
          | (intro hc; exact absurd rfl hc)
          | intro hc
          | apply And.intro
          | exact Or.inl rfl
          | exact Or.inr rfl
          | (show (_ : Int32) = 0 ∨ _ = 1; simp (disch := first | omega | decide) only [h1, zcn, zkpl, zki, zki1, zk8, zk16, zo32, zlt0, zle0, zeq0, zgt0, zLe0, nI_ltI, nI_leI, nI_eq, nI_add, nI_clamp, vp_in_nI, zup_s, zup_n, upd_s, upd_n, ne_eq, not_true_eq_false, not_false_eq_true, zeq1, true_or, or_true]; done))
      · obtain rfl : b = 0 := by
          rcases hb with hb | hb
          · exact absurd hb.2.2 e2
          · exact hb.1
        have f3 : ZW 166 (0, 0, 0, 0) 67 [(1, .int (nI (a + 4 + k))), (0, .ref 42)] [.int 0, .ref 42] (SH, u) Q := by
          refine zgo 30 [] ?_
          repeat' (first
            | (show vp_in _ _; simp (disch := first | omega | decide) only [z10, zcn, zkpl, zki, zki1, zk8, zk16, zo32, zlt0, zle0, zeq0, zgt0, zLe0, nI_ltI, nI_leI, nI_eq, nI_add, nI_clamp, vp_in_nI, zup_s, zup_n, upd_s, upd_n, ne_eq, not_true_eq_false, not_false_eq_true]; done)
            | (intro hc; exfalso; simp (disch := first | omega | decide) only [z10, zcn, zkpl, zki, zki1, zk8, zk16, zo32, zlt0, zle0, zeq0, zgt0, zLe0, nI_ltI, nI_leI, nI_eq, nI_add, nI_clamp, vp_in_nI, zup_s, zup_n, upd_s, upd_n, ne_eq, not_true_eq_false, not_false_eq_true] at hc <;> omega)
            | (intro hc; exact absurd rfl hc)
            | intro hc
            | apply And.intro
            | exact hQ
            | (show Q _ (SH, _); simp (disch := first | omega | decide) only [z10, zcn, zkpl, zki, zki1, zk8, zk16, zo32, zlt0, zle0, zeq0, zgt0, zLe0, nI_ltI, nI_leI, nI_eq, nI_add, nI_clamp, vp_in_nI, zup_s, zup_n, upd_s, upd_n, ne_eq, not_true_eq_false, not_false_eq_true]; exact hQ)
            | exact Or.inl rfl
            | exact Or.inr rfl
            | (show (_ : Int32) = 0 ∨ _ = 1; simp (disch := first | omega | decide) only [z10, zcn, zkpl, zki, zki1, zk8, zk16, zo32, zlt0, zle0, zeq0, zgt0, zLe0, nI_ltI, nI_leI, nI_eq, nI_add, nI_clamp, vp_in_nI, zup_s, zup_n, upd_s, upd_n, ne_eq, not_true_eq_false, not_false_eq_true, zeq1, true_or, or_true]; done))
        refine zgo 30 [] ?_
        repeat' (first
          | (exact (hs 0 (Or.inr ⟨rfl, e2⟩)).use f3)
          | (show vp_in _ _; simp (disch := first | omega | decide) only [h1, zcn, zkpl, zki, zki1, zk8, zk16, zo32, zlt0, zle0, zeq0, zgt0, zLe0, nI_ltI, nI_leI, nI_eq, nI_add, nI_clamp, vp_in_nI, zup_s, zup_n, upd_s, upd_n, ne_eq, not_true_eq_false, not_false_eq_true]; done)
          | (intro hc; exfalso; simp (disch := first | omega | decide) only [h1, zcn, zkpl, zki, zki1, zk8, zk16, zo32, zlt0, zle0, zeq0, zgt0, zLe0, nI_ltI, nI_leI, nI_eq, nI_add, nI_clamp, vp_in_nI, zup_s, zup_n, upd_s, upd_n, ne_eq, not_true_eq_false, not_false_eq_true] at hc <;> omega)
          | (intro hc; exact absurd rfl hc)
          | intro hc
          | apply And.intro
          | exact Or.inl rfl
          | exact Or.inr rfl
          | (show (_ : Int32) = 0 ∨ _ = 1; simp (disch := first | omega | decide) only [h1, zcn, zkpl, zki, zki1, zk8, zk16, zo32, zlt0, zle0, zeq0, zgt0, zLe0, nI_ltI, nI_leI, nI_eq, nI_add, nI_clamp, vp_in_nI, zup_s, zup_n, upd_s, upd_n, ne_eq, not_true_eq_false, not_false_eq_true, zeq1, true_or, or_true]; done))
    · obtain rfl : b = 0 := by
        rcases hb with hb | hb
        · exact absurd hb.2.1 e
        · exact hb.1
      refine zgo 30 [] ?_
      repeat' (first
        | (show vp_in _ _; simp (disch := first | omega | decide) only [h1, zcn, zkpl, zki, zki1, zk8, zk16, zo32, zlt0, zle0, zeq0, zgt0, zLe0, nI_ltI, nI_leI, nI_eq, nI_add, nI_clamp, vp_in_nI, zup_s, zup_n, upd_s, upd_n, ne_eq, not_true_eq_false, not_false_eq_true]; done)
        | (intro hc; exfalso; simp (disch := first | omega | decide) only [h1, zcn, zkpl, zki, zki1, zk8, zk16, zo32, zlt0, zle0, zeq0, zgt0, zLe0, nI_ltI, nI_leI, nI_eq, nI_add, nI_clamp, vp_in_nI, zup_s, zup_n, upd_s, upd_n, ne_eq, not_true_eq_false, not_false_eq_true] at hc <;> omega)
        | (intro hc; exact absurd rfl hc)
        | intro hc
        | apply And.intro
        | exact hQ
        | (show Q _ (SH, _); simp (disch := first | omega | decide) only [h1, zcn, zkpl, zki, zki1, zk8, zk16, zo32, zlt0, zle0, zeq0, zgt0, zLe0, nI_ltI, nI_leI, nI_eq, nI_add, nI_clamp, vp_in_nI, zup_s, zup_n, upd_s, upd_n, ne_eq, not_true_eq_false, not_false_eq_true]; exact hQ)
        | exact Or.inl rfl
        | exact Or.inr rfl
        | (show (_ : Int32) = 0 ∨ _ = 1; simp (disch := first | omega | decide) only [h1, zcn, zkpl, zki, zki1, zk8, zk16, zo32, zlt0, zle0, zeq0, zgt0, zLe0, nI_ltI, nI_leI, nI_eq, nI_add, nI_clamp, vp_in_nI, zup_s, zup_n, upd_s, upd_n, ne_eq, not_true_eq_false, not_false_eq_true, zeq1, true_or, or_true]; done))
  have f1 := mc_loop ho h1 h2 Q k (a + 4) ha hk he f2
  have e3 : u 42 20 + Int32.ofInt 4 = nI (a + 4) := by rw [h3, zki, nI_add]
  rw [← e3] at f1
  refine zgo 30 [] ?_
  exact f1
/-- a character -/
def mad (u : zM) (s : pS) (c d : Nat) : zM := zup (zup (zup (zup u 42 21 1) 47 (s 7 d) (nI (if c = 32 then s 6 (s 7 d) else 1))) 50 (s 0 2) (nI c)) 42 16 (nI (s 0 2 + 1))
theorem m_169 {u : zM} {s : pS} {a c d : Nat} (h : mD u s) (hi : sI a s) (ha : a < 300) (hc8 : c ≤ 126) (hd : s 0 3 = d + 1) : Ev 169 [.ref 42, .int (nI c)] u none (mad u s c d) := by
  obtain ⟨⟨h1, h2, h3, h4⟩, ⟨h5, h6, h7, h8⟩, h9, h10, h11⟩ := h
  obtain ⟨p1, p2, p3⟩ := hi.2.2.2.1 d (by omega)
  have p4 := hi.1
  have e7 := h9 d (by omega)
  have e6 := h8 _ p1
  obtain ⟨_, _, q3⟩ := hi.2.1 _ p1
  rw [hd] at h3
  have hvc := vch (b := c) (by omega)
  intro Q hQ
  unfold mad at hQ
  generalize s 7 d = k at *
  generalize s 0 1 = N at *
  generalize s 0 2 = L at *
  by_cases e : c = 32
  · rw [if_pos e] at hQ
    rcases (show s 6 k = 0 ∨ s 6 k = 1 by omega) with g | g
    · rw [g] at hQ e6
      refine zgo 60 [] ?_
      repeat' (first
        | (show vp_in _ _; simp (disch := first | omega | decide) only [h1, h2, h3, e7, e6, hvc, pk_sub, Nat.add_sub_cancel, zboo0, zboo1n, zcn, zkpl, zki, zki1, zk8, zk16, zo32, zlt0, zle0, zeq0, zgt0, zLe0, nI_ltI, nI_leI, nI_eq, nI_add, nI_clamp, vp_in_nI, zup_s, zup_n, upd_s, upd_n, ne_eq, not_true_eq_false, not_false_eq_true]; done)
        | (intro hc; exfalso; simp (disch := first | omega | decide) only [h1, h2, h3, e7, e6, hvc, pk_sub, Nat.add_sub_cancel, zboo0, zboo1n, zcn, zkpl, zki, zki1, zk8, zk16, zo32, zlt0, zle0, zeq0, zgt0, zLe0, nI_ltI, nI_leI, nI_eq, nI_add, nI_clamp, vp_in_nI, zup_s, zup_n, upd_s, upd_n, ne_eq, not_true_eq_false, not_false_eq_true] at hc <;> omega)
        | (intro hc; exact absurd rfl hc)
        | intro hc
        | apply And.intro
        | exact hQ
        | (show Q _ (SH, _); simp (disch := first | omega | decide) only [h1, h2, h3, e7, e6, hvc, pk_sub, Nat.add_sub_cancel, zboo0, zboo1n, zcn, zkpl, zki, zki1, zk8, zk16, zo32, zlt0, zle0, zeq0, zgt0, zLe0, nI_ltI, nI_leI, nI_eq, nI_add, nI_clamp, vp_in_nI, zup_s, zup_n, upd_s, upd_n, ne_eq, not_true_eq_false, not_false_eq_true]; exact hQ)
        | exact Or.inl rfl
        | exact Or.inr rfl
        | (show (_ : Int32) = 0 ∨ _ = 1; simp (disch := first | omega | decide) only [h1, h2, h3, e7, e6, hvc, pk_sub, Nat.add_sub_cancel, zboo0, zboo1n, zcn, zkpl, zki, zki1, zk8, zk16, zo32, zlt0, zle0, zeq0, zgt0, zLe0, nI_ltI, nI_leI, nI_eq, nI_add, nI_clamp, vp_in_nI, zup_s, zup_n, upd_s, upd_n, ne_eq, not_true_eq_false, not_false_eq_true, zeq1, true_or, or_true]; done))
    · rw [g] at hQ e6
      refine zgo 60 [] ?_
      repeat' (first
        | (show vp_in _ _; simp (disch := first | omega | decide) only [h1, h2, h3, e7, e6, hvc, pk_sub, Nat.add_sub_cancel, zboo0, zboo1n, zcn, zkpl, zki, zki1, zk8, zk16, zo32, zlt0, zle0, zeq0, zgt0, zLe0, nI_ltI, nI_leI, nI_eq, nI_add, nI_clamp, vp_in_nI, zup_s, zup_n, upd_s, upd_n, ne_eq, not_true_eq_false, not_false_eq_true]; done)
        | (intro hc; exfalso; simp (disch := first | omega | decide) only [h1, h2, h3, e7, e6, hvc, pk_sub, Nat.add_sub_cancel, zboo0, zboo1n, zcn, zkpl, zki, zki1, zk8, zk16, zo32, zlt0, zle0, zeq0, zgt0, zLe0, nI_ltI, nI_leI, nI_eq, nI_add, nI_clamp, vp_in_nI, zup_s, zup_n, upd_s, upd_n, ne_eq, not_true_eq_false, not_false_eq_true] at hc <;> omega)
        | (intro hc; exact absurd rfl hc)
        | intro hc
        | apply And.intro
        | exact hQ
        | (show Q _ (SH, _); simp (disch := first | omega | decide) only [h1, h2, h3, e7, e6, hvc, pk_sub, Nat.add_sub_cancel, zboo0, zboo1n, zcn, zkpl, zki, zki1, zk8, zk16, zo32, zlt0, zle0, zeq0, zgt0, zLe0, nI_ltI, nI_leI, nI_eq, nI_add, nI_clamp, vp_in_nI, zup_s, zup_n, upd_s, upd_n, ne_eq, not_true_eq_false, not_false_eq_true]; exact hQ)
        | exact Or.inl rfl
        | exact Or.inr rfl
        | (show (_ : Int32) = 0 ∨ _ = 1; simp (disch := first | omega | decide) only [h1, h2, h3, e7, e6, hvc, pk_sub, Nat.add_sub_cancel, zboo0, zboo1n, zcn, zkpl, zki, zki1, zk8, zk16, zo32, zlt0, zle0, zeq0, zgt0, zLe0, nI_ltI, nI_leI, nI_eq, nI_add, nI_clamp, vp_in_nI, zup_s, zup_n, upd_s, upd_n, ne_eq, not_true_eq_false, not_false_eq_true, zeq1, true_or, or_true]; done))
  · rw [if_neg e] at hQ
    rcases (show s 6 k = 0 ∨ s 6 k = 1 by omega) with g | g
    · rw [g] at e6
      refine zgo 60 [] ?_
      repeat' (first
        | (show vp_in _ _; simp (disch := first | omega | decide) only [h1, h2, h3, e7, e6, hvc, pk_sub, Nat.add_sub_cancel, zboo0, zboo1n, zcn, zkpl, zki, zki1, zk8, zk16, zo32, zlt0, zle0, zeq0, zgt0, zLe0, nI_ltI, nI_leI, nI_eq, nI_add, nI_clamp, vp_in_nI, zup_s, zup_n, upd_s, upd_n, ne_eq, not_true_eq_false, not_false_eq_true]; done)
        | (intro hc; exfalso; simp (disch := first | omega | decide) only [h1, h2, h3, e7, e6, hvc, pk_sub, Nat.add_sub_cancel, zboo0, zboo1n, zcn, zkpl, zki, zki1, zk8, zk16, zo32, zlt0, zle0, zeq0, zgt0, zLe0, nI_ltI, nI_leI, nI_eq, nI_add, nI_clamp, vp_in_nI, zup_s, zup_n, upd_s, upd_n, ne_eq, not_true_eq_false, not_false_eq_true] at hc <;> omega)
        | (intro hc; exact absurd rfl hc)
        | intro hc
        | apply And.intro
        | exact hQ
        | (show Q _ (SH, _); simp (disch := first | omega | decide) only [h1, h2, h3, e7, e6, hvc, pk_sub, Nat.add_sub_cancel, zboo0, zboo1n, zcn, zkpl, zki, zki1, zk8, zk16, zo32, zlt0, zle0, zeq0, zgt0, zLe0, nI_ltI, nI_leI, nI_eq, nI_add, nI_clamp, vp_in_nI, zup_s, zup_n, upd_s, upd_n, ne_eq, not_true_eq_false, not_false_eq_true]; exact hQ)
        | exact Or.inl rfl
        | exact Or.inr rfl
        | (show (_ : Int32) = 0 ∨ _ = 1; simp (disch := first | omega | decide) only [h1, h2, h3, e7, e6, hvc, pk_sub, Nat.add_sub_cancel, zboo0, zboo1n, zcn, zkpl, zki, zki1, zk8, zk16, zo32, zlt0, zle0, zeq0, zgt0, zLe0, nI_ltI, nI_leI, nI_eq, nI_add, nI_clamp, vp_in_nI, zup_s, zup_n, upd_s, upd_n, ne_eq, not_true_eq_false, not_false_eq_true, zeq1, true_or, or_true]; done))
    · rw [g] at e6
      refine zgo 60 [] ?_
      repeat' (first
        | (show vp_in _ _; simp (disch := first | omega | decide) only [h1, h2, h3, e7, e6, hvc, pk_sub, Nat.add_sub_cancel, zboo0, zboo1n, zcn, zkpl, zki, zki1, zk8, zk16, zo32, zlt0, zle0, zeq0, zgt0, zLe0, nI_ltI, nI_leI, nI_eq, nI_add, nI_clamp, vp_in_nI, zup_s, zup_n, upd_s, upd_n, ne_eq, not_true_eq_false, not_false_eq_true]; done)
        | (intro hc; exfalso; simp (disch := first | omega | decide) only [h1, h2, h3, e7, e6, hvc, pk_sub, Nat.add_sub_cancel, zboo0, zboo1n, zcn, zkpl, zki, zki1, zk8, zk16, zo32, zlt0, zle0, zeq0, zgt0, zLe0, nI_ltI, nI_leI, nI_eq, nI_add, nI_clamp, vp_in_nI, zup_s, zup_n, upd_s, upd_n, ne_eq, not_true_eq_false, not_false_eq_true] at hc <;> omega)
        | (intro hc; exact absurd rfl hc)
        | intro hc
        | apply And.intro
        | exact hQ
        | (show Q _ (SH, _); simp (disch := first | omega | decide) only [h1, h2, h3, e7, e6, hvc, pk_sub, Nat.add_sub_cancel, zboo0, zboo1n, zcn, zkpl, zki, zki1, zk8, zk16, zo32, zlt0, zle0, zeq0, zgt0, zLe0, nI_ltI, nI_leI, nI_eq, nI_add, nI_clamp, vp_in_nI, zup_s, zup_n, upd_s, upd_n, ne_eq, not_true_eq_false, not_false_eq_true]; exact hQ)
        | exact Or.inl rfl
        | exact Or.inr rfl
        | (show (_ : Int32) = 0 ∨ _ = 1; simp (disch := first | omega | decide) only [h1, h2, h3, e7, e6, hvc, pk_sub, Nat.add_sub_cancel, zboo0, zboo1n, zcn, zkpl, zki, zki1, zk8, zk16, zo32, zlt0, zle0, zeq0, zgt0, zLe0, nI_ltI, nI_leI, nI_eq, nI_add, nI_clamp, vp_in_nI, zup_s, zup_n, upd_s, upd_n, ne_eq, not_true_eq_false, not_false_eq_true, zeq1, true_or, or_true]; done))
theorem m_1690 {u : zM} {c : Nat} (h : u 42 18 = nI 0) (hc8 : c ≤ 126) {b : Int32} (hb : (b = 1 ∧ c = 32) ∨ (b = 0 ∧ c ≠ 32)) : Ev 169 [.ref 42, .int (nI c)] u none (zup u 42 21 b) := by
  intro Q hQ
  rcases hb with ⟨rfl, hb⟩ | ⟨rfl, hb⟩
  · refine zgo 60 [] ?_
    repeat' (first
      | (show vp_in _ _; simp (disch := first | omega | decide) only [h, zcn, zkpl, zki, zki1, zk8, zk16, zo32, zlt0, zle0, zeq0, zgt0, zLe0, nI_ltI, nI_leI, nI_eq, nI_add, nI_clamp, vp_in_nI, zup_s, zup_n, upd_s, upd_n, ne_eq, not_true_eq_false, not_false_eq_true]; done)
      | (intro hc; exfalso; simp (disch := first | omega | decide) only [h, zcn, zkpl, zki, zki1, zk8, zk16, zo32, zlt0, zle0, zeq0, zgt0, zLe0, nI_ltI, nI_leI, nI_eq, nI_add, nI_clamp, vp_in_nI, zup_s, zup_n, upd_s, upd_n, ne_eq, not_true_eq_false, not_false_eq_true] at hc <;> omega)
      | (intro hc; exact absurd rfl hc)
      | intro hc
      | apply And.intro
      | exact hQ
      | (show Q _ (SH, _); simp (disch := first | omega | decide) only [h, zcn, zkpl, zki, zki1, zk8, zk16, zo32, zlt0, zle0, zeq0, zgt0, zLe0, nI_ltI, nI_leI, nI_eq, nI_add, nI_clamp, vp_in_nI, zup_s, zup_n, upd_s, upd_n, ne_eq, not_true_eq_false, not_false_eq_true]; exact hQ)
      | exact Or.inl rfl
      | exact Or.inr rfl
      | (show (_ : Int32) = 0 ∨ _ = 1; simp (disch := first | omega | decide) only [h, zcn, zkpl, zki, zki1, zk8, zk16, zo32, zlt0, zle0, zeq0, zgt0, zLe0, nI_ltI, nI_leI, nI_eq, nI_add, nI_clamp, vp_in_nI, zup_s, zup_n, upd_s, upd_n, ne_eq, not_true_eq_false, not_false_eq_true, zeq1, true_or, or_true]; done))
  · refine zgo 60 [] ?_
    repeat' (first
      | (show vp_in _ _; simp (disch := first | omega | decide) only [h, zcn, zkpl, zki, zki1, zk8, zk16, zo32, zlt0, zle0, zeq0, zgt0, zLe0, nI_ltI, nI_leI, nI_eq, nI_add, nI_clamp, vp_in_nI, zup_s, zup_n, upd_s, upd_n, ne_eq, not_true_eq_false, not_false_eq_true]; done)
      | (intro hc; exfalso; simp (disch := first | omega | decide) only [h, zcn, zkpl, zki, zki1, zk8, zk16, zo32, zlt0, zle0, zeq0, zgt0, zLe0, nI_ltI, nI_leI, nI_eq, nI_add, nI_clamp, vp_in_nI, zup_s, zup_n, upd_s, upd_n, ne_eq, not_true_eq_false, not_false_eq_true] at hc <;> omega)
      | (intro hc; exact absurd rfl hc)
      | intro hc
      | apply And.intro
      | exact hQ
      | (show Q _ (SH, _); simp (disch := first | omega | decide) only [h, zcn, zkpl, zki, zki1, zk8, zk16, zo32, zlt0, zle0, zeq0, zgt0, zLe0, nI_ltI, nI_leI, nI_eq, nI_add, nI_clamp, vp_in_nI, zup_s, zup_n, upd_s, upd_n, ne_eq, not_true_eq_false, not_false_eq_true]; exact hQ)
      | exact Or.inl rfl
      | exact Or.inr rfl
      | (show (_ : Int32) = 0 ∨ _ = 1; simp (disch := first | omega | decide) only [h, zcn, zkpl, zki, zki1, zk8, zk16, zo32, zlt0, zle0, zeq0, zgt0, zLe0, nI_ltI, nI_leI, nI_eq, nI_add, nI_clamp, vp_in_nI, zup_s, zup_n, upd_s, upd_n, ne_eq, not_true_eq_false, not_false_eq_true, zeq1, true_or, or_true]; done))
theorem mD_add {u : zM} {s : pS} {c d : Nat} (h : mD u s) : mD (mad u s c d) (addS s c d) := by
  obtain ⟨⟨h1, h2, h3, h4⟩, ⟨h5, h6, h7, h8⟩, h9, h10, h11, h12, h13⟩ := h
  exact ⟨⟨h1, rfl, h3, h4⟩, ⟨h5, h6, h7, aR_set h8 _ _⟩, h9, aR_push h10 c, h11, h12, h13⟩
theorem mG_add {u : zM} {s : pS} {c d : Nat} : mG u (mad u s c d) := (mG_f u _ (by decide)).tr ((mG_a _ _ (by decide)).tr ((mG_a _ _ (by decide)).tr (mG_f _ _ (by decide))))
/-- an end sign -/
def mcl (u : zM) (s : pS) (a d : Nat) : zM := zup (zup (zup (zup u 42 21 1) 42 20 (nI a)) 42 18 (nI d)) 49 (s 7 d) (nI (s 0 2))
theorem mD_end {u : zM} {s : pS} {a d : Nat} (h : mD u s) (hd : s 0 3 = d + 1) : mD (mcl u s a d) (endS s d) := by
  obtain ⟨⟨h1, h2, h3, h4⟩, ⟨h5, h6, h7, h8⟩, h9, h10, h11, h12, h13⟩ := h
  exact ⟨⟨h1, h2, rfl, h4⟩, ⟨h5, h6, aR_set h7 _ _, h8⟩, aR_mono h9 (show d ≤ s 0 3 by omega), h10, h11, h12, h13⟩
theorem mG_end {u : zM} {s : pS} {a d : Nat} : mG u (mcl u s a d) := (mG_f u _ (by decide)).tr ((mG_f _ _ (by decide)).tr ((mG_f _ _ (by decide)).tr (mG_a _ _ (by decide))))
theorem m_167_t {w : Nat → Nat} {wl a k : Nat} (ho : okT w wl) {u : zM} (hx : mX w wl u a) (ha : a < wl) (hk : ∀ j, j < k → pe w wl (a + 3 + j) = 32) (hk2 : pe w wl (a + 3 + k) ≠ 32) {r : Int32} (Q : zQ) (W : ZW 167 (0, 0, 0, 0) 70 [(1, .int r), (0, .ref 42)] [] (SH, zup u 42 20 (nI (a + 3 + k))) Q) : ZW 167 (0, 0, 0, 0) 55 [(0, .ref 42)] [.int r] (SH, u) Q := by
  have hl := ho.1
  have hs := es_skip ho k (a + 3) _ (hx.mv (a + 3)) (by omega) hk hk2
  rw [zup2] at hs
  have h3 := hx.2.2
  refine zgo 20 [] ?_
  repeat' (first
    | (exact zcm (by simp (disch := first | omega | decide) only [h3, zcn, zkpl, zki, zki1, zk8, zk16, zo32, zlt0, zle0, zeq0, zgt0, zLe0, nI_ltI, nI_leI, nI_eq, nI_add, nI_clamp, vp_in_nI, zup_s, zup_n, upd_s, upd_n, ne_eq, not_true_eq_false, not_false_eq_true]) (hs.use W))
    | (show vp_in _ _; simp (disch := first | omega | decide) only [zcn, zkpl, zki, zki1, zk8, zk16, zo32, zlt0, zle0, zeq0, zgt0, zLe0, nI_ltI, nI_leI, nI_eq, nI_add, nI_clamp, vp_in_nI, zup_s, zup_n, upd_s, upd_n, ne_eq, not_true_eq_false, not_false_eq_true]; done)
    | (intro hc; exfalso; simp (disch := first | omega | decide) only [zcn, zkpl, zki, zki1, zk8, zk16, zo32, zlt0, zle0, zeq0, zgt0, zLe0, nI_ltI, nI_leI, nI_eq, nI_add, nI_clamp, vp_in_nI, zup_s, zup_n, upd_s, upd_n, ne_eq, not_true_eq_false, not_false_eq_true] at hc <;> omega)
    | (intro hc; exact absurd rfl hc)
    | intro hc
    | apply And.intro
    | exact Or.inl rfl
    | exact Or.inr rfl
    | (show (_ : Int32) = 0 ∨ _ = 1; simp (disch := first | omega | decide) only [zcn, zkpl, zki, zki1, zk8, zk16, zo32, zlt0, zle0, zeq0, zgt0, zLe0, nI_ltI, nI_leI, nI_eq, nI_add, nI_clamp, vp_in_nI, zup_s, zup_n, upd_s, upd_n, ne_eq, not_true_eq_false, not_false_eq_true, zeq1, true_or, or_true]; done))
theorem m_167_no {w : Nat → Nat} {wl a k : Nat} (ho : okT w wl) {u : zM} {s : pS} (hx : mX w wl u a) (hd : mD u s) (hi : sI a s) (ha : a < wl) (hk : ∀ j, j < k → pe w wl (a + 3 + j) = 32) (hk2 : pe w wl (a + 3 + k) ≠ 32) (h : ∀ d, s 0 3 = d + 1 → s 2 (s 7 d) ≠ pe w wl (a + 2)) : Ev 167 [.ref 42] u none (zup (zup u 42 21 0) 42 20 (nI (a + 3 + k + 1))) := by
  have hl := ho.1
  intro Q hQ
  have i1 := hi.1
  have f1 : ZW 167 (0, 0, 0, 0) 70 [(1, .int 0), (0, .ref 42)] [] (SH, zup u 42 20 (nI (a + 3 + k))) Q := by
    have e : zup (zup (zup u 42 20 (nI (a + 3 + k))) 42 21 0) 42 20 (nI (a + 3 + k + 1)) = zup (zup u 42 21 0) 42 20 (nI (a + 3 + k + 1)) := by
      funext b j
      unfold zup upd
      by_cases e : b = 42
      · simp only [e, if_true]
        by_cases e2 : j = 20
        · simp only [e2, if_true]
        · simp only [e2, if_false]
      · simp only [e, if_false]
    rw [← e] at hQ
    refine zgo 40 [] ?_
    repeat' (first
      | (show vp_in _ _; simp (disch := first | omega | decide) only [zcn, zkpl, zki, zki1, zk8, zk16, zo32, zlt0, zle0, zeq0, zgt0, zLe0, nI_ltI, nI_leI, nI_eq, nI_add, nI_clamp, vp_in_nI, zup_s, zup_n, upd_s, upd_n, ne_eq, not_true_eq_false, not_false_eq_true]; done)
      | (intro hc; exfalso; simp (disch := first | omega | decide) only [zcn, zkpl, zki, zki1, zk8, zk16, zo32, zlt0, zle0, zeq0, zgt0, zLe0, nI_ltI, nI_leI, nI_eq, nI_add, nI_clamp, vp_in_nI, zup_s, zup_n, upd_s, upd_n, ne_eq, not_true_eq_false, not_false_eq_true] at hc <;> omega)
      | (intro hc; exact absurd rfl hc)
      | intro hc
      | apply And.intro
      | exact hQ
      | (show Q _ (SH, _); simp (disch := first | omega | decide) only [zcn, zkpl, zki, zki1, zk8, zk16, zo32, zlt0, zle0, zeq0, zgt0, zLe0, nI_ltI, nI_leI, nI_eq, nI_add, nI_clamp, vp_in_nI, zup_s, zup_n, upd_s, upd_n, ne_eq, not_true_eq_false, not_false_eq_true]; exact hQ)
      | exact Or.inl rfl
      | exact Or.inr rfl
      | (show (_ : Int32) = 0 ∨ _ = 1; simp (disch := first | omega | decide) only [zcn, zkpl, zki, zki1, zk8, zk16, zo32, zlt0, zle0, zeq0, zgt0, zLe0, nI_ltI, nI_leI, nI_eq, nI_add, nI_clamp, vp_in_nI, zup_s, zup_n, upd_s, upd_n, ne_eq, not_true_eq_false, not_false_eq_true, zeq1, true_or, or_true]; done))
  have f0 := m_167_t ho hx ha hk hk2 Q f1
  obtain ⟨h1, h2, h3⟩ := hx
  have d3 := hd.1.2.2.1
  cases e : s 0 3 with
  | zero =>
    rw [e] at d3
    refine zgo 4 [] ?_
    repeat' (first
      | (exact f0)
      | (show vp_in _ _; simp (disch := first | omega | decide) only [d3, zcn, zkpl, zki, zki1, zk8, zk16, zo32, zlt0, zle0, zeq0, zgt0, zLe0, nI_ltI, nI_leI, nI_eq, nI_add, nI_clamp, vp_in_nI, zup_s, zup_n, upd_s, upd_n, ne_eq, not_true_eq_false, not_false_eq_true]; done)
      | (intro hc; exfalso; simp (disch := first | omega | decide) only [d3, zcn, zkpl, zki, zki1, zk8, zk16, zo32, zlt0, zle0, zeq0, zgt0, zLe0, nI_ltI, nI_leI, nI_eq, nI_add, nI_clamp, vp_in_nI, zup_s, zup_n, upd_s, upd_n, ne_eq, not_true_eq_false, not_false_eq_true] at hc <;> omega)
      | (intro hc; exact absurd rfl hc)
      | intro hc
      | apply And.intro
      | exact Or.inl rfl
      | exact Or.inr rfl
      | (show (_ : Int32) = 0 ∨ _ = 1; simp (disch := first | omega | decide) only [d3, zcn, zkpl, zki, zki1, zk8, zk16, zo32, zlt0, zle0, zeq0, zgt0, zLe0, nI_ltI, nI_leI, nI_eq, nI_add, nI_clamp, vp_in_nI, zup_s, zup_n, upd_s, upd_n, ne_eq, not_true_eq_false, not_false_eq_true, zeq1, true_or, or_true]; done))
  | succ d =>
    rw [e] at d3
    have hne := h d e
    obtain ⟨p1, p2, p3⟩ := hi.2.2.2.1 d (by omega)
    have e7 := hd.2.2.1 d (by omega)
    have e2 := hd.2.1.1 _ p1
    have q2 := (hi.2.1 _ p1).1
    generalize s 7 d = i at *
    generalize s 0 1 = N at *
    by_cases e3 : a + 2 < wl
    · rw [pe_w e3] at hne
      have g2 := h2 (a + 2) e3
      have g3 := (ho.2 (a + 2) e3).2
      refine zgo 29 [] ?_
      repeat' (first
        | (exact f0)
        | (show vp_in _ _; simp (disch := first | omega | decide) only [d3, h1, h3, g2, e7, e2, pk_sub, Nat.add_sub_cancel, zcn, zkpl, zki, zki1, zk8, zk16, zo32, zlt0, zle0, zeq0, zgt0, zLe0, nI_ltI, nI_leI, nI_eq, nI_add, nI_clamp, vp_in_nI, zup_s, zup_n, upd_s, upd_n, ne_eq, not_true_eq_false, not_false_eq_true]; done)
        | (intro hc; exfalso; simp (disch := first | omega | decide) only [d3, h1, h3, g2, e7, e2, pk_sub, Nat.add_sub_cancel, zcn, zkpl, zki, zki1, zk8, zk16, zo32, zlt0, zle0, zeq0, zgt0, zLe0, nI_ltI, nI_leI, nI_eq, nI_add, nI_clamp, vp_in_nI, zup_s, zup_n, upd_s, upd_n, ne_eq, not_true_eq_false, not_false_eq_true] at hc <;> omega)
        | (intro hc; exact absurd rfl hc)
        | intro hc
        | apply And.intro
        | exact Or.inl rfl
        | exact Or.inr rfl
        | (show (_ : Int32) = 0 ∨ _ = 1; simp (disch := first | omega | decide) only [d3, h1, h3, g2, e7, e2, pk_sub, Nat.add_sub_cancel, zcn, zkpl, zki, zki1, zk8, zk16, zo32, zlt0, zle0, zeq0, zgt0, zLe0, nI_ltI, nI_leI, nI_eq, nI_add, nI_clamp, vp_in_nI, zup_s, zup_n, upd_s, upd_n, ne_eq, not_true_eq_false, not_false_eq_true, zeq1, true_or, or_true]; done))
    · refine zgo 11 [] ?_
      repeat' (first
        | (exact f0)
        | (show vp_in _ _; simp (disch := first | omega | decide) only [d3, h1, h3, zcn, zkpl, zki, zki1, zk8, zk16, zo32, zlt0, zle0, zeq0, zgt0, zLe0, nI_ltI, nI_leI, nI_eq, nI_add, nI_clamp, vp_in_nI, zup_s, zup_n, upd_s, upd_n, ne_eq, not_true_eq_false, not_false_eq_true]; done)
        | (intro hc; exfalso; simp (disch := first | omega | decide) only [d3, h1, h3, zcn, zkpl, zki, zki1, zk8, zk16, zo32, zlt0, zle0, zeq0, zgt0, zLe0, nI_ltI, nI_leI, nI_eq, nI_add, nI_clamp, vp_in_nI, zup_s, zup_n, upd_s, upd_n, ne_eq, not_true_eq_false, not_false_eq_true] at hc <;> omega)
        | (intro hc; exact absurd rfl hc)
        | intro hc
        | apply And.intro
        | exact Or.inl rfl
        | exact Or.inr rfl
        | (show (_ : Int32) = 0 ∨ _ = 1; simp (disch := first | omega | decide) only [d3, h1, h3, zcn, zkpl, zki, zki1, zk8, zk16, zo32, zlt0, zle0, zeq0, zgt0, zLe0, nI_ltI, nI_leI, nI_eq, nI_add, nI_clamp, vp_in_nI, zup_s, zup_n, upd_s, upd_n, ne_eq, not_true_eq_false, not_false_eq_true, zeq1, true_or, or_true]; done))
theorem m_167 {w : Nat → Nat} {wl a k d : Nat} (ho : okT w wl) {u : zM} {s : pS} (hx : mX w wl u a) (hd : mD u s) (hi : sI a s) (ha : a < wl) (hk : ∀ j, j < k → pe w wl (a + 3 + j) = 32) (hk2 : pe w wl (a + 3 + k) ≠ 32) (e : s 0 3 = d + 1) (h : s 2 (s 7 d) = pe w wl (a + 2)) : Ev 167 [.ref 42] u none (if pe w wl (a + 3 + k) = 62 then mcl u s (a + 3 + k + 1) d else zup (zup u 42 21 0) 42 20 (nI (a + 3 + k + 1))) := by
  have hl := ho.1
  intro Q hQ
  have i1 := hi.1
  obtain ⟨p1, p2, p3⟩ := hi.2.2.2.1 d (by omega)
  have e7 := hd.2.2.1 d (by omega)
  have e2 := hd.2.1.1 _ p1
  have q2 := (hi.2.1 _ p1).1
  have d2 := hd.1.2.1
  have d3 := hd.1.2.2.1
  rw [e] at d3
  have e3 : a + 2 < wl := pe_in (w := w) (j := a + 2) (by omega)
  have sv : ∀ b0 : Int32, ((b0 = 1 ∧ pe w wl (a + 3 + k) = 62) ∨ (b0 = 0 ∧ pe w wl (a + 3 + k) ≠ 62)) → Ev 162 [.ref 42, .int (nI (a + 3 + k)), .int (Int8.ofInt 62).toInt32] (zup u 42 20 (nI (a + 3 + k))) (some (.int b0)) (zup u 42 20 (nI (a + 3 + k))) := fun b0 g => es_sees ho (hx.mv _).1 (hx.mv _).2.1 (a + 3 + k) 62 rfl (by decide) (by
    by_cases g : a + 3 + k ≤ 400
    · exact g
    · exfalso
      have := hk (400 - (a + 3)) (by omega)
      rw [pe_z (by omega)] at this
      omega) (by decide) g
  have ez : ∀ b : Int32, zup (zup (zup u 42 20 (nI (a + 3 + k))) 42 21 b) 42 20 (nI (a + 3 + k + 1)) = zup (zup u 42 21 b) 42 20 (nI (a + 3 + k + 1)) := fun b => by
    funext b j
    unfold zup upd
    by_cases e : b = 42
    · simp only [e, if_true]
      by_cases e2 : j = 20
      · simp only [e2, if_true]
      · simp only [e2, if_false]
    · simp only [e, if_false]
  have f1 : ZW 167 (0, 0, 0, 0) 70 [(1, .int 1), (0, .ref 42)] [] (SH, zup u 42 20 (nI (a + 3 + k))) Q := by
    by_cases e4 : pe w wl (a + 3 + k) = 62
    · rw [if_pos e4, mcl, ← ez] at hQ
      have e20 : zup u 42 20 (nI (a + 3 + k)) 42 20 = nI (a + 3 + k) := by rw [zup_s, upd_s]
      have e16 : zup u 42 20 (nI (a + 3 + k)) 42 16 = nI (s 0 2) := by rw [zup_s, upd_n _ (by decide), d2]
      have e18 : zup u 42 20 (nI (a + 3 + k)) 42 18 = nI (d + 1) := by rw [zup_s, upd_n _ (by decide), d3]
      have e51 : zup u 42 20 (nI (a + 3 + k)) 51 d = nI (s 7 d) := by rw [zup_n _ (by decide), e7]
      have s1 := sv 1 (Or.inl ⟨rfl, e4⟩)
      generalize zup u 42 20 (nI (a + 3 + k)) = u1 at *
      generalize s 7 d = i at *
      generalize s 0 1 = N at *
      generalize s 0 2 = L at *
      have f2 : ZW 167 (0, 0, 0, 0) 85 [(1, .int 1), (0, .ref 42)] [.int 1, .ref 42] (SH, u1) Q := by
        refine zgo 40 [] ?_
        repeat' (first
          | (show vp_in _ _; simp (disch := first | omega | decide) only [e20, e16, e18, e51, z10, pk_sub, Nat.add_sub_cancel, zcn, zkpl, zki, zki1, zk8, zk16, zo32, zlt0, zle0, zeq0, zgt0, zLe0, nI_ltI, nI_leI, nI_eq, nI_add, nI_clamp, vp_in_nI, zup_s, zup_n, upd_s, upd_n, ne_eq, not_true_eq_false, not_false_eq_true]; done)
          | (intro hc; exfalso; simp (disch := first | omega | decide) only [e20, e16, e18, e51, z10, pk_sub, Nat.add_sub_cancel, zcn, zkpl, zki, zki1, zk8, zk16, zo32, zlt0, zle0, zeq0, zgt0, zLe0, nI_ltI, nI_leI, nI_eq, nI_add, nI_clamp, vp_in_nI, zup_s, zup_n, upd_s, upd_n, ne_eq, not_true_eq_false, not_false_eq_true] at hc <;> omega)
          | (intro hc; exact absurd rfl hc)
          | intro hc
          | apply And.intro
          | exact hQ
          | (show Q _ (SH, _); simp (disch := first | omega | decide) only [e20, e16, e18, e51, z10, pk_sub, Nat.add_sub_cancel, zcn, zkpl, zki, zki1, zk8, zk16, zo32, zlt0, zle0, zeq0, zgt0, zLe0, nI_ltI, nI_leI, nI_eq, nI_add, nI_clamp, vp_in_nI, zup_s, zup_n, upd_s, upd_n, ne_eq, not_true_eq_false, not_false_eq_true]; exact hQ)
          | exact Or.inl rfl
          | exact Or.inr rfl
          | (show (_ : Int32) = 0 ∨ _ = 1; simp (disch := first | omega | decide) only [e20, e16, e18, e51, z10, pk_sub, Nat.add_sub_cancel, zcn, zkpl, zki, zki1, zk8, zk16, zo32, zlt0, zle0, zeq0, zgt0, zLe0, nI_ltI, nI_leI, nI_eq, nI_add, nI_clamp, vp_in_nI, zup_s, zup_n, upd_s, upd_n, ne_eq, not_true_eq_false, not_false_eq_true, zeq1, true_or, or_true]; done))
      rw [← e20] at s1
      refine zgo 40 [] ?_
      repeat' (first
        | (exact s1.use f2)
        | (show vp_in _ _; simp (disch := first | omega | decide) only [e20, z10, zcn, zkpl, zki, zki1, zk8, zk16, zo32, zlt0, zle0, zeq0, zgt0, zLe0, nI_ltI, nI_leI, nI_eq, nI_add, nI_clamp, vp_in_nI, zup_s, zup_n, upd_s, upd_n, ne_eq, not_true_eq_false, not_false_eq_true]; done)
        | (intro hc; exfalso; simp (disch := first | omega | decide) only [e20, z10, zcn, zkpl, zki, zki1, zk8, zk16, zo32, zlt0, zle0, zeq0, zgt0, zLe0, nI_ltI, nI_leI, nI_eq, nI_add, nI_clamp, vp_in_nI, zup_s, zup_n, upd_s, upd_n, ne_eq, not_true_eq_false, not_false_eq_true] at hc <;> omega)
        | (intro hc; exact absurd rfl hc)
        | intro hc
        | apply And.intro
        | exact Or.inl rfl
        | exact Or.inr rfl
        | (show (_ : Int32) = 0 ∨ _ = 1; simp (disch := first | omega | decide) only [e20, z10, zcn, zkpl, zki, zki1, zk8, zk16, zo32, zlt0, zle0, zeq0, zgt0, zLe0, nI_ltI, nI_leI, nI_eq, nI_add, nI_clamp, vp_in_nI, zup_s, zup_n, upd_s, upd_n, ne_eq, not_true_eq_false, not_false_eq_true, zeq1, true_or, or_true]; done))
    · rw [if_neg e4, ← ez] at hQ
      have e20 : zup u 42 20 (nI (a + 3 + k)) 42 20 = nI (a + 3 + k) := by rw [zup_s, upd_s]
      have s1 := sv 0 (Or.inr ⟨rfl, e4⟩)
      generalize zup u 42 20 (nI (a + 3 + k)) = u1 at *
      have f2 : ZW 167 (0, 0, 0, 0) 85 [(1, .int 1), (0, .ref 42)] [.int 0, .ref 42] (SH, u1) Q := by
        refine zgo 40 [] ?_
        repeat' (first
          | (show vp_in _ _; simp (disch := first | omega | decide) only [e20, z10, zcn, zkpl, zki, zki1, zk8, zk16, zo32, zlt0, zle0, zeq0, zgt0, zLe0, nI_ltI, nI_leI, nI_eq, nI_add, nI_clamp, vp_in_nI, zup_s, zup_n, upd_s, upd_n, ne_eq, not_true_eq_false, not_false_eq_true]; done)
          | (intro hc; exfalso; simp (disch := first | omega | decide) only [e20, z10, zcn, zkpl, zki, zki1, zk8, zk16, zo32, zlt0, zle0, zeq0, zgt0, zLe0, nI_ltI, nI_leI, nI_eq, nI_add, nI_clamp, vp_in_nI, zup_s, zup_n, upd_s, upd_n, ne_eq, not_true_eq_false, not_false_eq_true] at hc <;> omega)
          | (intro hc; exact absurd rfl hc)
          | intro hc
          | apply And.intro
          | exact hQ
          | (show Q _ (SH, _); simp (disch := first | omega | decide) only [e20, z10, zcn, zkpl, zki, zki1, zk8, zk16, zo32, zlt0, zle0, zeq0, zgt0, zLe0, nI_ltI, nI_leI, nI_eq, nI_add, nI_clamp, vp_in_nI, zup_s, zup_n, upd_s, upd_n, ne_eq, not_true_eq_false, not_false_eq_true]; exact hQ)
          | exact Or.inl rfl
          | exact Or.inr rfl
          | (show (_ : Int32) = 0 ∨ _ = 1; simp (disch := first | omega | decide) only [e20, z10, zcn, zkpl, zki, zki1, zk8, zk16, zo32, zlt0, zle0, zeq0, zgt0, zLe0, nI_ltI, nI_leI, nI_eq, nI_add, nI_clamp, vp_in_nI, zup_s, zup_n, upd_s, upd_n, ne_eq, not_true_eq_false, not_false_eq_true, zeq1, true_or, or_true]; done))
      rw [← e20] at s1
      refine zgo 40 [] ?_
      repeat' (first
        | (exact s1.use f2)
        | (show vp_in _ _; simp (disch := first | omega | decide) only [e20, z10, zcn, zkpl, zki, zki1, zk8, zk16, zo32, zlt0, zle0, zeq0, zgt0, zLe0, nI_ltI, nI_leI, nI_eq, nI_add, nI_clamp, vp_in_nI, zup_s, zup_n, upd_s, upd_n, ne_eq, not_true_eq_false, not_false_eq_true]; done)
        | (intro hc; exfalso; simp (disch := first | omega | decide) only [e20, z10, zcn, zkpl, zki, zki1, zk8, zk16, zo32, zlt0, zle0, zeq0, zgt0, zLe0, nI_ltI, nI_leI, nI_eq, nI_add, nI_clamp, vp_in_nI, zup_s, zup_n, upd_s, upd_n, ne_eq, not_true_eq_false, not_false_eq_true] at hc <;> omega)
        | (intro hc; exact absurd rfl hc)
        | intro hc
        | apply And.intro
        | exact Or.inl rfl
        | exact Or.inr rfl
        | (show (_ : Int32) = 0 ∨ _ = 1; simp (disch := first | omega | decide) only [e20, z10, zcn, zkpl, zki, zki1, zk8, zk16, zo32, zlt0, zle0, zeq0, zgt0, zLe0, nI_ltI, nI_leI, nI_eq, nI_add, nI_clamp, vp_in_nI, zup_s, zup_n, upd_s, upd_n, ne_eq, not_true_eq_false, not_false_eq_true, zeq1, true_or, or_true]; done))
  have f0 := m_167_t ho hx ha hk hk2 Q f1
  obtain ⟨h1, h2, h3⟩ := hx
  rw [pe_w e3] at h
  have g2 := h2 (a + 2) e3
  have g3 := (ho.2 (a + 2) e3).2
  rw [← h] at g2
  generalize s 7 d = i at *
  generalize s 0 1 = N at *
  refine zgo 30 [] ?_
  repeat' (first
    | (exact f0)
    | (show vp_in _ _; simp (disch := first | omega | decide) only [d3, h1, h3, g2, e7, e2, pk_sub, Nat.add_sub_cancel, zcn, zkpl, zki, zki1, zk8, zk16, zo32, zlt0, zle0, zeq0, zgt0, zLe0, nI_ltI, nI_leI, nI_eq, nI_add, nI_clamp, vp_in_nI, zup_s, zup_n, upd_s, upd_n, ne_eq, not_true_eq_false, not_false_eq_true]; done)
    | (intro hc; exfalso; simp (disch := first | omega | decide) only [d3, h1, h3, g2, e7, e2, pk_sub, Nat.add_sub_cancel, zcn, zkpl, zki, zki1, zk8, zk16, zo32, zlt0, zle0, zeq0, zgt0, zLe0, nI_ltI, nI_leI, nI_eq, nI_add, nI_clamp, vp_in_nI, zup_s, zup_n, upd_s, upd_n, ne_eq, not_true_eq_false, not_false_eq_true] at hc <;> omega)
    | (intro hc; exact absurd rfl hc)
    | intro hc
    | apply And.intro
    | exact Or.inl rfl
    | exact Or.inr rfl
    | (show (_ : Int32) = 0 ∨ _ = 1; simp (disch := first | omega | decide) only [d3, h1, h3, g2, e7, e2, pk_sub, Nat.add_sub_cancel, zcn, zkpl, zki, zki1, zk8, zk16, zo32, zlt0, zle0, zeq0, zgt0, zLe0, nI_ltI, nI_leI, nI_eq, nI_add, nI_clamp, vp_in_nI, zup_s, zup_n, upd_s, upd_n, ne_eq, not_true_eq_false, not_false_eq_true, zeq1, true_or, or_true]; done))
