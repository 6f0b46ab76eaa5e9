/-! rows: shifting, waking, counting -/
def zshl (u : zM) (a i : Nat) : Nat → zM
  | 0 => u
  | k + 1 => zshl (zup u a i (u a (i + 1))) a (i + 1) k
theorem zshl_far {a b : Nat} (h : b ≠ a) : ∀ (k : Nat) (u : zM) (i : Nat), zshl u a i k b = u b
  | 0, _, _ => rfl
  | k + 1, u, i => by
    show zshl _ a (i + 1) k b = u b
    rw [zshl_far h k, zup_n _ h]
theorem zshl_lo {a : Nat} : ∀ (k : Nat) (u : zM) (i j : Nat), j < i → zshl u a i k a j = u a j
  | 0, _, _, _, _ => rfl
  | k + 1, u, i, j, h => by
    show zshl _ a (i + 1) k a j = _
    rw [zshl_lo k _ _ _ (by omega), zup_s, upd_n _ (by omega)]
theorem zshl_in {a : Nat} : ∀ (k : Nat) (u : zM) (i j : Nat), i ≤ j → j < i + k → zshl u a i k a j = u a (j + 1)
  | 0, _, _, _, _, h => absurd h (by omega)
  | k + 1, u, i, j, h1, h2 => by
    show zshl _ a (i + 1) k a j = _
    by_cases e : j = i
    · subst e
      rw [zshl_lo k _ _ _ (by omega), zup_s, upd_s]
    · rw [zshl_in k _ _ _ (by omega) (by omega), zup_s, upd_n _ (by omega)]
/-- those that wait (2) and whose debtor is d come behind the queue -/
def zwk (u : zM) (sA dA qA oA fA : Nat) (d : Int32) (i : Nat) : Nat → zM
  | 0 => u
  | k + 1 => if u sA i = nI 2 ∧ u dA i = d then zwk (zup (zup (zup u sA i (nI 1)) qA (u oA fA).toNatClampNeg (nI i)) oA fA (u oA fA + nI 1)) sA dA qA oA fA d (i + 1) k else zwk u sA dA qA oA fA d (i + 1) k
/-- how many of the first n are v -/
def cnt (f : Nat → Int32) (v : Int32) : Nat → Nat
  | 0 => 0
  | n + 1 => cnt f v n + if f n = v then 1 else 0
theorem cnt_ext {f g : Nat → Int32} {v : Int32} : ∀ (n : Nat), (∀ j, j < n → f j = g j) → cnt f v n = cnt g v n
  | 0, _ => rfl
  | n + 1, h => by
    show cnt f v n + _ = cnt g v n + _
    rw [cnt_ext n (fun j hj => h j (by omega)), h n (by omega)]
theorem cnt_le {f : Nat → Int32} {v : Int32} : ∀ (n : Nat), cnt f v n ≤ n
  | 0 => Nat.le_refl _
  | n + 1 => by
    have := cnt_le (f := f) (v := v) n
    show cnt f v n + (if f n = v then 1 else 0) ≤ n + 1
    split <;> omega
theorem cnt_upd {f : Nat → Int32} {v x : Int32} {t : Nat} : ∀ (n : Nat), t < n → cnt (upd f t x) v n + (if f t = v then 1 else 0) = cnt f v n + (if x = v then 1 else 0)
  | 0, h => absurd h (by omega)
  | n + 1, h => by
    show cnt (upd f t x) v n + (if upd f t x n = v then 1 else 0) + _ = cnt f v n + (if f n = v then 1 else 0) + _
    by_cases e : t = n
    · subst e
      rw [cnt_ext (g := f) t (fun j hj => upd_n _ (by omega)), upd_s]
      omega
    · have := cnt_upd (f := f) (v := v) (x := x) n (show t < n by omega)
      rw [upd_n _ (show n ≠ t by omega)]
      omega
theorem cnt_two {f : Nat → Int32} {v w : Int32} (hne : v ≠ w) : ∀ (n : Nat), cnt f v n + cnt f w n ≤ n
  | 0 => Nat.le_refl _
  | n + 1 => by
    have := cnt_two (f := f) hne n
    show cnt f v n + (if f n = v then 1 else 0) + (cnt f w n + (if f n = w then 1 else 0)) ≤ n + 1
    by_cases h1 : f n = v
    · rw [if_pos h1, if_neg (by rw [h1]; exact hne)]
      omega
    · rw [if_neg h1]
      split <;> omega
/-- dropFirstQueued(): the queue without its first -/
def zdq (m : zM) (n : Nat) : zM := zup (zshl m 35 0 (n - 1)) 28 8 (nI (n - 1))
theorem ev_drop_loop {n : Nat} (hn : n ≤ 20) (Q : zQ) : ∀ (k i : Nat) (m : zM) (x : Int32), i + k = n → 1 ≤ i → x = nI i → m 28 8 = nI n → Q none (SH, zup (zshl m 35 (i - 1) k) 28 8 (nI (n - 1))) → ZW 104 (0, 0, 0, 0) 2 [(1, .int x), (0, .ref 28)] [] (SH, m) Q := by
  intro k
  induction k with
  | zero =>
    intro i m x hi h1 hx hm hQ
    refine zgo 40 [] ?_
    repeat' (first
      | (show vp_in _ _; simp (disch := first | omega | decide) only [hx, hm, pk_sub, zcn, zkpl, zki, zki1, zk8, zk16, zo32, zlt0, zle0, zeq0, zgt0, zLe0, nI_ltI, nI_leI, nI_eq, nI_add, nI_clamp, vp_in_nI, zup_s, zup_n, upd_s, upd_n, ne_eq, not_true_eq_false, not_false_eq_true]; done)
      | (intro hc; exfalso; simp (disch := first | omega | decide) only [hx, hm, pk_sub, zcn, zkpl, zki, zki1, zk8, zk16, zo32, zlt0, zle0, zeq0, zgt0, zLe0, nI_ltI, nI_leI, nI_eq, nI_add, nI_clamp, vp_in_nI, zup_s, zup_n, upd_s, upd_n, ne_eq, not_true_eq_false, not_false_eq_true] at hc <;> omega)
      | (intro hc; exact absurd rfl hc)
      | intro hc
      | apply And.intro
      | exact hQ
      | (show Q _ (SH, _); simp (disch := first | omega | decide) only [hx, hm, pk_sub, zcn, zkpl, zki, zki1, zk8, zk16, zo32, zlt0, zle0, zeq0, zgt0, zLe0, nI_ltI, nI_leI, nI_eq, nI_add, nI_clamp, vp_in_nI, zup_s, zup_n, upd_s, upd_n, ne_eq, not_true_eq_false, not_false_eq_true]; exact hQ)
      | exact Or.inl rfl
      | exact Or.inr rfl
      | (show (_ : Int32) = 0 ∨ _ = 1; simp (disch := first | omega | decide) only [hx, hm, pk_sub, zcn, zkpl, zki, zki1, zk8, zk16, zo32, zlt0, zle0, zeq0, zgt0, zLe0, nI_ltI, nI_leI, nI_eq, nI_add, nI_clamp, vp_in_nI, zup_s, zup_n, upd_s, upd_n, ne_eq, not_true_eq_false, not_false_eq_true, zeq1, true_or, or_true]; done))
  | succ k ih =>
    intro i m x hi h1 hx hm hQ
    have hQ2 : Q none (SH, zup (zshl (zup m 35 (i - 1) (m 35 i)) 35 (i + 1 - 1) k) 28 8 (nI (n - 1))) := by
      have e : i + 1 - 1 = i - 1 + 1 := by omega
      have e2 : m 35 i = m 35 (i - 1 + 1) := by rw [show i - 1 + 1 = i by omega]
      rw [e, e2]
      exact hQ
    refine zgo 40 [] ?_
    repeat' (first
      | (exact zcg (m := zup m 35 (i - 1) (m 35 i)) (by simp (disch := first | omega | decide) only [hx, pk_sub, zcn, zkpl, zki, zki1, zk8, zk16, zo32, zlt0, zle0, zeq0, zgt0, zLe0, nI_ltI, nI_leI, nI_eq, nI_add, nI_clamp, vp_in_nI, zup_s, zup_n, upd_s, upd_n, ne_eq, not_true_eq_false, not_false_eq_true]) (ih (i + 1) _ _ (by omega) (by omega) (show x + Int32.ofInt 1 = nI (i + 1) by rw [hx, zki, nI_add]) (by simp (disch := first | omega | decide) only [hm, zcn, zkpl, zki, zki1, zk8, zk16, zo32, zlt0, zle0, zeq0, zgt0, zLe0, nI_ltI, nI_leI, nI_eq, nI_add, nI_clamp, vp_in_nI, zup_s, zup_n, upd_s, upd_n, ne_eq, not_true_eq_false, not_false_eq_true]) hQ2))
      | (show vp_in _ _; simp (disch := first | omega | decide) only [hx, hm, pk_sub, zcn, zkpl, zki, zki1, zk8, zk16, zo32, zlt0, zle0, zeq0, zgt0, zLe0, nI_ltI, nI_leI, nI_eq, nI_add, nI_clamp, vp_in_nI, zup_s, zup_n, upd_s, upd_n, ne_eq, not_true_eq_false, not_false_eq_true]; done)
      | (intro hc; exfalso; simp (disch := first | omega | decide) only [hx, hm, pk_sub, zcn, zkpl, zki, zki1, zk8, zk16, zo32, zlt0, zle0, zeq0, zgt0, zLe0, nI_ltI, nI_leI, nI_eq, nI_add, nI_clamp, vp_in_nI, zup_s, zup_n, upd_s, upd_n, ne_eq, not_true_eq_false, not_false_eq_true] at hc <;> omega)
      | (intro hc; exact absurd rfl hc)
      | intro hc
      | apply And.intro
      | exact Or.inl rfl
      | exact Or.inr rfl
      | (show (_ : Int32) = 0 ∨ _ = 1; simp (disch := first | omega | decide) only [hx, hm, pk_sub, zcn, zkpl, zki, zki1, zk8, zk16, zo32, zlt0, zle0, zeq0, zgt0, zLe0, nI_ltI, nI_leI, nI_eq, nI_add, nI_clamp, vp_in_nI, zup_s, zup_n, upd_s, upd_n, ne_eq, not_true_eq_false, not_false_eq_true, zeq1, true_or, or_true]; done))
theorem ev_drop {m : zM} {n : Nat} (hn : n ≤ 20) (h1 : 1 ≤ n) (hm : m 28 8 = nI n) : Ev 104 [.ref 28] m none (zdq m n) := by
  intro Q hQ
  refine zgo 10 [] ?_
  exact ev_drop_loop hn Q (n - 1) 1 m _ (by omega) (by omega) rfl hm hQ
theorem ev_has {m : zM} {n t : Nat} (hm : m 28 6 = nI n) (hn : n ≤ 20) (ht : t < n) : Ev 90 [.ref 28, .int (nI t)] m (some (.int 1)) m := by
  intro Q hQ
  refine zgo 40 [] ?_
  repeat' (first
    | (show vp_in _ _; simp (disch := first | omega | decide) only [hm, zcn, zkpl, zki, zki1, zk8, zk16, zo32, zlt0, zle0, zeq0, zgt0, zLe0, nI_ltI, nI_leI, nI_eq, nI_add, nI_clamp, vp_in_nI, zup_s, zup_n, upd_s, upd_n, ne_eq, not_true_eq_false, not_false_eq_true]; done)
    | (intro hc; exfalso; simp (disch := first | omega | decide) only [hm, zcn, zkpl, zki, zki1, zk8, zk16, zo32, zlt0, zle0, zeq0, zgt0, zLe0, nI_ltI, nI_leI, nI_eq, nI_add, nI_clamp, vp_in_nI, zup_s, zup_n, upd_s, upd_n, ne_eq, not_true_eq_false, not_false_eq_true] at hc <;> omega)
    | (intro hc; exact absurd rfl hc)
    | intro hc
    | apply And.intro
    | exact hQ
    | (show Q _ (SH, _); simp (disch := first | omega | decide) only [hm, zcn, zkpl, zki, zki1, zk8, zk16, zo32, zlt0, zle0, zeq0, zgt0, zLe0, nI_ltI, nI_leI, nI_eq, nI_add, nI_clamp, vp_in_nI, zup_s, zup_n, upd_s, upd_n, ne_eq, not_true_eq_false, not_false_eq_true]; exact hQ)
    | exact Or.inl rfl
    | exact Or.inr rfl
    | (show (_ : Int32) = 0 ∨ _ = 1; simp (disch := first | omega | decide) only [hm, zcn, zkpl, zki, zki1, zk8, zk16, zo32, zlt0, zle0, zeq0, zgt0, zLe0, nI_ltI, nI_leI, nI_eq, nI_add, nI_clamp, vp_in_nI, zup_s, zup_n, upd_s, upd_n, ne_eq, not_true_eq_false, not_false_eq_true, zeq1, true_or, or_true]; done))
theorem ev_become {m : zM} {n t : Nat} (s : Int32) (hm : m 28 6 = nI n) (hn : n ≤ 20) (ht : t < n) : Ev 102 [.ref 28, .int (nI t), .int s] m none (zup m 33 t s) := by
  intro Q hQ
  refine zgo 40 [90] ?_
  repeat' (first
    | (show vp_in _ _; simp (disch := first | omega | decide) only [hm, z10, zcn, zkpl, zki, zki1, zk8, zk16, zo32, zlt0, zle0, zeq0, zgt0, zLe0, nI_ltI, nI_leI, nI_eq, nI_add, nI_clamp, vp_in_nI, zup_s, zup_n, upd_s, upd_n, ne_eq, not_true_eq_false, not_false_eq_true]; done)
    | (intro hc; exfalso; simp (disch := first | omega | decide) only [hm, z10, zcn, zkpl, zki, zki1, zk8, zk16, zo32, zlt0, zle0, zeq0, zgt0, zLe0, nI_ltI, nI_leI, nI_eq, nI_add, nI_clamp, vp_in_nI, zup_s, zup_n, upd_s, upd_n, ne_eq, not_true_eq_false, not_false_eq_true] at hc <;> omega)
    | (intro hc; exact absurd rfl hc)
    | intro hc
    | apply And.intro
    | exact hQ
    | (show Q _ (SH, _); simp (disch := first | omega | decide) only [hm, z10, zcn, zkpl, zki, zki1, zk8, zk16, zo32, zlt0, zle0, zeq0, zgt0, zLe0, nI_ltI, nI_leI, nI_eq, nI_add, nI_clamp, vp_in_nI, zup_s, zup_n, upd_s, upd_n, ne_eq, not_true_eq_false, not_false_eq_true]; exact hQ)
    | exact Or.inl rfl
    | exact Or.inr rfl
    | (show (_ : Int32) = 0 ∨ _ = 1; simp (disch := first | omega | decide) only [hm, z10, zcn, zkpl, zki, zki1, zk8, zk16, zo32, zlt0, zle0, zeq0, zgt0, zLe0, nI_ltI, nI_leI, nI_eq, nI_add, nI_clamp, vp_in_nI, zup_s, zup_n, upd_s, upd_n, ne_eq, not_true_eq_false, not_false_eq_true, zeq1, true_or, or_true]; done))
theorem ev_setDeadline {m : zM} {n t : Nat} (s : Int32) (hm : m 28 6 = nI n) (hn : n ≤ 20) (ht : t < n) : Ev 103 [.ref 28, .int (nI t), .int s] m none (zup m 34 t s) := by
  intro Q hQ
  refine zgo 40 [90] ?_
  repeat' (first
    | (show vp_in _ _; simp (disch := first | omega | decide) only [hm, z10, zcn, zkpl, zki, zki1, zk8, zk16, zo32, zlt0, zle0, zeq0, zgt0, zLe0, nI_ltI, nI_leI, nI_eq, nI_add, nI_clamp, vp_in_nI, zup_s, zup_n, upd_s, upd_n, ne_eq, not_true_eq_false, not_false_eq_true]; done)
    | (intro hc; exfalso; simp (disch := first | omega | decide) only [hm, z10, zcn, zkpl, zki, zki1, zk8, zk16, zo32, zlt0, zle0, zeq0, zgt0, zLe0, nI_ltI, nI_leI, nI_eq, nI_add, nI_clamp, vp_in_nI, zup_s, zup_n, upd_s, upd_n, ne_eq, not_true_eq_false, not_false_eq_true] at hc <;> omega)
    | (intro hc; exact absurd rfl hc)
    | intro hc
    | apply And.intro
    | exact hQ
    | (show Q _ (SH, _); simp (disch := first | omega | decide) only [hm, z10, zcn, zkpl, zki, zki1, zk8, zk16, zo32, zlt0, zle0, zeq0, zgt0, zLe0, nI_ltI, nI_leI, nI_eq, nI_add, nI_clamp, vp_in_nI, zup_s, zup_n, upd_s, upd_n, ne_eq, not_true_eq_false, not_false_eq_true]; exact hQ)
    | exact Or.inl rfl
    | exact Or.inr rfl
    | (show (_ : Int32) = 0 ∨ _ = 1; simp (disch := first | omega | decide) only [hm, z10, zcn, zkpl, zki, zki1, zk8, zk16, zo32, zlt0, zle0, zeq0, zgt0, zLe0, nI_ltI, nI_leI, nI_eq, nI_add, nI_clamp, vp_in_nI, zup_s, zup_n, upd_s, upd_n, ne_eq, not_true_eq_false, not_false_eq_true, zeq1, true_or, or_true]; done))
theorem ev_enqueue {m : zM} {n t q : Nat} (hm : m 28 6 = nI n) (hn : n ≤ 20) (ht : t < n) (hq : m 28 8 = nI q) (hq2 : q < 20) : Ev 106 [.ref 28, .int (nI t)] m none (zup (zup (zup m 33 t (nI 1)) 35 q (nI t)) 28 8 (nI (q + 1))) := by
  intro Q hQ
  refine zgo 60 [90] ?_
  repeat' (first
    | (show vp_in _ _; simp (disch := first | omega | decide) only [hm, hq, z10, zcn, zkpl, zki, zki1, zk8, zk16, zo32, zlt0, zle0, zeq0, zgt0, zLe0, nI_ltI, nI_leI, nI_eq, nI_add, nI_clamp, vp_in_nI, zup_s, zup_n, upd_s, upd_n, ne_eq, not_true_eq_false, not_false_eq_true]; done)
    | (intro hc; exfalso; simp (disch := first | omega | decide) only [hm, hq, z10, zcn, zkpl, zki, zki1, zk8, zk16, zo32, zlt0, zle0, zeq0, zgt0, zLe0, nI_ltI, nI_leI, nI_eq, nI_add, nI_clamp, vp_in_nI, zup_s, zup_n, upd_s, upd_n, ne_eq, not_true_eq_false, not_false_eq_true] at hc <;> omega)
    | (intro hc; exact absurd rfl hc)
    | intro hc
    | apply And.intro
    | exact hQ
    | (show Q _ (SH, _); simp (disch := first | omega | decide) only [hm, hq, z10, zcn, zkpl, zki, zki1, zk8, zk16, zo32, zlt0, zle0, zeq0, zgt0, zLe0, nI_ltI, nI_leI, nI_eq, nI_add, nI_clamp, vp_in_nI, zup_s, zup_n, upd_s, upd_n, ne_eq, not_true_eq_false, not_false_eq_true]; exact hQ)
    | exact Or.inl rfl
    | exact Or.inr rfl
    | (show (_ : Int32) = 0 ∨ _ = 1; simp (disch := first | omega | decide) only [hm, hq, z10, zcn, zkpl, zki, zki1, zk8, zk16, zo32, zlt0, zle0, zeq0, zgt0, zLe0, nI_ltI, nI_leI, nI_eq, nI_add, nI_clamp, vp_in_nI, zup_s, zup_n, upd_s, upd_n, ne_eq, not_true_eq_false, not_false_eq_true, zeq1, true_or, or_true]; done))
theorem ev_reserve {m : zM} {a : Nat} (x : Int32) (ha : a < 4) : Ev 6 [.ref 19, .int (nI a), .int x] m none (zup m 21 a (m 21 a + x)) := by
  intro Q hQ
  refine zgo 60 [8] ?_
  repeat' (first
    | (show vp_in _ _; simp (disch := first | omega | decide) only [z10, zcn, zkpl, zki, zki1, zk8, zk16, zo32, zlt0, zle0, zeq0, zgt0, zLe0, nI_ltI, nI_leI, nI_eq, nI_add, nI_clamp, vp_in_nI, zup_s, zup_n, upd_s, upd_n, ne_eq, not_true_eq_false, not_false_eq_true]; done)
    | (intro hc; exfalso; simp (disch := first | omega | decide) only [z10, zcn, zkpl, zki, zki1, zk8, zk16, zo32, zlt0, zle0, zeq0, zgt0, zLe0, nI_ltI, nI_leI, nI_eq, nI_add, nI_clamp, vp_in_nI, zup_s, zup_n, upd_s, upd_n, ne_eq, not_true_eq_false, not_false_eq_true] at hc <;> omega)
    | (intro hc; exact absurd rfl hc)
    | intro hc
    | apply And.intro
    | exact hQ
    | (show Q _ (SH, _); simp (disch := first | omega | decide) only [z10, zcn, zkpl, zki, zki1, zk8, zk16, zo32, zlt0, zle0, zeq0, zgt0, zLe0, nI_ltI, nI_leI, nI_eq, nI_add, nI_clamp, vp_in_nI, zup_s, zup_n, upd_s, upd_n, ne_eq, not_true_eq_false, not_false_eq_true]; exact hQ)
    | exact Or.inl rfl
    | exact Or.inr rfl
    | (show (_ : Int32) = 0 ∨ _ = 1; simp (disch := first | omega | decide) only [z10, zcn, zkpl, zki, zki1, zk8, zk16, zo32, zlt0, zle0, zeq0, zgt0, zLe0, nI_ltI, nI_leI, nI_eq, nI_add, nI_clamp, vp_in_nI, zup_s, zup_n, upd_s, upd_n, ne_eq, not_true_eq_false, not_false_eq_true, zeq1, true_or, or_true]; done))
theorem ev_radd {m : zM} {n : Nat} (t s : Int32) (hm : m 36 4 = nI n) (hn : n < 40) : Ev 66 [.ref 36, .int t, .int s] m none (zup (zup (zup m 37 n t) 38 n s) 36 4 (nI (n + 1))) := by
  intro Q hQ
  refine zgo 60 [] ?_
  repeat' (first
    | (show vp_in _ _; simp (disch := first | omega | decide) only [hm, zcn, zkpl, zki, zki1, zk8, zk16, zo32, zlt0, zle0, zeq0, zgt0, zLe0, nI_ltI, nI_leI, nI_eq, nI_add, nI_clamp, vp_in_nI, zup_s, zup_n, upd_s, upd_n, ne_eq, not_true_eq_false, not_false_eq_true]; done)
    | (intro hc; exfalso; simp (disch := first | omega | decide) only [hm, zcn, zkpl, zki, zki1, zk8, zk16, zo32, zlt0, zle0, zeq0, zgt0, zLe0, nI_ltI, nI_leI, nI_eq, nI_add, nI_clamp, vp_in_nI, zup_s, zup_n, upd_s, upd_n, ne_eq, not_true_eq_false, not_false_eq_true] at hc <;> omega)
    | (intro hc; exact absurd rfl hc)
    | intro hc
    | apply And.intro
    | exact hQ
    | (show Q _ (SH, _); simp (disch := first | omega | decide) only [hm, zcn, zkpl, zki, zki1, zk8, zk16, zo32, zlt0, zle0, zeq0, zgt0, zLe0, nI_ltI, nI_leI, nI_eq, nI_add, nI_clamp, vp_in_nI, zup_s, zup_n, upd_s, upd_n, ne_eq, not_true_eq_false, not_false_eq_true]; exact hQ)
    | exact Or.inl rfl
    | exact Or.inr rfl
    | (show (_ : Int32) = 0 ∨ _ = 1; simp (disch := first | omega | decide) only [hm, zcn, zkpl, zki, zki1, zk8, zk16, zo32, zlt0, zle0, zeq0, zgt0, zLe0, nI_ltI, nI_leI, nI_eq, nI_add, nI_clamp, vp_in_nI, zup_s, zup_n, upd_s, upd_n, ne_eq, not_true_eq_false, not_false_eq_true, zeq1, true_or, or_true]; done))
theorem ev_book {m : zM} {a e : Nat} (x : Int32) (ha : a < 4) (hm : m 22 a = nI e) (he : e < 40) : Ev 7 [.ref 19, .int (nI a), .int x] m none (zup (zup (zup m (24 + a) e x) 22 a (nI (e + 1))) 20 a (m 20 a + x)) := by
  intro Q hQ
  obtain rfl | rfl | rfl | rfl : a = 0 ∨ a = 1 ∨ a = 2 ∨ a = 3 := by omega
  all_goals refine zgo 60 [8] ?_
  all_goals repeat' (first
    | (show vp_in _ _; simp (disch := first | omega | decide) only [hm, z10, zcn, zkpl, zki, zki1, zk8, zk16, zo32, zlt0, zle0, zeq0, zgt0, zLe0, nI_ltI, nI_leI, nI_eq, nI_add, nI_clamp, vp_in_nI, zup_s, zup_n, upd_s, upd_n, ne_eq, not_true_eq_false, not_false_eq_true]; done)
    | (intro hc; exfalso; simp (disch := first | omega | decide) only [hm, z10, zcn, zkpl, zki, zki1, zk8, zk16, zo32, zlt0, zle0, zeq0, zgt0, zLe0, nI_ltI, nI_leI, nI_eq, nI_add, nI_clamp, vp_in_nI, zup_s, zup_n, upd_s, upd_n, ne_eq, not_true_eq_false, not_false_eq_true] at hc <;> omega)
    | (intro hc; exact absurd rfl hc)
    | intro hc
    | apply And.intro
    | exact hQ
    | (show Q _ (SH, _); simp (disch := first | omega | decide) only [hm, z10, zcn, zkpl, zki, zki1, zk8, zk16, zo32, zlt0, zle0, zeq0, zgt0, zLe0, nI_ltI, nI_leI, nI_eq, nI_add, nI_clamp, vp_in_nI, zup_s, zup_n, upd_s, upd_n, ne_eq, not_true_eq_false, not_false_eq_true]; exact hQ)
    | exact Or.inl rfl
    | exact Or.inr rfl
    | (show (_ : Int32) = 0 ∨ _ = 1; simp (disch := first | omega | decide) only [hm, z10, zcn, zkpl, zki, zki1, zk8, zk16, zo32, zlt0, zle0, zeq0, zgt0, zLe0, nI_ltI, nI_leI, nI_eq, nI_add, nI_clamp, vp_in_nI, zup_s, zup_n, upd_s, upd_n, ne_eq, not_true_eq_false, not_false_eq_true, zeq1, true_or, or_true]; done))
theorem ev_debtorOf {m : zM} {n t : Nat} (hm : m 28 6 = nI n) (hn : n ≤ 20) (ht : t < n) : Ev 95 [.ref 28, .int (nI t)] m (some (.int (m 31 t))) m := by
  intro Q hQ
  refine zgo 60 [90] ?_
  repeat' (first
    | (show vp_in _ _; simp (disch := first | omega | decide) only [hm, z10, zcn, zkpl, zki, zki1, zk8, zk16, zo32, zlt0, zle0, zeq0, zgt0, zLe0, nI_ltI, nI_leI, nI_eq, nI_add, nI_clamp, vp_in_nI, zup_s, zup_n, upd_s, upd_n, ne_eq, not_true_eq_false, not_false_eq_true]; done)
    | (intro hc; exfalso; simp (disch := first | omega | decide) only [hm, z10, zcn, zkpl, zki, zki1, zk8, zk16, zo32, zlt0, zle0, zeq0, zgt0, zLe0, nI_ltI, nI_leI, nI_eq, nI_add, nI_clamp, vp_in_nI, zup_s, zup_n, upd_s, upd_n, ne_eq, not_true_eq_false, not_false_eq_true] at hc <;> omega)
    | (intro hc; exact absurd rfl hc)
    | intro hc
    | apply And.intro
    | exact hQ
    | (show Q _ (SH, _); simp (disch := first | omega | decide) only [hm, z10, zcn, zkpl, zki, zki1, zk8, zk16, zo32, zlt0, zle0, zeq0, zgt0, zLe0, nI_ltI, nI_leI, nI_eq, nI_add, nI_clamp, vp_in_nI, zup_s, zup_n, upd_s, upd_n, ne_eq, not_true_eq_false, not_false_eq_true]; exact hQ)
    | exact Or.inl rfl
    | exact Or.inr rfl
    | (show (_ : Int32) = 0 ∨ _ = 1; simp (disch := first | omega | decide) only [hm, z10, zcn, zkpl, zki, zki1, zk8, zk16, zo32, zlt0, zle0, zeq0, zgt0, zLe0, nI_ltI, nI_leI, nI_eq, nI_add, nI_clamp, vp_in_nI, zup_s, zup_n, upd_s, upd_n, ne_eq, not_true_eq_false, not_false_eq_true, zeq1, true_or, or_true]; done))
theorem ev_creditorOf {m : zM} {n t : Nat} (hm : m 28 6 = nI n) (hn : n ≤ 20) (ht : t < n) : Ev 96 [.ref 28, .int (nI t)] m (some (.int (m 32 t))) m := by
  intro Q hQ
  refine zgo 60 [90] ?_
  repeat' (first
    | (show vp_in _ _; simp (disch := first | omega | decide) only [hm, z10, zcn, zkpl, zki, zki1, zk8, zk16, zo32, zlt0, zle0, zeq0, zgt0, zLe0, nI_ltI, nI_leI, nI_eq, nI_add, nI_clamp, vp_in_nI, zup_s, zup_n, upd_s, upd_n, ne_eq, not_true_eq_false, not_false_eq_true]; done)
    | (intro hc; exfalso; simp (disch := first | omega | decide) only [hm, z10, zcn, zkpl, zki, zki1, zk8, zk16, zo32, zlt0, zle0, zeq0, zgt0, zLe0, nI_ltI, nI_leI, nI_eq, nI_add, nI_clamp, vp_in_nI, zup_s, zup_n, upd_s, upd_n, ne_eq, not_true_eq_false, not_false_eq_true] at hc <;> omega)
    | (intro hc; exact absurd rfl hc)
    | intro hc
    | apply And.intro
    | exact hQ
    | (show Q _ (SH, _); simp (disch := first | omega | decide) only [hm, z10, zcn, zkpl, zki, zki1, zk8, zk16, zo32, zlt0, zle0, zeq0, zgt0, zLe0, nI_ltI, nI_leI, nI_eq, nI_add, nI_clamp, vp_in_nI, zup_s, zup_n, upd_s, upd_n, ne_eq, not_true_eq_false, not_false_eq_true]; exact hQ)
    | exact Or.inl rfl
    | exact Or.inr rfl
    | (show (_ : Int32) = 0 ∨ _ = 1; simp (disch := first | omega | decide) only [hm, z10, zcn, zkpl, zki, zki1, zk8, zk16, zo32, zlt0, zle0, zeq0, zgt0, zLe0, nI_ltI, nI_leI, nI_eq, nI_add, nI_clamp, vp_in_nI, zup_s, zup_n, upd_s, upd_n, ne_eq, not_true_eq_false, not_false_eq_true, zeq1, true_or, or_true]; done))
theorem ev_amountOf {m : zM} {n t : Nat} (hm : m 28 6 = nI n) (hn : n ≤ 20) (ht : t < n) : Ev 94 [.ref 28, .int (nI t)] m (some (.int (m 30 t))) m := by
  intro Q hQ
  refine zgo 60 [90] ?_
  repeat' (first
    | (show vp_in _ _; simp (disch := first | omega | decide) only [hm, z10, zcn, zkpl, zki, zki1, zk8, zk16, zo32, zlt0, zle0, zeq0, zgt0, zLe0, nI_ltI, nI_leI, nI_eq, nI_add, nI_clamp, vp_in_nI, zup_s, zup_n, upd_s, upd_n, ne_eq, not_true_eq_false, not_false_eq_true]; done)
    | (intro hc; exfalso; simp (disch := first | omega | decide) only [hm, z10, zcn, zkpl, zki, zki1, zk8, zk16, zo32, zlt0, zle0, zeq0, zgt0, zLe0, nI_ltI, nI_leI, nI_eq, nI_add, nI_clamp, vp_in_nI, zup_s, zup_n, upd_s, upd_n, ne_eq, not_true_eq_false, not_false_eq_true] at hc <;> omega)
    | (intro hc; exact absurd rfl hc)
    | intro hc
    | apply And.intro
    | exact hQ
    | (show Q _ (SH, _); simp (disch := first | omega | decide) only [hm, z10, zcn, zkpl, zki, zki1, zk8, zk16, zo32, zlt0, zle0, zeq0, zgt0, zLe0, nI_ltI, nI_leI, nI_eq, nI_add, nI_clamp, vp_in_nI, zup_s, zup_n, upd_s, upd_n, ne_eq, not_true_eq_false, not_false_eq_true]; exact hQ)
    | exact Or.inl rfl
    | exact Or.inr rfl
    | (show (_ : Int32) = 0 ∨ _ = 1; simp (disch := first | omega | decide) only [hm, z10, zcn, zkpl, zki, zki1, zk8, zk16, zo32, zlt0, zle0, zeq0, zgt0, zLe0, nI_ltI, nI_leI, nI_eq, nI_add, nI_clamp, vp_in_nI, zup_s, zup_n, upd_s, upd_n, ne_eq, not_true_eq_false, not_false_eq_true, zeq1, true_or, or_true]; done))
theorem cnt_pos {f : Nat → Int32} {v : Int32} {t : Nat} (h : f t = v) : ∀ (n : Nat), t < n → 1 ≤ cnt f v n
  | 0, q => absurd q (by omega)
  | n + 1, q => by
    show 1 ≤ cnt f v n + (if f n = v then 1 else 0)
    by_cases e : t = n
    · subst e
      rw [if_pos h]
      omega
    · have := cnt_pos h n (by omega)
      omega
theorem z12 : (nI 1 = nI 2) = False := by decide
theorem ev_wake_loop {n : Nat} (hn : n ≤ 20) (d : Int32) (Q : zQ) : ∀ (k i : Nat) (m : zM) (x : Int32) (q : Nat), i + k = n → x = nI i → m 28 6 = nI n → m 28 8 = nI q → q + cnt (m 33) (nI 2) n ≤ 20 → Q none (SH, zwk m 33 31 35 28 8 d i k) → ZW 105 (0, 0, 0, 0) 2 [(2, .int x), (0, .ref 28), (1, .int d)] [] (SH, m) Q := by
  intro k
  induction k with
  | zero =>
    intro i m x q hi hx hm hq hc hQ
    refine zgo 40 [] ?_
    repeat' (first
      | (show vp_in _ _; simp (disch := first | omega | decide) only [hx, hm, zcn, zkpl, zki, zki1, zk8, zk16, zo32, zlt0, zle0, zeq0, zgt0, zLe0, nI_ltI, nI_leI, nI_eq, nI_add, nI_clamp, vp_in_nI, zup_s, zup_n, upd_s, upd_n, ne_eq, not_true_eq_false, not_false_eq_true]; done)
      | (intro hc; exfalso; simp (disch := first | omega | decide) only [hx, hm, zcn, zkpl, zki, zki1, zk8, zk16, zo32, zlt0, zle0, zeq0, zgt0, zLe0, nI_ltI, nI_leI, nI_eq, nI_add, nI_clamp, vp_in_nI, zup_s, zup_n, upd_s, upd_n, ne_eq, not_true_eq_false, not_false_eq_true] at hc <;> omega)
      | (intro hc; exact absurd rfl hc)
      | intro hc
      | apply And.intro
      | exact hQ
      | (show Q _ (SH, _); simp (disch := first | omega | decide) only [hx, hm, zcn, zkpl, zki, zki1, zk8, zk16, zo32, zlt0, zle0, zeq0, zgt0, zLe0, nI_ltI, nI_leI, nI_eq, nI_add, nI_clamp, vp_in_nI, zup_s, zup_n, upd_s, upd_n, ne_eq, not_true_eq_false, not_false_eq_true]; exact hQ)
      | exact Or.inl rfl
      | exact Or.inr rfl
      | (show (_ : Int32) = 0 ∨ _ = 1; simp (disch := first | omega | decide) only [hx, hm, zcn, zkpl, zki, zki1, zk8, zk16, zo32, zlt0, zle0, zeq0, zgt0, zLe0, nI_ltI, nI_leI, nI_eq, nI_add, nI_clamp, vp_in_nI, zup_s, zup_n, upd_s, upd_n, ne_eq, not_true_eq_false, not_false_eq_true, zeq1, true_or, or_true]; done))
  | succ k ih =>
    intro i m x q hi hx hm hq hcn hQ
    subst hx
    rw [zwk] at hQ
    by_cases h2 : m 33 i = nI 2
    · by_cases hd : m 31 i = d
      · rw [if_pos ⟨h2, hd⟩, hq, nI_clamp (by omega), nI_add] at hQ
        have h1 := cnt_pos h2 n (by omega)
        have hcn2 : q + 1 + cnt (zup (zup (zup m 33 i (nI 1)) 35 q (nI i)) 28 8 (nI (q + 1)) 33) (nI 2) n ≤ 20 := by
          have e : zup (zup (zup m 33 i (nI 1)) 35 q (nI i)) 28 8 (nI (q + 1)) 33 = upd (m 33) i (nI 1) := by simp (disch := first | omega | decide) only [zcn, zkpl, zki, zki1, zk8, zk16, zo32, zlt0, zle0, zeq0, zgt0, zLe0, nI_ltI, nI_leI, nI_eq, nI_add, nI_clamp, vp_in_nI, zup_s, zup_n, upd_s, upd_n, ne_eq, not_true_eq_false, not_false_eq_true]
          rw [e]
          have := cnt_upd (f := m 33) (v := nI 2) (x := nI 1) (t := i) n (by omega)
          rw [if_pos h2, if_neg (by decide)] at this
          omega
        refine zgo 40 [] ?_
        repeat' (first
          | (exact (ev_enqueue (q := q) hm hn (by omega) hq (by omega)).use (zgo 2 [] (ih (i + 1) _ _ (q + 1) (by omega) (show nI i + Int32.ofInt 1 = nI (i + 1) by rw [zki, nI_add]) (by simp (disch := first | omega | decide) only [hm, zcn, zkpl, zki, zki1, zk8, zk16, zo32, zlt0, zle0, zeq0, zgt0, zLe0, nI_ltI, nI_leI, nI_eq, nI_add, nI_clamp, vp_in_nI, zup_s, zup_n, upd_s, upd_n, ne_eq, not_true_eq_false, not_false_eq_true]) (by simp (disch := first | omega | decide) only [zcn, zkpl, zki, zki1, zk8, zk16, zo32, zlt0, zle0, zeq0, zgt0, zLe0, nI_ltI, nI_leI, nI_eq, nI_add, nI_clamp, vp_in_nI, zup_s, zup_n, upd_s, upd_n, ne_eq, not_true_eq_false, not_false_eq_true]) hcn2 hQ)))
          | (show vp_in _ _; simp (disch := first | omega | decide) only [hm, h2, hd, eq_self, zcn, zkpl, zki, zki1, zk8, zk16, zo32, zlt0, zle0, zeq0, zgt0, zLe0, nI_ltI, nI_leI, nI_eq, nI_add, nI_clamp, vp_in_nI, zup_s, zup_n, upd_s, upd_n, ne_eq, not_true_eq_false, not_false_eq_true]; done)
          | (intro hc; exfalso; simp (disch := first | omega | decide) only [hm, h2, hd, eq_self, zcn, zkpl, zki, zki1, zk8, zk16, zo32, zlt0, zle0, zeq0, zgt0, zLe0, nI_ltI, nI_leI, nI_eq, nI_add, nI_clamp, vp_in_nI, zup_s, zup_n, upd_s, upd_n, ne_eq, not_true_eq_false, not_false_eq_true] at hc <;> omega)
          | (intro hc; exact absurd rfl hc)
          | intro hc
          | apply And.intro
          | exact Or.inl rfl
          | exact Or.inr rfl
          | (show (_ : Int32) = 0 ∨ _ = 1; simp (disch := first | omega | decide) only [hm, h2, hd, eq_self, zcn, zkpl, zki, zki1, zk8, zk16, zo32, zlt0, zle0, zeq0, zgt0, zLe0, nI_ltI, nI_leI, nI_eq, nI_add, nI_clamp, vp_in_nI, zup_s, zup_n, upd_s, upd_n, ne_eq, not_true_eq_false, not_false_eq_true, zeq1, true_or, or_true]; done))
      · rw [if_neg (fun h => hd h.2)] at hQ
        refine zgo 40 [] ?_
        repeat' (first
          | (exact ih (i + 1) _ _ q (by omega) (show nI i + Int32.ofInt 1 = nI (i + 1) by rw [zki, nI_add]) hm hq hcn hQ)
          | (show vp_in _ _; simp (disch := first | omega | decide) only [hm, h2, hd, eq_self, zcn, zkpl, zki, zki1, zk8, zk16, zo32, zlt0, zle0, zeq0, zgt0, zLe0, nI_ltI, nI_leI, nI_eq, nI_add, nI_clamp, vp_in_nI, zup_s, zup_n, upd_s, upd_n, ne_eq, not_true_eq_false, not_false_eq_true]; done)
          | (intro hc; exfalso; simp (disch := first | omega | decide) only [hm, h2, hd, eq_self, zcn, zkpl, zki, zki1, zk8, zk16, zo32, zlt0, zle0, zeq0, zgt0, zLe0, nI_ltI, nI_leI, nI_eq, nI_add, nI_clamp, vp_in_nI, zup_s, zup_n, upd_s, upd_n, ne_eq, not_true_eq_false, not_false_eq_true] at hc <;> omega)
          | (intro hc; exact absurd rfl hc)
          | intro hc
          | apply And.intro
          | exact Or.inl rfl
          | exact Or.inr rfl
          | (show (_ : Int32) = 0 ∨ _ = 1; simp (disch := first | omega | decide) only [hm, h2, hd, eq_self, zcn, zkpl, zki, zki1, zk8, zk16, zo32, zlt0, zle0, zeq0, zgt0, zLe0, nI_ltI, nI_leI, nI_eq, nI_add, nI_clamp, vp_in_nI, zup_s, zup_n, upd_s, upd_n, ne_eq, not_true_eq_false, not_false_eq_true, zeq1, true_or, or_true]; done))
    · rw [if_neg (fun h => h2 h.1)] at hQ
      refine zgo 40 [] ?_
      repeat' (first
        | (exact ih (i + 1) _ _ q (by omega) (show nI i + Int32.ofInt 1 = nI (i + 1) by rw [zki, nI_add]) hm hq hcn hQ)
        | (show vp_in _ _; simp (disch := first | omega | decide) only [hm, h2, eq_self, zcn, zkpl, zki, zki1, zk8, zk16, zo32, zlt0, zle0, zeq0, zgt0, zLe0, nI_ltI, nI_leI, nI_eq, nI_add, nI_clamp, vp_in_nI, zup_s, zup_n, upd_s, upd_n, ne_eq, not_true_eq_false, not_false_eq_true]; done)
        | (intro hc; exfalso; simp (disch := first | omega | decide) only [hm, h2, eq_self, zcn, zkpl, zki, zki1, zk8, zk16, zo32, zlt0, zle0, zeq0, zgt0, zLe0, nI_ltI, nI_leI, nI_eq, nI_add, nI_clamp, vp_in_nI, zup_s, zup_n, upd_s, upd_n, ne_eq, not_true_eq_false, not_false_eq_true] at hc <;> omega)
        | (intro hc; exact absurd rfl hc)
        | intro hc
        | apply And.intro
        | exact Or.inl rfl
        | exact Or.inr rfl
        | (show (_ : Int32) = 0 ∨ _ = 1; simp (disch := first | omega | decide) only [hm, h2, eq_self, zcn, zkpl, zki, zki1, zk8, zk16, zo32, zlt0, zle0, zeq0, zgt0, zLe0, nI_ltI, nI_leI, nI_eq, nI_add, nI_clamp, vp_in_nI, zup_s, zup_n, upd_s, upd_n, ne_eq, not_true_eq_false, not_false_eq_true, zeq1, true_or, or_true]; done))
theorem ev_wake {m : zM} {n q : Nat} (d : Int32) (hn : n ≤ 20) (hm : m 28 6 = nI n) (hq : m 28 8 = nI q) (hc : q + cnt (m 33) (nI 2) n ≤ 20) : Ev 105 [.ref 28, .int d] m none (zwk m 33 31 35 28 8 d 0 n) := by
  intro Q hQ
  refine zgo 10 [] ?_
  exact ev_wake_loop hn d Q n 0 m _ q (by omega) rfl hm hq hc hQ
/-- the model's: tell's loop -/
theorem mw_wake_loop {n : Nat} (hn : n ≤ 20) (d t s : Int32) (Q : zQ) : ∀ (k i : Nat) (m : zM) (x : Int32) (q : Nat), i + k = n → x = nI i → m 42 45 = nI n → m 42 47 = nI q → q + cnt (m 64) (nI 2) n ≤ 20 → Q none (SH, zwk m 64 62 66 42 47 d i k) → ZW 198 (0, 0, 0, 0) 50 [(4, .int x), (0, .ref 42), (1, .int t), (2, .int s), (3, .int d)] [] (SH, m) Q := by
  intro k
  induction k with
  | zero =>
    intro i m x q hi hx hm hq hc hQ
    refine zgo 40 [] ?_
    repeat' (first
      | (show vp_in _ _; simp (disch := first | omega | decide) only [hx, hm, zcn, zkpl, zki, zki1, zk8, zk16, zo32, zlt0, zle0, zeq0, zgt0, zLe0, nI_ltI, nI_leI, nI_eq, nI_add, nI_clamp, vp_in_nI, zup_s, zup_n, upd_s, upd_n, ne_eq, not_true_eq_false, not_false_eq_true]; done)
      | (intro hc; exfalso; simp (disch := first | omega | decide) only [hx, hm, zcn, zkpl, zki, zki1, zk8, zk16, zo32, zlt0, zle0, zeq0, zgt0, zLe0, nI_ltI, nI_leI, nI_eq, nI_add, nI_clamp, vp_in_nI, zup_s, zup_n, upd_s, upd_n, ne_eq, not_true_eq_false, not_false_eq_true] at hc <;> omega)
      | (intro hc; exact absurd rfl hc)
      | intro hc
      | apply And.intro
      | exact hQ
      | (show Q _ (SH, _); simp (disch := first | omega | decide) only [hx, hm, zcn, zkpl, zki, zki1, zk8, zk16, zo32, zlt0, zle0, zeq0, zgt0, zLe0, nI_ltI, nI_leI, nI_eq, nI_add, nI_clamp, vp_in_nI, zup_s, zup_n, upd_s, upd_n, ne_eq, not_true_eq_false, not_false_eq_true]; exact hQ)
      | exact Or.inl rfl
      | exact Or.inr rfl
      | (show (_ : Int32) = 0 ∨ _ = 1; simp (disch := first | omega | decide) only [hx, hm, zcn, zkpl, zki, zki1, zk8, zk16, zo32, zlt0, zle0, zeq0, zgt0, zLe0, nI_ltI, nI_leI, nI_eq, nI_add, nI_clamp, vp_in_nI, zup_s, zup_n, upd_s, upd_n, ne_eq, not_true_eq_false, not_false_eq_true, zeq1, true_or, or_true]; done))
  | succ k ih =>
    intro i m x q hi hx hm hq hcn hQ
    subst hx
    rw [zwk] at hQ
    by_cases h2 : m 64 i = nI 2
    · by_cases hd : m 62 i = d
      · rw [if_pos ⟨h2, hd⟩, hq, nI_clamp (by omega), nI_add] at hQ
        have h1 := cnt_pos h2 n (by omega)
        have hcn2 : q + 1 + cnt (zup (zup (zup m 64 i (nI 1)) 66 q (nI i)) 42 47 (nI (q + 1)) 64) (nI 2) n ≤ 20 := by
          have e : zup (zup (zup m 64 i (nI 1)) 66 q (nI i)) 42 47 (nI (q + 1)) 64 = upd (m 64) i (nI 1) := by simp (disch := first | omega | decide) only [zcn, zkpl, zki, zki1, zk8, zk16, zo32, zlt0, zle0, zeq0, zgt0, zLe0, nI_ltI, nI_leI, nI_eq, nI_add, nI_clamp, vp_in_nI, zup_s, zup_n, upd_s, upd_n, ne_eq, not_true_eq_false, not_false_eq_true]
          rw [e]
          have := cnt_upd (f := m 64) (v := nI 2) (x := nI 1) (t := i) n (by omega)
          rw [if_pos h2, if_neg (by decide)] at this
          omega
        refine zgo 60 [] ?_
        repeat' (first
          | (exact zcg (m := zup (zup (zup m 64 i (nI 1)) 66 q (nI i)) 42 47 (nI (q + 1))) (by simp (disch := first | omega | decide) only [hq, zcn, zkpl, zki, zki1, zk8, zk16, zo32, zlt0, zle0, zeq0, zgt0, zLe0, nI_ltI, nI_leI, nI_eq, nI_add, nI_clamp, vp_in_nI, zup_s, zup_n, upd_s, upd_n, ne_eq, not_true_eq_false, not_false_eq_true]) (ih (i + 1) _ _ (q + 1) (by omega) (show nI i + Int32.ofInt 1 = nI (i + 1) by rw [zki, nI_add]) (by simp (disch := first | omega | decide) only [hm, zcn, zkpl, zki, zki1, zk8, zk16, zo32, zlt0, zle0, zeq0, zgt0, zLe0, nI_ltI, nI_leI, nI_eq, nI_add, nI_clamp, vp_in_nI, zup_s, zup_n, upd_s, upd_n, ne_eq, not_true_eq_false, not_false_eq_true]) (by simp (disch := first | omega | decide) only [zcn, zkpl, zki, zki1, zk8, zk16, zo32, zlt0, zle0, zeq0, zgt0, zLe0, nI_ltI, nI_leI, nI_eq, nI_add, nI_clamp, vp_in_nI, zup_s, zup_n, upd_s, upd_n, ne_eq, not_true_eq_false, not_false_eq_true]) hcn2 hQ))
          | (show vp_in _ _; simp (disch := first | omega | decide) only [hm, hq, h2, hd, eq_self, zcn, zkpl, zki, zki1, zk8, zk16, zo32, zlt0, zle0, zeq0, zgt0, zLe0, nI_ltI, nI_leI, nI_eq, nI_add, nI_clamp, vp_in_nI, zup_s, zup_n, upd_s, upd_n, ne_eq, not_true_eq_false, not_false_eq_true]; done)
          | (intro hc; exfalso; simp (disch := first | omega | decide) only [hm, hq, h2, hd, eq_self, zcn, zkpl, zki, zki1, zk8, zk16, zo32, zlt0, zle0, zeq0, zgt0, zLe0, nI_ltI, nI_leI, nI_eq, nI_add, nI_clamp, vp_in_nI, zup_s, zup_n, upd_s, upd_n, ne_eq, not_true_eq_false, not_false_eq_true] at hc <;> omega)
          | (intro hc; exact absurd rfl hc)
          | intro hc
          | apply And.intro
          | exact Or.inl rfl
          | exact Or.inr rfl
          | (show (_ : Int32) = 0 ∨ _ = 1; simp (disch := first | omega | decide) only [hm, hq, h2, hd, eq_self, zcn, zkpl, zki, zki1, zk8, zk16, zo32, zlt0, zle0, zeq0, zgt0, zLe0, nI_ltI, nI_leI, nI_eq, nI_add, nI_clamp, vp_in_nI, zup_s, zup_n, upd_s, upd_n, ne_eq, not_true_eq_false, not_false_eq_true, zeq1, true_or, or_true]; done))
      · rw [if_neg (fun h => hd h.2)] at hQ
        refine zgo 60 [] ?_
        repeat' (first
          | (exact ih (i + 1) _ _ q (by omega) (show nI i + Int32.ofInt 1 = nI (i + 1) by rw [zki, nI_add]) hm hq hcn hQ)
          | (show vp_in _ _; simp (disch := first | omega | decide) only [hm, h2, hd, eq_self, zcn, zkpl, zki, zki1, zk8, zk16, zo32, zlt0, zle0, zeq0, zgt0, zLe0, nI_ltI, nI_leI, nI_eq, nI_add, nI_clamp, vp_in_nI, zup_s, zup_n, upd_s, upd_n, ne_eq, not_true_eq_false, not_false_eq_true]; done)
          | (intro hc; exfalso; simp (disch := first | omega | decide) only [hm, h2, hd, eq_self, zcn, zkpl, zki, zki1, zk8, zk16, zo32, zlt0, zle0, zeq0, zgt0, zLe0, nI_ltI, nI_leI, nI_eq, nI_add, nI_clamp, vp_in_nI, zup_s, zup_n, upd_s, upd_n, ne_eq, not_true_eq_false, not_false_eq_true] at hc <;> omega)
          | (intro hc; exact absurd rfl hc)
          | intro hc
          | apply And.intro
          | exact Or.inl rfl
          | exact Or.inr rfl
          | (show (_ : Int32) = 0 ∨ _ = 1; simp (disch := first | omega | decide) only [hm, h2, hd, eq_self, zcn, zkpl, zki, zki1, zk8, zk16, zo32, zlt0, zle0, zeq0, zgt0, zLe0, nI_ltI, nI_leI, nI_eq, nI_add, nI_clamp, vp_in_nI, zup_s, zup_n, upd_s, upd_n, ne_eq, not_true_eq_false, not_false_eq_true, zeq1, true_or, or_true]; done))
    · rw [if_neg (fun h => h2 h.1)] at hQ
      refine zgo 60 [] ?_
      repeat' (first
        | (exact ih (i + 1) _ _ q (by omega) (show nI i + Int32.ofInt 1 = nI (i + 1) by rw [zki, nI_add]) hm hq hcn hQ)
        | (show vp_in _ _; simp (disch := first | omega | decide) only [hm, h2, eq_self, zcn, zkpl, zki, zki1, zk8, zk16, zo32, zlt0, zle0, zeq0, zgt0, zLe0, nI_ltI, nI_leI, nI_eq, nI_add, nI_clamp, vp_in_nI, zup_s, zup_n, upd_s, upd_n, ne_eq, not_true_eq_false, not_false_eq_true]; done)
        | (intro hc; exfalso; simp (disch := first | omega | decide) only [hm, h2, eq_self, zcn, zkpl, zki, zki1, zk8, zk16, zo32, zlt0, zle0, zeq0, zgt0, zLe0, nI_ltI, nI_leI, nI_eq, nI_add, nI_clamp, vp_in_nI, zup_s, zup_n, upd_s, upd_n, ne_eq, not_true_eq_false, not_false_eq_true] at hc <;> omega)
        | (intro hc; exact absurd rfl hc)
        | intro hc
        | apply And.intro
        | exact Or.inl rfl
        | exact Or.inr rfl
        | (show (_ : Int32) = 0 ∨ _ = 1; simp (disch := first | omega | decide) only [hm, h2, eq_self, zcn, zkpl, zki, zki1, zk8, zk16, zo32, zlt0, zle0, zeq0, zgt0, zLe0, nI_ltI, nI_leI, nI_eq, nI_add, nI_clamp, vp_in_nI, zup_s, zup_n, upd_s, upd_n, ne_eq, not_true_eq_false, not_false_eq_true, zeq1, true_or, or_true]; done))
/-- tell(t, s, d) before its loop -/
def ztl (u : zM) (t r : Nat) (s : Int32) : zM := zup (zup (zup (zup (zup u 64 t s) 71 r (nI t)) 72 r s) 73 r 0) 42 55 (nI (r + 1))
theorem mw_tell {u : zM} {n q r t : Nat} (s d : Int32) (hn : n ≤ 20) (ht : t < n) (hr : r < 64) (hm : u 42 45 = nI n) (hR : u 42 55 = nI r) (hq : u 42 47 = nI q) (hc : q + cnt (upd (u 64) t s) (nI 2) n ≤ 20) : Ev 198 [.ref 42, .int (nI t), .int s, .int d] u none (zwk (ztl u t r s) 64 62 66 42 47 d 0 n) := by
  intro Q hQ
  refine zgo 60 [] ?_
  repeat' (first
    | (exact zcg (m := ztl u t r s) (by unfold ztl; simp (disch := first | omega | decide) only [hR, zcn, zkpl, zki, zki1, zk8, zk16, zo32, zlt0, zle0, zeq0, zgt0, zLe0, nI_ltI, nI_leI, nI_eq, nI_add, nI_clamp, vp_in_nI, zup_s, zup_n, upd_s, upd_n, ne_eq, not_true_eq_false, not_false_eq_true] <;> rfl) (mw_wake_loop hn d (nI t) s Q n 0 _ _ q (by omega) rfl (by unfold ztl; simp (disch := first | omega | decide) only [hm, zcn, zkpl, zki, zki1, zk8, zk16, zo32, zlt0, zle0, zeq0, zgt0, zLe0, nI_ltI, nI_leI, nI_eq, nI_add, nI_clamp, vp_in_nI, zup_s, zup_n, upd_s, upd_n, ne_eq, not_true_eq_false, not_false_eq_true]) (by unfold ztl; simp (disch := first | omega | decide) only [hq, zcn, zkpl, zki, zki1, zk8, zk16, zo32, zlt0, zle0, zeq0, zgt0, zLe0, nI_ltI, nI_leI, nI_eq, nI_add, nI_clamp, vp_in_nI, zup_s, zup_n, upd_s, upd_n, ne_eq, not_true_eq_false, not_false_eq_true]) (by unfold ztl; simp (disch := first | omega | decide) only [zcn, zkpl, zki, zki1, zk8, zk16, zo32, zlt0, zle0, zeq0, zgt0, zLe0, nI_ltI, nI_leI, nI_eq, nI_add, nI_clamp, vp_in_nI, zup_s, zup_n, upd_s, upd_n, ne_eq, not_true_eq_false, not_false_eq_true]; exact hc) hQ))
    | (show vp_in _ _; simp (disch := first | omega | decide) only [hm, hR, zcn, zkpl, zki, zki1, zk8, zk16, zo32, zlt0, zle0, zeq0, zgt0, zLe0, nI_ltI, nI_leI, nI_eq, nI_add, nI_clamp, vp_in_nI, zup_s, zup_n, upd_s, upd_n, ne_eq, not_true_eq_false, not_false_eq_true]; done)
    | (intro hc; exfalso; simp (disch := first | omega | decide) only [hm, hR, zcn, zkpl, zki, zki1, zk8, zk16, zo32, zlt0, zle0, zeq0, zgt0, zLe0, nI_ltI, nI_leI, nI_eq, nI_add, nI_clamp, vp_in_nI, zup_s, zup_n, upd_s, upd_n, ne_eq, not_true_eq_false, not_false_eq_true] at hc <;> omega)
    | (intro hc; exact absurd rfl hc)
    | intro hc
    | apply And.intro
    | exact Or.inl rfl
    | exact Or.inr rfl
    | (show (_ : Int32) = 0 ∨ _ = 1; simp (disch := first | omega | decide) only [hm, hR, zcn, zkpl, zki, zki1, zk8, zk16, zo32, zlt0, zle0, zeq0, zgt0, zLe0, nI_ltI, nI_leI, nI_eq, nI_add, nI_clamp, vp_in_nI, zup_s, zup_n, upd_s, upd_n, ne_eq, not_true_eq_false, not_false_eq_true, zeq1, true_or, or_true]; done))
