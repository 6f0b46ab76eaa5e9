/-! the model's records other than messages -/
theorem mw_leave_loop {n : Nat} {t : Int32} (hn : n ≤ 20) (Q : zQ) : ∀ (k i : Nat) (m : zM) (x y : Int32), i + k = n → 1 ≤ i → x = nI i → y = nI (i - 1) → m 42 47 = nI n → (∀ j, i ≤ j → j < n → m 66 j ≠ t) → Q none (SH, zup (zshl m 66 (i - 1) k) 42 47 (nI (n - 1))) → ZW 196 (0, 0, 0, 0) 4 [(3, .int x), (2, .int y), (0, .ref 42), (1, .int t)] [] (SH, m) Q := by
  intro k
  induction k with
  | zero =>
    intro i m x y hi h1 hx hy hm hne hQ
    have e : i - 1 = n - 1 := by omega
    rw [e] at hy
    refine zgo 40 [] ?_
    repeat' (first
      | (show vp_in _ _; simp (disch := first | omega | decide) only [hx, hy, hm, zcn, zkpl, zki, zki1, zk8, zk16, zo32, zlt0, zle0, zeq0, zgt0, zLe0, nI_ltI, nI_leI, nI_eq, nI_add, nI_clamp, vp_in_nI, zup_s, zup_n, upd_s, upd_n, ne_eq, not_true_eq_false, not_false_eq_true]; done)
      | (intro hc; exfalso; simp (disch := first | omega | decide) only [hx, hy, hm, zcn, zkpl, zki, zki1, zk8, zk16, zo32, zlt0, zle0, zeq0, zgt0, zLe0, nI_ltI, nI_leI, nI_eq, nI_add, nI_clamp, vp_in_nI, zup_s, zup_n, upd_s, upd_n, ne_eq, not_true_eq_false, not_false_eq_true] at hc <;> omega)
      | (intro hc; exact absurd rfl hc)
      | intro hc
      | apply And.intro
      | exact hQ
      | (show Q _ (SH, _); simp (disch := first | omega | decide) only [hx, hy, hm, zcn, zkpl, zki, zki1, zk8, zk16, zo32, zlt0, zle0, zeq0, zgt0, zLe0, nI_ltI, nI_leI, nI_eq, nI_add, nI_clamp, vp_in_nI, zup_s, zup_n, upd_s, upd_n, ne_eq, not_true_eq_false, not_false_eq_true]; exact hQ)
      | exact Or.inl rfl
      | exact Or.inr rfl
      | (show (_ : Int32) = 0 ∨ _ = 1; simp (disch := first | omega | decide) only [hx, hy, hm, zcn, zkpl, zki, zki1, zk8, zk16, zo32, zlt0, zle0, zeq0, zgt0, zLe0, nI_ltI, nI_leI, nI_eq, nI_add, nI_clamp, vp_in_nI, zup_s, zup_n, upd_s, upd_n, ne_eq, not_true_eq_false, not_false_eq_true, zeq1, true_or, or_true]; done))
  | succ k ih =>
    intro i m x y hi h1 hx hy hm hne hQ
    have hQ2 : Q none (SH, zup (zshl (zup m 66 (i - 1) (m 66 i)) 66 (i + 1 - 1) k) 42 47 (nI (n - 1))) := by
      have e : i + 1 - 1 = i - 1 + 1 := by omega
      have e2 : m 66 i = m 66 (i - 1 + 1) := by rw [show i - 1 + 1 = i by omega]
      rw [e, e2]
      exact hQ
    have hi0 := hne i (Nat.le_refl _) (by omega)
    have hne2 : ∀ j, i + 1 ≤ j → j < n → zup m 66 (i - 1) (m 66 i) 66 j ≠ t := by
      intro j g1 g2
      rw [zup_s, upd_n _ (by omega)]
      exact hne j (by omega) g2
    have ey : nI (i - 1) + Int32.ofInt 1 = nI (i + 1 - 1) := by rw [zki, nI_add]; congr 1; omega
    refine zgo 40 [] ?_
    repeat' (first
      | (exact zcg (m := zup m 66 (i - 1) (m 66 i)) (by simp (disch := first | omega | decide) only [hx, hy, zcn, zkpl, zki, zki1, zk8, zk16, zo32, zlt0, zle0, zeq0, zgt0, zLe0, nI_ltI, nI_leI, nI_eq, nI_add, nI_clamp, vp_in_nI, zup_s, zup_n, upd_s, upd_n, ne_eq, not_true_eq_false, not_false_eq_true]) (ih (i + 1) _ _ _ (by omega) (by omega) (show x + Int32.ofInt 1 = nI (i + 1) by rw [hx, zki, nI_add]) (by rw [hy]; exact ey) (by simp (disch := first | omega | decide) only [hm, zcn, zkpl, zki, zki1, zk8, zk16, zo32, zlt0, zle0, zeq0, zgt0, zLe0, nI_ltI, nI_leI, nI_eq, nI_add, nI_clamp, vp_in_nI, zup_s, zup_n, upd_s, upd_n, ne_eq, not_true_eq_false, not_false_eq_true]) hne2 hQ2))
      | (show vp_in _ _; simp (disch := first | omega | decide) only [hx, hy, hm, hi0, eq_self, zcn, zkpl, zki, zki1, zk8, zk16, zo32, zlt0, zle0, zeq0, zgt0, zLe0, nI_ltI, nI_leI, nI_eq, nI_add, nI_clamp, vp_in_nI, zup_s, zup_n, upd_s, upd_n, ne_eq, not_true_eq_false, not_false_eq_true]; done)
      | (intro hc; exfalso; simp (disch := first | omega | decide) only [hx, hy, hm, hi0, eq_self, zcn, zkpl, zki, zki1, zk8, zk16, zo32, zlt0, zle0, zeq0, zgt0, zLe0, nI_ltI, nI_leI, nI_eq, nI_add, nI_clamp, vp_in_nI, zup_s, zup_n, upd_s, upd_n, ne_eq, not_true_eq_false, not_false_eq_true] at hc <;> omega)
      | (intro hc; exact absurd rfl hc)
      | intro hc
      | apply And.intro
      | exact Or.inl rfl
      | exact Or.inr rfl
      | (show (_ : Int32) = 0 ∨ _ = 1; simp (disch := first | omega | decide) only [hx, hy, hm, hi0, eq_self, zcn, zkpl, zki, zki1, zk8, zk16, zo32, zlt0, zle0, zeq0, zgt0, zLe0, nI_ltI, nI_leI, nI_eq, nI_add, nI_clamp, vp_in_nI, zup_s, zup_n, upd_s, upd_n, ne_eq, not_true_eq_false, not_false_eq_true, zeq1, true_or, or_true]; done))
def mlv (u : zM) (n : Nat) : zM := zup (zshl u 66 0 (n - 1)) 42 47 (nI (n - 1))
theorem mw_leave {u : zM} {n : Nat} {t : Int32} (hn : n ≤ 20) (h1 : 1 ≤ n) (hm : u 42 47 = nI n) (h0 : u 66 0 = t) (hne : ∀ j, 1 ≤ j → j < n → u 66 j ≠ t) : Ev 196 [.ref 42, .int t] u none (mlv u n) := by
  intro Q hQ
  refine zgo 10 [] ?_
  refine zgo 40 [] ?_
  repeat' (first
    | (exact mw_leave_loop hn Q (n - 1) 1 u _ _ (by omega) (by omega) rfl rfl hm hne hQ)
    | (show vp_in _ _; simp (disch := first | omega | decide) only [hm, h0, eq_self, zcn, zkpl, zki, zki1, zk8, zk16, zo32, zlt0, zle0, zeq0, zgt0, zLe0, nI_ltI, nI_leI, nI_eq, nI_add, nI_clamp, vp_in_nI, zup_s, zup_n, upd_s, upd_n, ne_eq, not_true_eq_false, not_false_eq_true]; done)
    | (intro hc; exfalso; simp (disch := first | omega | decide) only [hm, h0, eq_self, zcn, zkpl, zki, zki1, zk8, zk16, zo32, zlt0, zle0, zeq0, zgt0, zLe0, nI_ltI, nI_leI, nI_eq, nI_add, nI_clamp, vp_in_nI, zup_s, zup_n, upd_s, upd_n, ne_eq, not_true_eq_false, not_false_eq_true] at hc <;> omega)
    | (intro hc; exact absurd rfl hc)
    | intro hc
    | apply And.intro
    | exact Or.inl rfl
    | exact Or.inr rfl
    | (show (_ : Int32) = 0 ∨ _ = 1; simp (disch := first | omega | decide) only [hm, h0, eq_self, zcn, zkpl, zki, zki1, zk8, zk16, zo32, zlt0, zle0, zeq0, zgt0, zLe0, nI_ltI, nI_leI, nI_eq, nI_add, nI_clamp, vp_in_nI, zup_s, zup_n, upd_s, upd_n, ne_eq, not_true_eq_false, not_false_eq_true, zeq1, true_or, or_true]; done))
theorem mr_head {u : zM} {t p kd : Nat} (hp : p < 6000) (hk : u 58 p = nI kd) (hd : u 58 (p + 2) = nI t) (Q : zQ) (w : ZW 202 (0, 0, 0, 0) 16 [(3, .int (nI t)), (2, .int (nI kd)), (0, .ref 42), (1, .int (nI p))] [] (SH, u) Q) : ZM 202 0 0 [.ref 42, .int (nI p)] (SH, u) Q := by
  refine zgo 12 [] ?_
  refine ⟨by show vp_in _ _; simp (disch := first | omega | decide) only [zcn, zkpl, zki, zki1, zk8, zk16, zo32, zlt0, zle0, zeq0, zgt0, zLe0, nI_ltI, nI_leI, nI_eq, nI_add, nI_clamp, vp_in_nI, zup_s, zup_n, upd_s, upd_n, ne_eq, not_true_eq_false, not_false_eq_true], by show vp_in _ _; simp (disch := first | omega | decide) only [zcn, zkpl, zki, zki1, zk8, zk16, zo32, zlt0, zle0, zeq0, zgt0, zLe0, nI_ltI, nI_leI, nI_eq, nI_add, nI_clamp, vp_in_nI, zup_s, zup_n, upd_s, upd_n, ne_eq, not_true_eq_false, not_false_eq_true], ?_⟩
  show ZW 202 (0, 0, 0, 0) 16 [(3, .int (u 58 (nI p + Int32.ofInt 2).toNatClampNeg)), (2, .int (u 58 (nI p).toNatClampNeg)), (0, .ref 42), (1, .int (nI p))] [] (SH, u) Q
  rw [zki, nI_add, nI_clamp (by omega), nI_clamp (by omega), hd, hk]
  exact w
/-- 87: t waits -/
theorem mr_wait {u : zM} {n t p : Nat} (hn : n ≤ 20) (h1 : 1 ≤ n) (hp : p < 6000) (ht : t < 20) (hm : u 42 47 = nI n) (h0 : u 66 0 = nI t) (hne : ∀ j, 1 ≤ j → j < n → u 66 j ≠ nI t) (hk : u 58 p = nI 87) (hd : u 58 (p + 2) = nI t) : Ev 202 [.ref 42, .int (nI p)] u none (zup (mlv u n) 64 t (nI 2)) := by
  intro Q hQ
  refine mr_head hp hk hd Q ?_
  have fin : ZW 202 (0, 0, 0, 0) 124 [(3, .int (nI t)), (2, .int (nI 87)), (0, .ref 42), (1, .int (nI p))] [] (SH, mlv u n) Q := by
    refine zgo 20 [] ?_
    repeat' (first
      | (show vp_in _ _; simp (disch := first | omega | decide) only [zcn, zkpl, zki, zki1, zk8, zk16, zo32, zlt0, zle0, zeq0, zgt0, zLe0, nI_ltI, nI_leI, nI_eq, nI_add, nI_clamp, vp_in_nI, zup_s, zup_n, upd_s, upd_n, ne_eq, not_true_eq_false, not_false_eq_true]; done)
      | (intro hc; exfalso; simp (disch := first | omega | decide) only [zcn, zkpl, zki, zki1, zk8, zk16, zo32, zlt0, zle0, zeq0, zgt0, zLe0, nI_ltI, nI_leI, nI_eq, nI_add, nI_clamp, vp_in_nI, zup_s, zup_n, upd_s, upd_n, ne_eq, not_true_eq_false, not_false_eq_true] at hc <;> omega)
      | (intro hc; exact absurd rfl hc)
      | intro hc
      | apply And.intro
      | exact hQ
      | (show Q _ (SH, _); simp (disch := first | omega | decide) only [zcn, zkpl, zki, zki1, zk8, zk16, zo32, zlt0, zle0, zeq0, zgt0, zLe0, nI_ltI, nI_leI, nI_eq, nI_add, nI_clamp, vp_in_nI, zup_s, zup_n, upd_s, upd_n, ne_eq, not_true_eq_false, not_false_eq_true]; exact hQ)
      | exact Or.inl rfl
      | exact Or.inr rfl
      | (show (_ : Int32) = 0 ∨ _ = 1; simp (disch := first | omega | decide) only [zcn, zkpl, zki, zki1, zk8, zk16, zo32, zlt0, zle0, zeq0, zgt0, zLe0, nI_ltI, nI_leI, nI_eq, nI_add, nI_clamp, vp_in_nI, zup_s, zup_n, upd_s, upd_n, ne_eq, not_true_eq_false, not_false_eq_true, zeq1, true_or, or_true]; done))
  refine zgo 60 [] ?_
  repeat' (first
    | (exact (mw_leave hn h1 hm h0 hne).use fin)
    | (show vp_in _ _; simp (disch := first | omega | decide) only [zcn, zkpl, zki, zki1, zk8, zk16, zo32, zlt0, zle0, zeq0, zgt0, zLe0, nI_ltI, nI_leI, nI_eq, nI_add, nI_clamp, vp_in_nI, zup_s, zup_n, upd_s, upd_n, ne_eq, not_true_eq_false, not_false_eq_true]; done)
    | (intro hc; exfalso; simp (disch := first | omega | decide) only [zcn, zkpl, zki, zki1, zk8, zk16, zo32, zlt0, zle0, zeq0, zgt0, zLe0, nI_ltI, nI_leI, nI_eq, nI_add, nI_clamp, vp_in_nI, zup_s, zup_n, upd_s, upd_n, ne_eq, not_true_eq_false, not_false_eq_true] at hc <;> omega)
    | (intro hc; exact absurd rfl hc)
    | intro hc
    | apply And.intro
    | exact Or.inl rfl
    | exact Or.inr rfl
    | (show (_ : Int32) = 0 ∨ _ = 1; simp (disch := first | omega | decide) only [zcn, zkpl, zki, zki1, zk8, zk16, zo32, zlt0, zle0, zeq0, zgt0, zLe0, nI_ltI, nI_leI, nI_eq, nI_add, nI_clamp, vp_in_nI, zup_s, zup_n, upd_s, upd_n, ne_eq, not_true_eq_false, not_false_eq_true, zeq1, true_or, or_true]; done))
/-- 72: t is held until dl -/
def mhd (u : zM) (n t d : Nat) (dl : Int32) : zM := zup (zup (zup (mlv u n) 64 t (nI 3)) 65 t dl) 68 d (u 68 d + u 61 t)
theorem mr_hold {u : zM} {n t p d b3 b4 b5 : Nat} (hn : n ≤ 20) (h1 : 1 ≤ n) (hp : p < 6000) (ht : t < 20) (hdd : d < 4) (hm : u 42 47 = nI n) (h0 : u 66 0 = nI t) (hne : ∀ j, 1 ≤ j → j < n → u 66 j ≠ nI t) (hk : u 58 p = nI 72) (hd : u 58 (p + 2) = nI t) (h3 : u 58 (p + 3) = nI b3) (h4 : u 58 (p + 4) = nI b4) (h5 : u 58 (p + 5) = nI b5) (hdb : u 62 t = nI d) : Ev 202 [.ref 42, .int (nI p)] u none (mhd u n t d (nI ((b3 * 256 + b4) * 256 + b5))) := by
  intro Q hQ
  refine mr_head hp hk hd Q ?_
  have f1 : ∀ a, a ≠ 66 → a ≠ 42 → mlv u n a = u a := fun a g1 g2 => by
    unfold mlv
    rw [zup_n _ g2, zshl_far g1]
  have e58 : mlv u n 58 = u 58 := f1 58 (by decide) (by decide)
  have e62 : mlv u n 62 = u 62 := f1 62 (by decide) (by decide)
  have e61 : mlv u n 61 = u 61 := f1 61 (by decide) (by decide)
  have e68 : mlv u n 68 = u 68 := f1 68 (by decide) (by decide)
  have fin : ZW 202 (0, 0, 0, 0) 43 [(3, .int (nI t)), (2, .int (nI 72)), (0, .ref 42), (1, .int (nI p))] [] (SH, mlv u n) Q := by
    refine zgo 60 [] ?_
    repeat' (first
      | (exact zcq rfl (by unfold mhd; simp (disch := first | omega | decide) only [e58, e62, e61, e68, h3, h4, h5, hdb, pk_mul, zcn, zkpl, zki, zki1, zk8, zk16, zo32, zlt0, zle0, zeq0, zgt0, zLe0, nI_ltI, nI_leI, nI_eq, nI_add, nI_clamp, vp_in_nI, zup_s, zup_n, upd_s, upd_n, ne_eq, not_true_eq_false, not_false_eq_true]) hQ)
      | (show vp_in _ _; simp (disch := first | omega | decide) only [e58, e62, e61, e68, h3, h4, h5, hdb, pk_mul, zcn, zkpl, zki, zki1, zk8, zk16, zo32, zlt0, zle0, zeq0, zgt0, zLe0, nI_ltI, nI_leI, nI_eq, nI_add, nI_clamp, vp_in_nI, zup_s, zup_n, upd_s, upd_n, ne_eq, not_true_eq_false, not_false_eq_true]; done)
      | (intro hc; exfalso; simp (disch := first | omega | decide) only [e58, e62, e61, e68, h3, h4, h5, hdb, pk_mul, zcn, zkpl, zki, zki1, zk8, zk16, zo32, zlt0, zle0, zeq0, zgt0, zLe0, nI_ltI, nI_leI, nI_eq, nI_add, nI_clamp, vp_in_nI, zup_s, zup_n, upd_s, upd_n, ne_eq, not_true_eq_false, not_false_eq_true] at hc <;> omega)
      | (intro hc; exact absurd rfl hc)
      | intro hc
      | apply And.intro
      | exact Or.inl rfl
      | exact Or.inr rfl
      | (show (_ : Int32) = 0 ∨ _ = 1; simp (disch := first | omega | decide) only [e58, e62, e61, e68, h3, h4, h5, hdb, pk_mul, zcn, zkpl, zki, zki1, zk8, zk16, zo32, zlt0, zle0, zeq0, zgt0, zLe0, nI_ltI, nI_leI, nI_eq, nI_add, nI_clamp, vp_in_nI, zup_s, zup_n, upd_s, upd_n, ne_eq, not_true_eq_false, not_false_eq_true, zeq1, true_or, or_true]; done))
  refine zgo 60 [] ?_
  repeat' (first
    | (exact (mw_leave hn h1 hm h0 hne).use fin)
    | (show vp_in _ _; simp (disch := first | omega | decide) only [zcn, zkpl, zki, zki1, zk8, zk16, zo32, zlt0, zle0, zeq0, zgt0, zLe0, nI_ltI, nI_leI, nI_eq, nI_add, nI_clamp, vp_in_nI, zup_s, zup_n, upd_s, upd_n, ne_eq, not_true_eq_false, not_false_eq_true]; done)
    | (intro hc; exfalso; simp (disch := first | omega | decide) only [zcn, zkpl, zki, zki1, zk8, zk16, zo32, zlt0, zle0, zeq0, zgt0, zLe0, nI_ltI, nI_leI, nI_eq, nI_add, nI_clamp, vp_in_nI, zup_s, zup_n, upd_s, upd_n, ne_eq, not_true_eq_false, not_false_eq_true] at hc <;> omega)
    | (intro hc; exact absurd rfl hc)
    | intro hc
    | apply And.intro
    | exact Or.inl rfl
    | exact Or.inr rfl
    | (show (_ : Int32) = 0 ∨ _ = 1; simp (disch := first | omega | decide) only [zcn, zkpl, zki, zki1, zk8, zk16, zo32, zlt0, zle0, zeq0, zgt0, zLe0, nI_ltI, nI_leI, nI_eq, nI_add, nI_clamp, vp_in_nI, zup_s, zup_n, upd_s, upd_n, ne_eq, not_true_eq_false, not_false_eq_true, zeq1, true_or, or_true]; done))
/-- 83: report r is marked -/
theorem zboo1 : vp_nar .boolean (nI 1) = 1 := by decide
theorem mr_mark {u : zM} {r p : Nat} (hp : p < 6000) (hr : r < 64) (hk : u 58 p = nI 83) (hd : u 58 (p + 2) = nI r) : Ev 202 [.ref 42, .int (nI p)] u none (zup u 73 r 1) := by
  intro Q hQ
  refine mr_head hp hk hd Q ?_
  refine zgo 60 [] ?_
  repeat' (first
    | (show vp_in _ _; simp (disch := first | omega | decide) only [zboo1, zcn, zkpl, zki, zki1, zk8, zk16, zo32, zlt0, zle0, zeq0, zgt0, zLe0, nI_ltI, nI_leI, nI_eq, nI_add, nI_clamp, vp_in_nI, zup_s, zup_n, upd_s, upd_n, ne_eq, not_true_eq_false, not_false_eq_true]; done)
    | (intro hc; exfalso; simp (disch := first | omega | decide) only [zboo1, zcn, zkpl, zki, zki1, zk8, zk16, zo32, zlt0, zle0, zeq0, zgt0, zLe0, nI_ltI, nI_leI, nI_eq, nI_add, nI_clamp, vp_in_nI, zup_s, zup_n, upd_s, upd_n, ne_eq, not_true_eq_false, not_false_eq_true] at hc <;> omega)
    | (intro hc; exact absurd rfl hc)
    | intro hc
    | apply And.intro
    | exact hQ
    | (show Q _ (SH, _); simp (disch := first | omega | decide) only [zboo1, zcn, zkpl, zki, zki1, zk8, zk16, zo32, zlt0, zle0, zeq0, zgt0, zLe0, nI_ltI, nI_leI, nI_eq, nI_add, nI_clamp, vp_in_nI, zup_s, zup_n, upd_s, upd_n, ne_eq, not_true_eq_false, not_false_eq_true]; exact hQ)
    | exact Or.inl rfl
    | exact Or.inr rfl
    | (show (_ : Int32) = 0 ∨ _ = 1; simp (disch := first | omega | decide) only [zboo1, zcn, zkpl, zki, zki1, zk8, zk16, zo32, zlt0, zle0, zeq0, zgt0, zLe0, nI_ltI, nI_leI, nI_eq, nI_add, nI_clamp, vp_in_nI, zup_s, zup_n, upd_s, upd_n, ne_eq, not_true_eq_false, not_false_eq_true, zeq1, true_or, or_true]; done))
/-- reject(t) -/
def mrj (u : zM) (n t d r : Nat) : zM := zwk (ztl (zup u 68 d (u 68 d - u 61 t)) t r (nI 5)) 64 62 66 42 47 (nI d) 0 n
theorem mw_reject {u : zM} {n q r t d : Nat} (hn : n ≤ 20) (ht : t < n) (hr : r < 64) (hdd : d < 4) (hm : u 42 45 = nI n) (hR : u 42 55 = nI r) (hq : u 42 47 = nI q) (hdb : u 62 t = nI d) (hcn : q + cnt (upd (u 64) t (nI 5)) (nI 2) n ≤ 20) : Ev 199 [.ref 42, .int (nI t)] u none (mrj u n t d r) := by
  intro Q hQ
  have hE : ∀ dd, dd = nI d → Ev 198 [.ref 42, .int (nI t), .int (nI 5), .int dd] (zup u 68 d (u 68 d - u 61 t)) none (mrj u n t d r) := by
    rintro dd rfl
    exact mw_tell (r := r) (q := q) (nI 5) (nI d) hn ht hr (by simp (disch := first | omega | decide) only [hm, zcn, zkpl, zki, zki1, zk8, zk16, zo32, zlt0, zle0, zeq0, zgt0, zLe0, nI_ltI, nI_leI, nI_eq, nI_add, nI_clamp, vp_in_nI, zup_s, zup_n, upd_s, upd_n, ne_eq, not_true_eq_false, not_false_eq_true]) (by simp (disch := first | omega | decide) only [hR, zcn, zkpl, zki, zki1, zk8, zk16, zo32, zlt0, zle0, zeq0, zgt0, zLe0, nI_ltI, nI_leI, nI_eq, nI_add, nI_clamp, vp_in_nI, zup_s, zup_n, upd_s, upd_n, ne_eq, not_true_eq_false, not_false_eq_true]) (by simp (disch := first | omega | decide) only [hq, zcn, zkpl, zki, zki1, zk8, zk16, zo32, zlt0, zle0, zeq0, zgt0, zLe0, nI_ltI, nI_leI, nI_eq, nI_add, nI_clamp, vp_in_nI, zup_s, zup_n, upd_s, upd_n, ne_eq, not_true_eq_false, not_false_eq_true]) (by simp (disch := first | omega | decide) only [zcn, zkpl, zki, zki1, zk8, zk16, zo32, zlt0, zle0, zeq0, zgt0, zLe0, nI_ltI, nI_leI, nI_eq, nI_add, nI_clamp, vp_in_nI, zup_s, zup_n, upd_s, upd_n, ne_eq, not_true_eq_false, not_false_eq_true]; exact hcn)
  have fin : ZW 199 (0, 0, 0, 0) 32 [(0, .ref 42), (1, .int (nI t))] [] (SH, mrj u n t d r) Q := by
    refine zgo 5 [] ?_
    exact hQ
  refine zgo 60 [] ?_
  repeat' (first
    | (exact zcm (m := zup u 68 d (u 68 d - u 61 t)) (by simp (disch := first | omega | decide) only [hdb, zcn, zkpl, zki, zki1, zk8, zk16, zo32, zlt0, zle0, zeq0, zgt0, zLe0, nI_ltI, nI_leI, nI_eq, nI_add, nI_clamp, vp_in_nI, zup_s, zup_n, upd_s, upd_n, ne_eq, not_true_eq_false, not_false_eq_true]) ((hE _ (by simp (disch := first | omega | decide) only [hdb, zcn, zkpl, zki, zki1, zk8, zk16, zo32, zlt0, zle0, zeq0, zgt0, zLe0, nI_ltI, nI_leI, nI_eq, nI_add, nI_clamp, vp_in_nI, zup_s, zup_n, upd_s, upd_n, ne_eq, not_true_eq_false, not_false_eq_true])).use fin))
    | (show vp_in _ _; simp (disch := first | omega | decide) only [hdb, zcn, zkpl, zki, zki1, zk8, zk16, zo32, zlt0, zle0, zeq0, zgt0, zLe0, nI_ltI, nI_leI, nI_eq, nI_add, nI_clamp, vp_in_nI, zup_s, zup_n, upd_s, upd_n, ne_eq, not_true_eq_false, not_false_eq_true]; done)
    | (intro hc; exfalso; simp (disch := first | omega | decide) only [hdb, zcn, zkpl, zki, zki1, zk8, zk16, zo32, zlt0, zle0, zeq0, zgt0, zLe0, nI_ltI, nI_leI, nI_eq, nI_add, nI_clamp, vp_in_nI, zup_s, zup_n, upd_s, upd_n, ne_eq, not_true_eq_false, not_false_eq_true] at hc <;> omega)
    | (intro hc; exact absurd rfl hc)
    | intro hc
    | apply And.intro
    | exact Or.inl rfl
    | exact Or.inr rfl
    | (show (_ : Int32) = 0 ∨ _ = 1; simp (disch := first | omega | decide) only [hdb, zcn, zkpl, zki, zki1, zk8, zk16, zo32, zlt0, zle0, zeq0, zgt0, zLe0, nI_ltI, nI_leI, nI_eq, nI_add, nI_clamp, vp_in_nI, zup_s, zup_n, upd_s, upd_n, ne_eq, not_true_eq_false, not_false_eq_true, zeq1, true_or, or_true]; done))
theorem mr_expire {u : zM} {n q r t d p : Nat} (hp : p < 6000) (hn : n ≤ 20) (ht : t < n) (hr : r < 64) (hdd : d < 4) (hm : u 42 45 = nI n) (hR : u 42 55 = nI r) (hq : u 42 47 = nI q) (hdb : u 62 t = nI d) (hcn : q + cnt (upd (u 64) t (nI 5)) (nI 2) n ≤ 20) (hk : u 58 p = nI 88) (hd : u 58 (p + 2) = nI t) : Ev 202 [.ref 42, .int (nI p)] u none (mrj u n t d r) := by
  intro Q hQ
  refine mr_head hp hk hd Q ?_
  have fin : ZW 202 (0, 0, 0, 0) 145 [(3, .int (nI t)), (2, .int (nI 88)), (0, .ref 42), (1, .int (nI p))] [] (SH, mrj u n t d r) Q := by
    refine zgo 5 [] ?_
    exact hQ
  refine zgo 60 [] ?_
  repeat' (first
    | (exact (mw_reject hn ht hr hdd hm hR hq hdb hcn).use fin)
    | (show vp_in _ _; simp (disch := first | omega | decide) only [zcn, zkpl, zki, zki1, zk8, zk16, zo32, zlt0, zle0, zeq0, zgt0, zLe0, nI_ltI, nI_leI, nI_eq, nI_add, nI_clamp, vp_in_nI, zup_s, zup_n, upd_s, upd_n, ne_eq, not_true_eq_false, not_false_eq_true]; done)
    | (intro hc; exfalso; simp (disch := first | omega | decide) only [zcn, zkpl, zki, zki1, zk8, zk16, zo32, zlt0, zle0, zeq0, zgt0, zLe0, nI_ltI, nI_leI, nI_eq, nI_add, nI_clamp, vp_in_nI, zup_s, zup_n, upd_s, upd_n, ne_eq, not_true_eq_false, not_false_eq_true] at hc <;> omega)
    | (intro hc; exact absurd rfl hc)
    | intro hc
    | apply And.intro
    | exact Or.inl rfl
    | exact Or.inr rfl
    | (show (_ : Int32) = 0 ∨ _ = 1; simp (disch := first | omega | decide) only [zcn, zkpl, zki, zki1, zk8, zk16, zo32, zlt0, zle0, zeq0, zgt0, zLe0, nI_ltI, nI_leI, nI_eq, nI_add, nI_clamp, vp_in_nI, zup_s, zup_n, upd_s, upd_n, ne_eq, not_true_eq_false, not_false_eq_true, zeq1, true_or, or_true]; done))
/-- enter(a, v) -/
def men (u : zM) (a e : Nat) (v : Int32) : zM := zup (zup (zup u 69 (64 * a + e) v) 70 a (nI (e + 1))) 67 a (u 67 a + v)
theorem mw_enter {u : zM} {a e : Nat} (v : Int32) (ha : a < 4) (he : e < 64) (hm : u 70 a = nI e) : Ev 197 [.ref 42, .int (nI a), .int v] u none (men u a e v) := by
  intro Q hQ
  have e1 : (nI 64 * nI a + nI e) = nI (64 * a + e) := by rw [pk_mul, nI_add]
  refine zgo 60 [] ?_
  repeat' (first
    | (exact zcq rfl (by unfold men; simp (disch := first | omega | decide) only [hm, pk_mul, zcn, zkpl, zki, zki1, zk8, zk16, zo32, zlt0, zle0, zeq0, zgt0, zLe0, nI_ltI, nI_leI, nI_eq, nI_add, nI_clamp, vp_in_nI, zup_s, zup_n, upd_s, upd_n, ne_eq, not_true_eq_false, not_false_eq_true]) hQ)
    | (show vp_in _ _; simp (disch := first | omega | decide) only [hm, pk_mul, zcn, zkpl, zki, zki1, zk8, zk16, zo32, zlt0, zle0, zeq0, zgt0, zLe0, nI_ltI, nI_leI, nI_eq, nI_add, nI_clamp, vp_in_nI, zup_s, zup_n, upd_s, upd_n, ne_eq, not_true_eq_false, not_false_eq_true]; done)
    | (intro hc; exfalso; simp (disch := first | omega | decide) only [hm, pk_mul, zcn, zkpl, zki, zki1, zk8, zk16, zo32, zlt0, zle0, zeq0, zgt0, zLe0, nI_ltI, nI_leI, nI_eq, nI_add, nI_clamp, vp_in_nI, zup_s, zup_n, upd_s, upd_n, ne_eq, not_true_eq_false, not_false_eq_true] at hc <;> omega)
    | (intro hc; exact absurd rfl hc)
    | intro hc
    | apply And.intro
    | exact Or.inl rfl
    | exact Or.inr rfl
    | (show (_ : Int32) = 0 ∨ _ = 1; simp (disch := first | omega | decide) only [hm, pk_mul, zcn, zkpl, zki, zki1, zk8, zk16, zo32, zlt0, zle0, zeq0, zgt0, zLe0, nI_ltI, nI_leI, nI_eq, nI_add, nI_clamp, vp_in_nI, zup_s, zup_n, upd_s, upd_n, ne_eq, not_true_eq_false, not_false_eq_true, zeq1, true_or, or_true]; done))
