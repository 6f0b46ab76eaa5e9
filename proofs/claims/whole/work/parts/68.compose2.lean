/-! the class composes a message, as a whole -/
def XP (nm : Nat → List Nat) (vl : Nat → Nat) : Nat → List Nat := fun i => if i = 1 then nm 1 else if i = 2 then nda (vl 2) 5 else amT (vl 3)
def XT (nm : Nat → List Nat) (vl pl dg : Nat → Nat) (t : Nat) : Nat → List Nat := fun i => if i = 1 then nm (5 + 5 * t) else if i = 2 then acT (pl (6 + 5 * t)) (dg (6 + 5 * t)) else if i = 3 then acT (pl (7 + 5 * t)) (dg (7 + 5 * t)) else amT (vl (8 + 5 * t))
def XQ (nm : Nat → List Nat) (vl : Nat → Nat) : Nat → List Nat := fun i => if i = 1 then nm 1 else if i = 2 then nm 2 else [vl 3]
def XR (nm : Nat → List Nat) (vl : Nat → Nat) : Nat → List Nat := fun i => if i = 1 then nm 1 else if i = 2 then nm 2 else amT (vl 3)
def ptx (nm : Nat → List Nat) (vl pl dg : Nat → Nat) : Nat → Nat → List Nat
  | 0, _ => []
  | k + 1, t => rtx 1 (XT nm vl pl dg t) 5 0 ++ ([60, 47, 84, 62] ++ ptx nm vl pl dg k (t + 1))
def htx (K : Nat) (nm : Nat → List Nat) (vl : Nat → Nat) : List Nat := if K = 80 then rtx 0 (XP nm vl) 4 0 else if K = 81 then rtx 2 (XQ nm vl) 4 0 else rtx 3 (XR nm vl) 4 0
def mtx (K n : Nat) (nm : Nat → List Nat) (vl pl dg : Nat → Nat) : List Nat := htx K nm vl ++ (ptx nm vl pl dg n 0 ++ [60, 47, K, 62])
theorem rtx4 (j : Nat) (X : Nat → List Nat) : (rtx j X 4 0).length = 24 + (X 1).length + (X 2).length + (X 3).length := by
  have e : rtx j X 4 0 = ([60, rl j 0, 62] ++ []) ++ (([60, rl j 1, 62] ++ (X 1 ++ [60, 47, rl j 1, 62])) ++ (([60, rl j 2, 62] ++ (X 2 ++ [60, 47, rl j 2, 62])) ++ (([60, rl j 3, 62] ++ (X 3 ++ [60, 47, rl j 3, 62])) ++ []))) := rfl
  rw [e]
  simp only [List.length_append, List.length_cons, List.length_nil]
  omega
theorem rtx5 (j : Nat) (X : Nat → List Nat) : (rtx j X 5 0).length = 31 + (X 1).length + (X 2).length + (X 3).length + (X 4).length := by
  have e : rtx j X 5 0 = ([60, rl j 0, 62] ++ []) ++ (([60, rl j 1, 62] ++ (X 1 ++ [60, 47, rl j 1, 62])) ++ (([60, rl j 2, 62] ++ (X 2 ++ [60, 47, rl j 2, 62])) ++ (([60, rl j 3, 62] ++ (X 3 ++ [60, 47, rl j 3, 62])) ++ (([60, rl j 4, 62] ++ (X 4 ++ [60, 47, rl j 4, 62])) ++ [])))) := rfl
  rw [e]
  simp only [List.length_append, List.length_cons, List.length_nil]
  omega
theorem nda_2 {v : Nat} (hv : v ≤ 99) : nda v 5 = nda v 1 := by
  have e : ∀ i, 1 ≤ i → i ≤ 4 → nda v (i + 1) = nda v i := fun i h1 h2 => by
    have : 10 ^ 2 ≤ 10 ^ (i + 1) := Nat.pow_le_pow_right (by decide) (by omega)
    rw [nda, if_neg (by omega)]
    rfl
  rw [e 4 (by omega) (by omega), e 3 (by omega) (by omega), e 2 (by omega) (by omega), e 1 (by omega) (by omega)]
theorem amT_len (v : Nat) : (amT v).length ≤ 9 := by
  have := nda_len (v / 100) 5
  unfold amT two
  rw [List.length_append]
  simp only [List.length_cons, List.length_nil]
  omega
theorem htx_len {K n : Nat} {nm : Nat → List Nat} {vl pl dg : Nat → Nat} (ho : okM K n nm vl pl dg) : (htx K nm vl).length ≤ 41 := by
  obtain ⟨o1, o2, o3, o4, o5, o6, o7⟩ := ho
  have a3 := amT_len (vl 3)
  have l1 := o2.2.1
  unfold htx
  by_cases e0 : K = 80
  · rw [if_pos e0, rtx4]
    show 24 + (nm 1).length + (nda (vl 2) 5).length + (amT (vl 3)).length ≤ 41
    have l2 : (nda (vl 2) 5).length ≤ 2 := by
      rw [nda_2 (o4 e0).1]
      exact nda_len _ 1
    omega
  · have l2 := (o3 e0).2.1
    rw [if_neg e0]
    by_cases e1 : K = 81
    · rw [if_pos e1, rtx4]
      show 24 + (nm 1).length + (nm 2).length + ([vl 3] : List Nat).length ≤ 41
      simp only [List.length_cons, List.length_nil]
      omega
    · rw [if_neg e1, rtx4]
      show 24 + (nm 1).length + (nm 2).length + (amT (vl 3)).length ≤ 41
      omega
theorem ptx_len {n : Nat} {nm : Nat → List Nat} {vl pl dg : Nat → Nat} (hn : ∀ t, t < n → nmOk (nm (5 + 5 * t))) : ∀ k t, t + k = n → (ptx nm vl pl dg k t).length ≤ 54 * k := by
  intro k
  induction k with
  | zero => intro t _; exact Nat.le_refl 0
  | succ k ih =>
    intro t ht
    have h1 := ih (t + 1) (by omega)
    have h2 := (hn t (by omega)).2.1
    have a4 := amT_len (vl (8 + 5 * t))
    rw [ptx, List.length_append, List.length_append, rtx5]
    show 31 + (nm (5 + 5 * t)).length + (acT (pl (6 + 5 * t)) (dg (6 + 5 * t))).length + (acT (pl (7 + 5 * t)) (dg (7 + 5 * t))).length + (amT (vl (8 + 5 * t))).length + (4 + (ptx nm vl pl dg k (t + 1)).length) ≤ 54 * (k + 1)
    unfold acT two
    simp only [List.length_cons, List.length_nil]
    omega
def bg (m : zM) : zM := zup (zup (zup (zup (zup m 14 4 0) 16 0 (nI 77)) 14 4 (nI 1)) 16 1 0) 14 4 (nI 2)
theorem bg_far {m : zM} {a : Nat} (h1 : a ≠ 14) (h2 : a ≠ 16) : bg m a = m a := by
  unfold bg
  rw [zup_n _ h1, zup_n _ h2, zup_n _ h1, zup_n _ h2, zup_n _ h1]
theorem vt_T {m : zM} {K n : Nat} {nm : Nat → List Nat} {vl pl dg : Nat → Nat} (ho : okM K n nm vl pl dg) (hc' : cM m K n nm vl pl dg) {t : Nat} (ht : t < n) : ∀ i, 1 ≤ i → i < 5 → vtx (rl 1 i) (m 13 (4 + 5 * t + i)) (XT nm vl pl dg t i) := by
  intro i h1 h2
  obtain ⟨c1, c2, c3, c4⟩ := hc'.2.2.2.2.2 t ht
  obtain ⟨o1, o2, o3, o4⟩ := ho.2.2.2.2.2.2 t ht
  rcases (show i = 1 ∨ i = 2 ∨ i = 3 ∨ i = 4 by omega) with rfl | rfl | rfl | rfl
  · rw [show 4 + 5 * t + 1 = 5 + 5 * t by omega, c1]
    exact vtx_I (Or.inr (Or.inl rfl)) o1
  · rw [show 4 + 5 * t + 2 = 6 + 5 * t by omega, c2]
    exact vtx_D (Or.inr rfl) o2.1 o2.2
  · rw [show 4 + 5 * t + 3 = 7 + 5 * t by omega, c3]
    exact vtx_D (Or.inl rfl) o3.1 o3.2
  · rw [show 4 + 5 * t + 4 = 8 + 5 * t by omega, c4]
    exact vtx_A (Or.inr rfl) o4.2
theorem cp_lp {m0 : zM} {K n : Nat} {nm : Nat → List Nat} {vl pl dg : Nat → Nat} (ho : okM K n nm vl pl dg) (hM : cM m0 K n nm vl pl dg) (Q : zQ) : ∀ (k t : Nat) (m : zM) (c : Nat), t + k = n → m 14 4 = nI c → c + (ptx nm vl pl dg k t).length + 4 ≤ 240 → m 11 = m0 11 → m 13 = m0 13 → Q none (SH, cA m c (ptx nm vl pl dg k t ++ [60, 47, K, 62])) → ZW 10 (0, 0, 0, 0) 24 [(2, .int (nI t)), (0, .ref 17), (1, .ref 11)] [] (SH, m) Q := by
  have hn : n ≤ 3 := by have := ho.1; omega
  intro k
  induction k with
  | zero =>
    intro t m c ht h hc' h11 h13 hQ
    obtain rfl : t = n := by omega
    have hsz := ev_msz (m := m)
    rw [h11, hM.1.2] at hsz
    have hkd : Ev 34 [.ref 11] m (some (.int (nI K))) m := by
      have : m 11 3 = nI K := by rw [h11]; exact hM.1.1
      intro Q hQ
      rw [← this] at hQ
      refine zgo 5 [] ?_
      repeat' (first
        | (show vp_in _ _; simp (disch := first | omega | decide) only [zcn, zkpl, zki, zki1, zk8, zk16, zo32, zlt0, zle0, zeq0, zgt0, zLe0, nI_ltI, nI_leI, nI_eq, nI_add, nI_clamp, vp_in_nI, zup_s, zup_n, upd_s, upd_n, ne_eq, not_true_eq_false, not_false_eq_true]; done)
        | (intro hc; exfalso; simp (disch := first | omega | decide) only [zcn, zkpl, zki, zki1, zk8, zk16, zo32, zlt0, zle0, zeq0, zgt0, zLe0, nI_ltI, nI_leI, nI_eq, nI_add, nI_clamp, vp_in_nI, zup_s, zup_n, upd_s, upd_n, ne_eq, not_true_eq_false, not_false_eq_true] at hc <;> omega)
        | (intro hc; exact absurd rfl hc)
        | intro hc
        | apply And.intro
        | exact hQ
        | (show Q _ (SH, _); simp (disch := first | omega | decide) only [zcn, zkpl, zki, zki1, zk8, zk16, zo32, zlt0, zle0, zeq0, zgt0, zLe0, nI_ltI, nI_leI, nI_eq, nI_add, nI_clamp, vp_in_nI, zup_s, zup_n, upd_s, upd_n, ne_eq, not_true_eq_false, not_false_eq_true]; exact hQ)
        | exact Or.inl rfl
        | exact Or.inr rfl
        | (show (_ : Int32) = 0 ∨ _ = 1; simp (disch := first | omega | decide) only [zcn, zkpl, zki, zki1, zk8, zk16, zo32, zlt0, zle0, zeq0, zgt0, zLe0, nI_ltI, nI_leI, nI_eq, nI_add, nI_clamp, vp_in_nI, zup_s, zup_n, upd_s, upd_n, ne_eq, not_true_eq_false, not_false_eq_true, zeq1, true_or, or_true]; done))
    have s1 := ev_tE (l := K) h (show c + 4 ≤ 258 by omega)
    have hQ : Q none (SH, cA m c [60, 47, K, 62]) := hQ
    have f64 : ZW 10 (0, 0, 0, 0) 64 [(2, .int (nI t)), (0, .ref 17), (1, .ref 11)] [] (SH, cA m c [60, 47, K, 62]) Q := by
      refine zgo 2 [] ?_
      exact hQ
    have f61 : ZW 10 (0, 0, 0, 0) 61 [(2, .int (nI t)), (0, .ref 17), (1, .ref 11)] [.int (nI K), .ref 17] (SH, m) Q := by
      refine zgo 5 [] ?_
      repeat' (first
        | (exact s1.use f64)
        | (show vp_in _ _; simp (disch := first | omega | decide) only [zcn, zkpl, zki, zki1, zk8, zk16, zo32, zlt0, zle0, zeq0, zgt0, zLe0, nI_ltI, nI_leI, nI_eq, nI_add, nI_clamp, vp_in_nI, zup_s, zup_n, upd_s, upd_n, ne_eq, not_true_eq_false, not_false_eq_true]; done)
        | (intro hc; exfalso; simp (disch := first | omega | decide) only [zcn, zkpl, zki, zki1, zk8, zk16, zo32, zlt0, zle0, zeq0, zgt0, zLe0, nI_ltI, nI_leI, nI_eq, nI_add, nI_clamp, vp_in_nI, zup_s, zup_n, upd_s, upd_n, ne_eq, not_true_eq_false, not_false_eq_true] at hc <;> omega)
        | (intro hc; exact absurd rfl hc)
        | intro hc
        | apply And.intro
        | exact Or.inl rfl
        | exact Or.inr rfl
        | (show (_ : Int32) = 0 ∨ _ = 1; simp (disch := first | omega | decide) only [zcn, zkpl, zki, zki1, zk8, zk16, zo32, zlt0, zle0, zeq0, zgt0, zLe0, nI_ltI, nI_leI, nI_eq, nI_add, nI_clamp, vp_in_nI, zup_s, zup_n, upd_s, upd_n, ne_eq, not_true_eq_false, not_false_eq_true, zeq1, true_or, or_true]; done))
    have f29 : ZW 10 (0, 0, 0, 0) 29 [(2, .int (nI t)), (0, .ref 17), (1, .ref 11)] [.int (nI t), .int (nI t)] (SH, m) Q := by
      refine zgo 10 [] ?_
      repeat' (first
        | (exact hkd.use f61)
        | (show vp_in _ _; simp (disch := first | omega | decide) only [zcn, zkpl, zki, zki1, zk8, zk16, zo32, zlt0, zle0, zeq0, zgt0, zLe0, nI_ltI, nI_leI, nI_eq, nI_add, nI_clamp, vp_in_nI, zup_s, zup_n, upd_s, upd_n, ne_eq, not_true_eq_false, not_false_eq_true]; done)
        | (intro hc; exfalso; simp (disch := first | omega | decide) only [zcn, zkpl, zki, zki1, zk8, zk16, zo32, zlt0, zle0, zeq0, zgt0, zLe0, nI_ltI, nI_leI, nI_eq, nI_add, nI_clamp, vp_in_nI, zup_s, zup_n, upd_s, upd_n, ne_eq, not_true_eq_false, not_false_eq_true] at hc <;> omega)
        | (intro hc; exact absurd rfl hc)
        | intro hc
        | apply And.intro
        | exact Or.inl rfl
        | exact Or.inr rfl
        | (show (_ : Int32) = 0 ∨ _ = 1; simp (disch := first | omega | decide) only [zcn, zkpl, zki, zki1, zk8, zk16, zo32, zlt0, zle0, zeq0, zgt0, zLe0, nI_ltI, nI_leI, nI_eq, nI_add, nI_clamp, vp_in_nI, zup_s, zup_n, upd_s, upd_n, ne_eq, not_true_eq_false, not_false_eq_true, zeq1, true_or, or_true]; done))
    refine zgo 5 [] ?_
    repeat' (first
      | (exact hsz.use f29)
      | (show vp_in _ _; simp (disch := first | omega | decide) only [zcn, zkpl, zki, zki1, zk8, zk16, zo32, zlt0, zle0, zeq0, zgt0, zLe0, nI_ltI, nI_leI, nI_eq, nI_add, nI_clamp, vp_in_nI, zup_s, zup_n, upd_s, upd_n, ne_eq, not_true_eq_false, not_false_eq_true]; done)
      | (intro hc; exfalso; simp (disch := first | omega | decide) only [zcn, zkpl, zki, zki1, zk8, zk16, zo32, zlt0, zle0, zeq0, zgt0, zLe0, nI_ltI, nI_leI, nI_eq, nI_add, nI_clamp, vp_in_nI, zup_s, zup_n, upd_s, upd_n, ne_eq, not_true_eq_false, not_false_eq_true] at hc <;> omega)
      | (intro hc; exact absurd rfl hc)
      | intro hc
      | apply And.intro
      | exact Or.inl rfl
      | exact Or.inr rfl
      | (show (_ : Int32) = 0 ∨ _ = 1; simp (disch := first | omega | decide) only [zcn, zkpl, zki, zki1, zk8, zk16, zo32, zlt0, zle0, zeq0, zgt0, zLe0, nI_ltI, nI_leI, nI_eq, nI_add, nI_clamp, vp_in_nI, zup_s, zup_n, upd_s, upd_n, ne_eq, not_true_eq_false, not_false_eq_true, zeq1, true_or, or_true]; done))
  | succ k ih =>
    intro t m c ht h hc' h11 h13 hQ
    have e3 : nI t + Int32.ofInt 1 = nI (t + 1) := by rw [zki, nI_add]
    have hsz := ev_msz (m := m)
    rw [h11, hM.1.2] at hsz
    rw [ptx, List.length_append, List.length_append] at hc'
    have l4 : ([60, 47, 84, 62] : List Nat).length = 4 := rfl
    rw [l4] at hc'
    rw [ptx, List.append_assoc, ← cA_app, List.append_assoc, ← cA_app] at hQ
    rw [l4] at hQ
    have s1 := ev_ar1 (p := 4 + 5 * t) (c := c) (m := m) (by omega) (X := XT nm vl pl dg t) (V := fun i => m0 13 (4 + 5 * t + i)) (vt_T ho hM (by omega)) h (by omega) (fun i _ _ => by rw [h13])
    have h1 := cA_cnt h (rtx 1 (XT nm vl pl dg t) 5 0)
    have s2 := ev_tE (l := 84) h1 (by omega)
    have h2 := cA_cnt h1 [60, 47, 84, 62]
    rw [l4] at h2
    have W := ih (t + 1) _ _ (by omega) h2 (by omega) (by rw [cA_far (by decide) (by decide), cA_far (by decide) (by decide)]; exact h11) (by rw [cA_far (by decide) (by decide), cA_far (by decide) (by decide)]; exact h13) hQ
    rw [← e3] at W
    have f50 : ZW 10 (0, 0, 0, 0) 50 [(2, .int (nI t)), (0, .ref 17), (1, .ref 11)] [] (SH, cA (cA m c (rtx 1 (XT nm vl pl dg t) 5 0)) (c + (rtx 1 (XT nm vl pl dg t) 5 0).length) [60, 47, 84, 62]) Q := by
      refine zgo 5 [] ?_
      exact W
    have f44 : ZW 10 (0, 0, 0, 0) 44 [(2, .int (nI t)), (0, .ref 17), (1, .ref 11)] [] (SH, cA m c (rtx 1 (XT nm vl pl dg t) 5 0)) Q := by
      rw [show nI 84 = (Int8.ofInt 84).toInt32 by decide] at s2
      refine zgo 5 [] ?_
      repeat' (first
        | (exact s2.use f50)
        | (show vp_in _ _; simp (disch := first | omega | decide) only [zcn, zkpl, zki, zki1, zk8, zk16, zo32, zlt0, zle0, zeq0, zgt0, zLe0, nI_ltI, nI_leI, nI_eq, nI_add, nI_clamp, vp_in_nI, zup_s, zup_n, upd_s, upd_n, ne_eq, not_true_eq_false, not_false_eq_true]; done)
        | (intro hc; exfalso; simp (disch := first | omega | decide) only [zcn, zkpl, zki, zki1, zk8, zk16, zo32, zlt0, zle0, zeq0, zgt0, zLe0, nI_ltI, nI_leI, nI_eq, nI_add, nI_clamp, vp_in_nI, zup_s, zup_n, upd_s, upd_n, ne_eq, not_true_eq_false, not_false_eq_true] at hc <;> omega)
        | (intro hc; exact absurd rfl hc)
        | intro hc
        | apply And.intro
        | exact Or.inl rfl
        | exact Or.inr rfl
        | (show (_ : Int32) = 0 ∨ _ = 1; simp (disch := first | omega | decide) only [zcn, zkpl, zki, zki1, zk8, zk16, zo32, zlt0, zle0, zeq0, zgt0, zLe0, nI_ltI, nI_leI, nI_eq, nI_add, nI_clamp, vp_in_nI, zup_s, zup_n, upd_s, upd_n, ne_eq, not_true_eq_false, not_false_eq_true, zeq1, true_or, or_true]; done))
    have f39 : ZW 10 (0, 0, 0, 0) 39 [(2, .int (nI t)), (0, .ref 17), (1, .ref 11)] [.int (nI (4 + 5 * t)), .ref 11, .ref 17] (SH, m) Q := by
      refine zgo 5 [] ?_
      repeat' (first
        | (exact s1.use f44)
        | (show vp_in _ _; simp (disch := first | omega | decide) only [zcn, zkpl, zki, zki1, zk8, zk16, zo32, zlt0, zle0, zeq0, zgt0, zLe0, nI_ltI, nI_leI, nI_eq, nI_add, nI_clamp, vp_in_nI, zup_s, zup_n, upd_s, upd_n, ne_eq, not_true_eq_false, not_false_eq_true]; done)
        | (intro hc; exfalso; simp (disch := first | omega | decide) only [zcn, zkpl, zki, zki1, zk8, zk16, zo32, zlt0, zle0, zeq0, zgt0, zLe0, nI_ltI, nI_leI, nI_eq, nI_add, nI_clamp, vp_in_nI, zup_s, zup_n, upd_s, upd_n, ne_eq, not_true_eq_false, not_false_eq_true] at hc <;> omega)
        | (intro hc; exact absurd rfl hc)
        | intro hc
        | apply And.intro
        | exact Or.inl rfl
        | exact Or.inr rfl
        | (show (_ : Int32) = 0 ∨ _ = 1; simp (disch := first | omega | decide) only [zcn, zkpl, zki, zki1, zk8, zk16, zo32, zlt0, zle0, zeq0, zgt0, zLe0, nI_ltI, nI_leI, nI_eq, nI_add, nI_clamp, vp_in_nI, zup_s, zup_n, upd_s, upd_n, ne_eq, not_true_eq_false, not_false_eq_true, zeq1, true_or, or_true]; done))
    have f29 : ZW 10 (0, 0, 0, 0) 29 [(2, .int (nI t)), (0, .ref 17), (1, .ref 11)] [.int (nI n), .int (nI t)] (SH, m) Q := by
      refine zgo 10 [] ?_
      repeat' (first
        | (exact (ev_plc t).use f39)
        | (show vp_in _ _; simp (disch := first | omega | decide) only [zcn, zkpl, zki, zki1, zk8, zk16, zo32, zlt0, zle0, zeq0, zgt0, zLe0, nI_ltI, nI_leI, nI_eq, nI_add, nI_clamp, vp_in_nI, zup_s, zup_n, upd_s, upd_n, ne_eq, not_true_eq_false, not_false_eq_true]; done)
        | (intro hc; exfalso; simp (disch := first | omega | decide) only [zcn, zkpl, zki, zki1, zk8, zk16, zo32, zlt0, zle0, zeq0, zgt0, zLe0, nI_ltI, nI_leI, nI_eq, nI_add, nI_clamp, vp_in_nI, zup_s, zup_n, upd_s, upd_n, ne_eq, not_true_eq_false, not_false_eq_true] at hc <;> omega)
        | (intro hc; exact absurd rfl hc)
        | intro hc
        | apply And.intro
        | exact Or.inl rfl
        | exact Or.inr rfl
        | (show (_ : Int32) = 0 ∨ _ = 1; simp (disch := first | omega | decide) only [zcn, zkpl, zki, zki1, zk8, zk16, zo32, zlt0, zle0, zeq0, zgt0, zLe0, nI_ltI, nI_leI, nI_eq, nI_add, nI_clamp, vp_in_nI, zup_s, zup_n, upd_s, upd_n, ne_eq, not_true_eq_false, not_false_eq_true, zeq1, true_or, or_true]; done))
    refine zgo 5 [] ?_
    repeat' (first
      | (exact hsz.use f29)
      | (show vp_in _ _; simp (disch := first | omega | decide) only [zcn, zkpl, zki, zki1, zk8, zk16, zo32, zlt0, zle0, zeq0, zgt0, zLe0, nI_ltI, nI_leI, nI_eq, nI_add, nI_clamp, vp_in_nI, zup_s, zup_n, upd_s, upd_n, ne_eq, not_true_eq_false, not_false_eq_true]; done)
      | (intro hc; exfalso; simp (disch := first | omega | decide) only [zcn, zkpl, zki, zki1, zk8, zk16, zo32, zlt0, zle0, zeq0, zgt0, zLe0, nI_ltI, nI_leI, nI_eq, nI_add, nI_clamp, vp_in_nI, zup_s, zup_n, upd_s, upd_n, ne_eq, not_true_eq_false, not_false_eq_true] at hc <;> omega)
      | (intro hc; exact absurd rfl hc)
      | intro hc
      | apply And.intro
      | exact Or.inl rfl
      | exact Or.inr rfl
      | (show (_ : Int32) = 0 ∨ _ = 1; simp (disch := first | omega | decide) only [zcn, zkpl, zki, zki1, zk8, zk16, zo32, zlt0, zle0, zeq0, zgt0, zLe0, nI_ltI, nI_leI, nI_eq, nI_add, nI_clamp, vp_in_nI, zup_s, zup_n, upd_s, upd_n, ne_eq, not_true_eq_false, not_false_eq_true, zeq1, true_or, or_true]; done))
theorem ev_comp {m : zM} {K n : Nat} {nm : Nat → List Nat} {vl pl dg : Nat → Nat} (ho : okM K n nm vl pl dg) (hM : cM m K n nm vl pl dg) : Ev 10 [.ref 17, .ref 11] m none (cA (bg m) 2 (mtx K n nm vl pl dg)) := by
  intro Q hQ
  have hl1 := htx_len ho
  have hl2 := ptx_len (vl := vl) (pl := pl) (dg := dg) (fun t ht => (ho.2.2.2.2.2.2 t ht).1) n 0 (by omega)
  have hn : n ≤ 3 := by have := ho.1; omega
  have hK := ho.1
  have h0 : bg m 14 4 = nI 2 := rfl
  have b11 : bg m 11 = m 11 := bg_far (by decide) (by decide)
  have b13 : bg m 13 = m 13 := bg_far (by decide) (by decide)
  unfold mtx at hQ
  rw [← cA_app] at hQ
  have h1 := cA_cnt h0 (htx K nm vl)
  have W := cp_lp ho hM Q n 0 (cA (bg m) 2 (htx K nm vl)) _ (by omega) h1 (by omega) (by rw [cA_far (by decide) (by decide), b11]) (by rw [cA_far (by decide) (by decide), b13]) hQ
  obtain ⟨a, hrow, har⟩ : ∃ a, Ev 158 [.int (nI K)] (bg m) (some (.ref a)) (bg m) ∧ Ev 11 [.ref 17, .ref 11, .int (nI 0), .ref a] (bg m) none (cA (bg m) 2 (htx K nm vl)) := by
    obtain ⟨o1, o2, o3, o4, o5, o6, o7⟩ := ho
    obtain ⟨c1, c2, c3, c4, c5, c6⟩ := hM
    rcases hK with ⟨rfl, _⟩ | ⟨rfl, _⟩ | ⟨rfl, _⟩
    · have e : htx 80 nm vl = rtx 0 (XP nm vl) 4 0 := rfl
      rw [e] at hl1 ⊢
      refine ⟨1000010, ev_rowOf (by decide) (Or.inl ⟨rfl, rfl⟩), ev_ar0 (p := 0) (by decide) (V := fun i => m 13 i) (fun i g1 g2 => ?_) h0 (by omega) (fun i _ _ => by rw [b13, Nat.zero_add])⟩
      rcases (show i = 1 ∨ i = 2 ∨ i = 3 by omega) with rfl | rfl | rfl
      · show vtx 73 (m 13 1) (nm 1)
        rw [c2]
        exact vtx_I (Or.inl rfl) o2
      · show vtx 78 (m 13 2) (nda (vl 2) 5)
        rw [c3 rfl]
        exact vtx_N (o4 rfl).1
      · show vtx 83 (m 13 3) (amT (vl 3))
        rw [c5]
        exact vtx_A (Or.inl rfl) (o4 rfl).2.2
    · have e : htx 81 nm vl = rtx 2 (XQ nm vl) 4 0 := rfl
      rw [e] at hl1 ⊢
      refine ⟨1000012, ev_rowOf (by decide) (Or.inr (Or.inl ⟨rfl, rfl⟩)), ev_ar2 (p := 0) (by decide) (V := fun i => m 13 i) (fun i g1 g2 => ?_) h0 (by omega) (fun i _ _ => by rw [b13, Nat.zero_add])⟩
      rcases (show i = 1 ∨ i = 2 ∨ i = 3 by omega) with rfl | rfl | rfl
      · show vtx 73 (m 13 1) (nm 1)
        rw [c2]
        exact vtx_I (Or.inl rfl) o2
      · show vtx 79 (m 13 2) (nm 2)
        rw [c4 (by decide)]
        exact vtx_I (Or.inr (Or.inr rfl)) (o3 (by decide))
      · show vtx 86 (m 13 3) [vl 3]
        rw [c5]
        exact vtx_V
    · have e : htx 82 nm vl = rtx 3 (XR nm vl) 4 0 := rfl
      rw [e] at hl1 ⊢
      refine ⟨1000013, ev_rowOf (by decide) (Or.inr (Or.inr (Or.inl ⟨rfl, rfl⟩))), ev_ar3 (p := 0) (by decide) (V := fun i => m 13 i) (fun i g1 g2 => ?_) h0 (by omega) (fun i _ _ => by rw [b13, Nat.zero_add])⟩
      rcases (show i = 1 ∨ i = 2 ∨ i = 3 by omega) with rfl | rfl | rfl
      · show vtx 73 (m 13 1) (nm 1)
        rw [c2]
        exact vtx_I (Or.inl rfl) o2
      · show vtx 79 (m 13 2) (nm 2)
        rw [c4 (by decide)]
        exact vtx_I (Or.inr (Or.inr rfl)) (o3 (by decide))
      · show vtx 65 (m 13 3) (amT (vl 3))
        rw [c5]
        exact vtx_A (Or.inr rfl) (o6 rfl).2
  have hkd : Ev 34 [.ref 11] (bg m) (some (.int (nI K))) (bg m) := by
    have : bg m 11 3 = nI K := by rw [b11]; exact hM.1.1
    intro Q hQ
    rw [← this] at hQ
    refine zgo 5 [] ?_
    repeat' (first
      | (show vp_in _ _; simp (disch := first | omega | decide) only [zcn, zkpl, zki, zki1, zk8, zk16, zo32, zlt0, zle0, zeq0, zgt0, zLe0, nI_ltI, nI_leI, nI_eq, nI_add, nI_clamp, vp_in_nI, zup_s, zup_n, upd_s, upd_n, ne_eq, not_true_eq_false, not_false_eq_true]; done)
      | (intro hc; exfalso; simp (disch := first | omega | decide) only [zcn, zkpl, zki, zki1, zk8, zk16, zo32, zlt0, zle0, zeq0, zgt0, zLe0, nI_ltI, nI_leI, nI_eq, nI_add, nI_clamp, vp_in_nI, zup_s, zup_n, upd_s, upd_n, ne_eq, not_true_eq_false, not_false_eq_true] at hc <;> omega)
      | (intro hc; exact absurd rfl hc)
      | intro hc
      | apply And.intro
      | exact hQ
      | (show Q _ (SH, _); simp (disch := first | omega | decide) only [zcn, zkpl, zki, zki1, zk8, zk16, zo32, zlt0, zle0, zeq0, zgt0, zLe0, nI_ltI, nI_leI, nI_eq, nI_add, nI_clamp, vp_in_nI, zup_s, zup_n, upd_s, upd_n, ne_eq, not_true_eq_false, not_false_eq_true]; exact hQ)
      | exact Or.inl rfl
      | exact Or.inr rfl
      | (show (_ : Int32) = 0 ∨ _ = 1; simp (disch := first | omega | decide) only [zcn, zkpl, zki, zki1, zk8, zk16, zo32, zlt0, zle0, zeq0, zgt0, zLe0, nI_ltI, nI_leI, nI_eq, nI_add, nI_clamp, vp_in_nI, zup_s, zup_n, upd_s, upd_n, ne_eq, not_true_eq_false, not_false_eq_true, zeq1, true_or, or_true]; done))
  have hbg := ev_begin (m := m) (nI 77)
  have f22 : ZW 10 (0, 0, 0, 0) 22 [(0, .ref 17), (1, .ref 11)] [] (SH, cA (bg m) 2 (htx K nm vl)) Q := by
    refine zgo 5 [] ?_
    exact W
  have f19 : ZW 10 (0, 0, 0, 0) 19 [(0, .ref 17), (1, .ref 11)] [.ref a, .int (nI 0), .ref 11, .ref 17] (SH, bg m) Q := by
    refine zgo 5 [] ?_
    repeat' (first
      | (exact har.use f22)
      | (show vp_in _ _; simp (disch := first | omega | decide) only [zcn, zkpl, zki, zki1, zk8, zk16, zo32, zlt0, zle0, zeq0, zgt0, zLe0, nI_ltI, nI_leI, nI_eq, nI_add, nI_clamp, vp_in_nI, zup_s, zup_n, upd_s, upd_n, ne_eq, not_true_eq_false, not_false_eq_true]; done)
      | (intro hc; exfalso; simp (disch := first | omega | decide) only [zcn, zkpl, zki, zki1, zk8, zk16, zo32, zlt0, zle0, zeq0, zgt0, zLe0, nI_ltI, nI_leI, nI_eq, nI_add, nI_clamp, vp_in_nI, zup_s, zup_n, upd_s, upd_n, ne_eq, not_true_eq_false, not_false_eq_true] at hc <;> omega)
      | (intro hc; exact absurd rfl hc)
      | intro hc
      | apply And.intro
      | exact Or.inl rfl
      | exact Or.inr rfl
      | (show (_ : Int32) = 0 ∨ _ = 1; simp (disch := first | omega | decide) only [zcn, zkpl, zki, zki1, zk8, zk16, zo32, zlt0, zle0, zeq0, zgt0, zLe0, nI_ltI, nI_leI, nI_eq, nI_add, nI_clamp, vp_in_nI, zup_s, zup_n, upd_s, upd_n, ne_eq, not_true_eq_false, not_false_eq_true, zeq1, true_or, or_true]; done))
  have f16 : ZW 10 (0, 0, 0, 0) 16 [(0, .ref 17), (1, .ref 11)] [.int (nI K), .int (nI 0), .ref 11, .ref 17] (SH, bg m) Q := by
    refine zgo 5 [] ?_
    repeat' (first
      | (exact hrow.use f19)
      | (show vp_in _ _; simp (disch := first | omega | decide) only [zcn, zkpl, zki, zki1, zk8, zk16, zo32, zlt0, zle0, zeq0, zgt0, zLe0, nI_ltI, nI_leI, nI_eq, nI_add, nI_clamp, vp_in_nI, zup_s, zup_n, upd_s, upd_n, ne_eq, not_true_eq_false, not_false_eq_true]; done)
      | (intro hc; exfalso; simp (disch := first | omega | decide) only [zcn, zkpl, zki, zki1, zk8, zk16, zo32, zlt0, zle0, zeq0, zgt0, zLe0, nI_ltI, nI_leI, nI_eq, nI_add, nI_clamp, vp_in_nI, zup_s, zup_n, upd_s, upd_n, ne_eq, not_true_eq_false, not_false_eq_true] at hc <;> omega)
      | (intro hc; exact absurd rfl hc)
      | intro hc
      | apply And.intro
      | exact Or.inl rfl
      | exact Or.inr rfl
      | (show (_ : Int32) = 0 ∨ _ = 1; simp (disch := first | omega | decide) only [zcn, zkpl, zki, zki1, zk8, zk16, zo32, zlt0, zle0, zeq0, zgt0, zLe0, nI_ltI, nI_leI, nI_eq, nI_add, nI_clamp, vp_in_nI, zup_s, zup_n, upd_s, upd_n, ne_eq, not_true_eq_false, not_false_eq_true, zeq1, true_or, or_true]; done))
  have f9 : ZW 10 (0, 0, 0, 0) 9 [(0, .ref 17), (1, .ref 11)] [] (SH, bg m) Q := by
    refine zgo 10 [] ?_
    repeat' (first
      | (exact hkd.use f16)
      | (show vp_in _ _; simp (disch := first | omega | decide) only [zcn, zkpl, zki, zki1, zk8, zk16, zo32, zlt0, zle0, zeq0, zgt0, zLe0, nI_ltI, nI_leI, nI_eq, nI_add, nI_clamp, vp_in_nI, zup_s, zup_n, upd_s, upd_n, ne_eq, not_true_eq_false, not_false_eq_true]; done)
      | (intro hc; exfalso; simp (disch := first | omega | decide) only [zcn, zkpl, zki, zki1, zk8, zk16, zo32, zlt0, zle0, zeq0, zgt0, zLe0, nI_ltI, nI_leI, nI_eq, nI_add, nI_clamp, vp_in_nI, zup_s, zup_n, upd_s, upd_n, ne_eq, not_true_eq_false, not_false_eq_true] at hc <;> omega)
      | (intro hc; exact absurd rfl hc)
      | intro hc
      | apply And.intro
      | exact Or.inl rfl
      | exact Or.inr rfl
      | (show (_ : Int32) = 0 ∨ _ = 1; simp (disch := first | omega | decide) only [zcn, zkpl, zki, zki1, zk8, zk16, zo32, zlt0, zle0, zeq0, zgt0, zLe0, nI_ltI, nI_leI, nI_eq, nI_add, nI_clamp, vp_in_nI, zup_s, zup_n, upd_s, upd_n, ne_eq, not_true_eq_false, not_false_eq_true, zeq1, true_or, or_true]; done))
  refine zgo 5 [] ?_
  repeat' (first
    | (exact hbg.use f9)
    | (show vp_in _ _; simp (disch := first | omega | decide) only [zcn, zkpl, zki, zki1, zk8, zk16, zo32, zlt0, zle0, zeq0, zgt0, zLe0, nI_ltI, nI_leI, nI_eq, nI_add, nI_clamp, vp_in_nI, zup_s, zup_n, upd_s, upd_n, ne_eq, not_true_eq_false, not_false_eq_true]; done)
    | (intro hc; exfalso; simp (disch := first | omega | decide) only [zcn, zkpl, zki, zki1, zk8, zk16, zo32, zlt0, zle0, zeq0, zgt0, zLe0, nI_ltI, nI_leI, nI_eq, nI_add, nI_clamp, vp_in_nI, zup_s, zup_n, upd_s, upd_n, ne_eq, not_true_eq_false, not_false_eq_true] at hc <;> omega)
    | (intro hc; exact absurd rfl hc)
    | intro hc
    | apply And.intro
    | exact Or.inl rfl
    | exact Or.inr rfl
    | (show (_ : Int32) = 0 ∨ _ = 1; simp (disch := first | omega | decide) only [zcn, zkpl, zki, zki1, zk8, zk16, zo32, zlt0, zle0, zeq0, zgt0, zLe0, nI_ltI, nI_leI, nI_eq, nI_add, nI_clamp, vp_in_nI, zup_s, zup_n, upd_s, upd_n, ne_eq, not_true_eq_false, not_false_eq_true, zeq1, true_or, or_true]; done))
