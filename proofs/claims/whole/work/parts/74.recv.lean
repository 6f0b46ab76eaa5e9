/-! transactions received, in the class -/
def crc (m : zM) (T q : Nat) (nm am db cr : Int32) : zM := zup (zup (zup (zup (zup (zup (zup (zup (zup m 29 T nm) 30 T am) 31 T db) 32 T cr) 34 T (nI 0)) 28 6 (nI (T + 1))) 33 T (nI 1)) 35 q (nI T)) 28 8 (nI (q + 1))
theorem ev_101 {m : zM} {T q : Nat} (nm am db cr : Int32) (hT : m 28 6 = nI T) (hT2 : T < 20) (hq : m 28 8 = nI q) (hq2 : q < 20) : Ev 101 [.ref 28, .int nm, .int am, .int db, .int cr] m none (crc m T q nm am db cr) := by
  intro Q hQ
  have hE := ev_enqueue (m := zup (zup (zup (zup (zup (zup m 29 T nm) 30 T am) 31 T db) 32 T cr) 34 T (nI 0)) 28 6 (nI (T + 1))) (n := T + 1) (t := T) (q := q) (by rw [zup_s, upd_s]) (by omega) (by omega) (by rw [zup_s, upd_n _ (by decide), zup_n _ (by decide), zup_n _ (by decide), zup_n _ (by decide), zup_n _ (by decide), zup_n _ (by decide)]; exact hq) hq2
  have f80 : ZW 101 (0, 0, 0, 0) 80 [(0, .ref 28), (1, .int nm), (2, .int am), (3, .int db), (4, .int cr)] [] (SH, crc m T q nm am db cr) Q := by
    refine zgo 2 [] ?_
    exact hQ
  have f70 : ZW 101 (0, 0, 0, 0) 70 [(0, .ref 28), (1, .int nm), (2, .int am), (3, .int db), (4, .int cr)] [] (SH, zup (zup (zup (zup (zup (zup m 29 T nm) 30 T am) 31 T db) 32 T cr) 34 T (nI 0)) 28 6 (nI (T + 1))) Q := by
    have e6 : zup (zup (zup (zup (zup (zup m 29 T nm) 30 T am) 31 T db) 32 T cr) 34 T (nI 0)) 28 6 (nI (T + 1)) 28 6 - Int32.ofInt 1 = nI T := by
      rw [zup_s, upd_s, zki, pk_sub (by omega), Nat.add_sub_cancel]
    have hE2 : Ev 106 [.ref 28, .int (zup (zup (zup (zup (zup (zup m 29 T nm) 30 T am) 31 T db) 32 T cr) 34 T (nI 0)) 28 6 (nI (T + 1)) 28 6 - Int32.ofInt 1)] (zup (zup (zup (zup (zup (zup m 29 T nm) 30 T am) 31 T db) 32 T cr) 34 T (nI 0)) 28 6 (nI (T + 1))) none (crc m T q nm am db cr) := by
      rw [e6]
      exact hE
    refine zgo 10 [] ?_
    repeat' (first
      | (exact hE2.use f80)
      | (show vp_in _ _; simp (disch := first | omega | decide) only [zcn, zkpl, zki, zki1, zk8, zk16, zo32, zlt0, zle0, zeq0, zgt0, zLe0, nI_ltI, nI_leI, nI_eq, nI_add, nI_clamp, vp_in_nI, zup_s, zup_n, upd_s, upd_n, ne_eq, not_true_eq_false, not_false_eq_true]; done)
      | (intro hc; exfalso; simp (disch := first | omega | decide) only [zcn, zkpl, zki, zki1, zk8, zk16, zo32, zlt0, zle0, zeq0, zgt0, zLe0, nI_ltI, nI_leI, nI_eq, nI_add, nI_clamp, vp_in_nI, zup_s, zup_n, upd_s, upd_n, ne_eq, not_true_eq_false, not_false_eq_true] at hc <;> omega)
      | (intro hc; exact absurd rfl hc)
      | intro hc
      | apply And.intro
      | exact Or.inl rfl
      | exact Or.inr rfl
      | (show (_ : Int32) = 0 ∨ _ = 1; simp (disch := first | omega | decide) only [zcn, zkpl, zki, zki1, zk8, zk16, zo32, zlt0, zle0, zeq0, zgt0, zLe0, nI_ltI, nI_leI, nI_eq, nI_add, nI_clamp, vp_in_nI, zup_s, zup_n, upd_s, upd_n, ne_eq, not_true_eq_false, not_false_eq_true, zeq1, true_or, or_true]; done))
  refine zgo 40 [] ?_
  repeat' (first
    | (exact zcg (by simp (disch := first | omega | decide) only [hT, zcn, zkpl, zki, zki1, zk8, zk16, zo32, zlt0, zle0, zeq0, zgt0, zLe0, nI_ltI, nI_leI, nI_eq, nI_add, nI_clamp, vp_in_nI, zup_s, zup_n, upd_s, upd_n, ne_eq, not_true_eq_false, not_false_eq_true]) f70)
    | (show vp_in _ _; simp (disch := first | omega | decide) only [hT, zcn, zkpl, zki, zki1, zk8, zk16, zo32, zlt0, zle0, zeq0, zgt0, zLe0, nI_ltI, nI_leI, nI_eq, nI_add, nI_clamp, vp_in_nI, zup_s, zup_n, upd_s, upd_n, ne_eq, not_true_eq_false, not_false_eq_true]; done)
    | (intro hc; exfalso; simp (disch := first | omega | decide) only [hT, zcn, zkpl, zki, zki1, zk8, zk16, zo32, zlt0, zle0, zeq0, zgt0, zLe0, nI_ltI, nI_leI, nI_eq, nI_add, nI_clamp, vp_in_nI, zup_s, zup_n, upd_s, upd_n, ne_eq, not_true_eq_false, not_false_eq_true] at hc <;> omega)
    | (intro hc; exact absurd rfl hc)
    | intro hc
    | apply And.intro
    | exact Or.inl rfl
    | exact Or.inr rfl
    | (show (_ : Int32) = 0 ∨ _ = 1; simp (disch := first | omega | decide) only [hT, zcn, zkpl, zki, zki1, zk8, zk16, zo32, zlt0, zle0, zeq0, zgt0, zLe0, nI_ltI, nI_leI, nI_eq, nI_add, nI_clamp, vp_in_nI, zup_s, zup_n, upd_s, upd_n, ne_eq, not_true_eq_false, not_false_eq_true, zeq1, true_or, or_true]; done))
def rcv (nm : Nat → List Nat) (vl pl : Nat → Nat) : Nat → Nat → zM → Nat → Nat → zM
  | 0, _, m, _, _ => m
  | k + 1, t, m, T, q => rcv nm vl pl k (t + 1) (crc m T q (nI (n8 (nm (5 + 5 * t)))) (nI (vl (8 + 5 * t))) (nI (pl (6 + 5 * t))) (nI (pl (7 + 5 * t)))) (T + 1) (q + 1)
theorem crc_far {m : zM} {T q a : Nat} {nm am db cr : Int32} (h : a < 28 ∨ 35 < a) : crc m T q nm am db cr a = m a := by
  unfold crc
  rw [zup_n _ (by omega), zup_n _ (by omega), zup_n _ (by omega), zup_n _ (by omega), zup_n _ (by omega), zup_n _ (by omega), zup_n _ (by omega), zup_n _ (by omega), zup_n _ (by omega)]
def rvL (t : Nat) (R : zLs) : Prop := R = [(2, .int (nI t)), (0, .ref 18), (1, .ref 11)] ∨ ∃ x y, R = [(2, .int (nI t)), (4, .int x), (3, .int y), (0, .ref 18), (1, .ref 11)]
theorem rv_loop {m0 : zM} {K n : Nat} {nm : Nat → List Nat} {vl pl dg : Nat → Nat} (ho : okM K n nm vl pl dg) (hM : cM m0 K n nm vl pl dg) (Q : zQ) : ∀ (k t : Nat) (m : zM) (T q : Nat) (R : zLs), t + k = n → m 11 = m0 11 → m 13 = m0 13 → m 28 6 = nI T → m 28 8 = nI q → T + k ≤ 20 → q ≤ T → rvL t R → Q none (SH, rcv nm vl pl k t m T q) → ZW 26 (0, 0, 0, 0) 2 R [] (SH, m) Q := by
  have hn : n ≤ 3 := by have := ho.1; omega
  intro k
  induction k with
  | zero =>
    intro t m T q R ht h11 h13 hT hq hT2 hqT hR hQ
    obtain rfl : t = n := by omega
    have hsz := ev_msz (m := m)
    rw [h11, hM.1.2] at hsz
    have hQ : Q none (SH, m) := hQ
    have f7 : ∀ R, rvL t R → ZW 26 (0, 0, 0, 0) 7 R [.int (nI t), .int (nI t)] (SH, m) Q := by
      intro R hR
      rcases hR with rfl | ⟨x, y, rfl⟩
      · refine zgo 5 [] ?_
        repeat' (first
          | (show vp_in _ _; simp (disch := first | omega | decide) only [zcn, zkpl, zki, zki1, zk8, zk16, zo32, zlt0, zle0, zeq0, zgt0, zLe0, nI_ltI, nI_leI, nI_eq, nI_add, nI_clamp, vp_in_nI, zup_s, zup_n, upd_s, upd_n, ne_eq, not_true_eq_false, not_false_eq_true]; done)
          | (intro hc; exfalso; simp (disch := first | omega | decide) only [zcn, zkpl, zki, zki1, zk8, zk16, zo32, zlt0, zle0, zeq0, zgt0, zLe0, nI_ltI, nI_leI, nI_eq, nI_add, nI_clamp, vp_in_nI, zup_s, zup_n, upd_s, upd_n, ne_eq, not_true_eq_false, not_false_eq_true] at hc <;> omega)
          | (intro hc; exact absurd rfl hc)
          | intro hc
          | apply And.intro
          | exact hQ
          | (show Q _ (SH, _); simp (disch := first | omega | decide) only [zcn, zkpl, zki, zki1, zk8, zk16, zo32, zlt0, zle0, zeq0, zgt0, zLe0, nI_ltI, nI_leI, nI_eq, nI_add, nI_clamp, vp_in_nI, zup_s, zup_n, upd_s, upd_n, ne_eq, not_true_eq_false, not_false_eq_true]; exact hQ)
          | exact Or.inl rfl
          | exact Or.inr rfl
          | (show (_ : Int32) = 0 ∨ _ = 1; simp (disch := first | omega | decide) only [zcn, zkpl, zki, zki1, zk8, zk16, zo32, zlt0, zle0, zeq0, zgt0, zLe0, nI_ltI, nI_leI, nI_eq, nI_add, nI_clamp, vp_in_nI, zup_s, zup_n, upd_s, upd_n, ne_eq, not_true_eq_false, not_false_eq_true, zeq1, true_or, or_true]; done))
      · refine zgo 5 [] ?_
        repeat' (first
          | (show vp_in _ _; simp (disch := first | omega | decide) only [zcn, zkpl, zki, zki1, zk8, zk16, zo32, zlt0, zle0, zeq0, zgt0, zLe0, nI_ltI, nI_leI, nI_eq, nI_add, nI_clamp, vp_in_nI, zup_s, zup_n, upd_s, upd_n, ne_eq, not_true_eq_false, not_false_eq_true]; done)
          | (intro hc; exfalso; simp (disch := first | omega | decide) only [zcn, zkpl, zki, zki1, zk8, zk16, zo32, zlt0, zle0, zeq0, zgt0, zLe0, nI_ltI, nI_leI, nI_eq, nI_add, nI_clamp, vp_in_nI, zup_s, zup_n, upd_s, upd_n, ne_eq, not_true_eq_false, not_false_eq_true] at hc <;> omega)
          | (intro hc; exact absurd rfl hc)
          | intro hc
          | apply And.intro
          | exact hQ
          | (show Q _ (SH, _); simp (disch := first | omega | decide) only [zcn, zkpl, zki, zki1, zk8, zk16, zo32, zlt0, zle0, zeq0, zgt0, zLe0, nI_ltI, nI_leI, nI_eq, nI_add, nI_clamp, vp_in_nI, zup_s, zup_n, upd_s, upd_n, ne_eq, not_true_eq_false, not_false_eq_true]; exact hQ)
          | exact Or.inl rfl
          | exact Or.inr rfl
          | (show (_ : Int32) = 0 ∨ _ = 1; simp (disch := first | omega | decide) only [zcn, zkpl, zki, zki1, zk8, zk16, zo32, zlt0, zle0, zeq0, zgt0, zLe0, nI_ltI, nI_leI, nI_eq, nI_add, nI_clamp, vp_in_nI, zup_s, zup_n, upd_s, upd_n, ne_eq, not_true_eq_false, not_false_eq_true, zeq1, true_or, or_true]; done))
    have f := f7 R hR
    rcases hR with rfl | ⟨x, y, rfl⟩
    · refine zgo 5 [] ?_
      repeat' (first
        | (exact hsz.use f)
        | (show vp_in _ _; simp (disch := first | omega | decide) only [zcn, zkpl, zki, zki1, zk8, zk16, zo32, zlt0, zle0, zeq0, zgt0, zLe0, nI_ltI, nI_leI, nI_eq, nI_add, nI_clamp, vp_in_nI, zup_s, zup_n, upd_s, upd_n, ne_eq, not_true_eq_false, not_false_eq_true]; done)
        | (intro hc; exfalso; simp (disch := first | omega | decide) only [zcn, zkpl, zki, zki1, zk8, zk16, zo32, zlt0, zle0, zeq0, zgt0, zLe0, nI_ltI, nI_leI, nI_eq, nI_add, nI_clamp, vp_in_nI, zup_s, zup_n, upd_s, upd_n, ne_eq, not_true_eq_false, not_false_eq_true] at hc <;> omega)
        | (intro hc; exact absurd rfl hc)
        | intro hc
        | apply And.intro
        | exact Or.inl rfl
        | exact Or.inr rfl
        | (show (_ : Int32) = 0 ∨ _ = 1; simp (disch := first | omega | decide) only [zcn, zkpl, zki, zki1, zk8, zk16, zo32, zlt0, zle0, zeq0, zgt0, zLe0, nI_ltI, nI_leI, nI_eq, nI_add, nI_clamp, vp_in_nI, zup_s, zup_n, upd_s, upd_n, ne_eq, not_true_eq_false, not_false_eq_true, zeq1, true_or, or_true]; done))
    · refine zgo 5 [] ?_
      repeat' (first
        | (exact hsz.use f)
        | (show vp_in _ _; simp (disch := first | omega | decide) only [zcn, zkpl, zki, zki1, zk8, zk16, zo32, zlt0, zle0, zeq0, zgt0, zLe0, nI_ltI, nI_leI, nI_eq, nI_add, nI_clamp, vp_in_nI, zup_s, zup_n, upd_s, upd_n, ne_eq, not_true_eq_false, not_false_eq_true]; done)
        | (intro hc; exfalso; simp (disch := first | omega | decide) only [zcn, zkpl, zki, zki1, zk8, zk16, zo32, zlt0, zle0, zeq0, zgt0, zLe0, nI_ltI, nI_leI, nI_eq, nI_add, nI_clamp, vp_in_nI, zup_s, zup_n, upd_s, upd_n, ne_eq, not_true_eq_false, not_false_eq_true] at hc <;> omega)
        | (intro hc; exact absurd rfl hc)
        | intro hc
        | apply And.intro
        | exact Or.inl rfl
        | exact Or.inr rfl
        | (show (_ : Int32) = 0 ∨ _ = 1; simp (disch := first | omega | decide) only [zcn, zkpl, zki, zki1, zk8, zk16, zo32, zlt0, zle0, zeq0, zgt0, zLe0, nI_ltI, nI_leI, nI_eq, nI_add, nI_clamp, vp_in_nI, zup_s, zup_n, upd_s, upd_n, ne_eq, not_true_eq_false, not_false_eq_true, zeq1, true_or, or_true]; done))
  | succ k ih =>
    intro t m T q R ht h11 h13 hT hq hT2 hqT hR hQ
    have htn : t < n := by omega
    have e3 : nI t + Int32.ofInt 1 = nI (t + 1) := by rw [zki, nI_add]
    obtain ⟨c1, c2, c3, c4⟩ := hM.2.2.2.2.2 t htn
    obtain ⟨o1, o2, o3, o4⟩ := ho.2.2.2.2.2.2 t htn
    have hsz := ev_msz (m := m)
    rw [h11, hM.1.2] at hsz
    have s44 := ev_o44 (m := m) (t := t) (by omega)
    have s45 := ev_o45 (m := m) (t := t) (by omega)
    have s46 := ev_o46 (m := m) (t := t) (by omega)
    have s47 := ev_o47 (m := m) (t := t) (by omega)
    rw [h13, c1] at s44
    rw [h13, c2] at s45
    rw [h13, c3] at s46
    rw [h13, c4] at s47
    have p1 := ev_lpo (m := m) o2.1 o2.2
    have p2 := ev_lpo (m := m) o3.1 o3.2
    have s101 := ev_101 (nI (n8 (nm (5 + 5 * t)))) (nI (vl (8 + 5 * t))) (nI (pl (6 + 5 * t))) (nI (pl (7 + 5 * t))) hT (by omega) hq (by omega)
    have hf11 := (crc_far (m := m) (T := T) (q := q) (nm := nI (n8 (nm (5 + 5 * t)))) (am := nI (vl (8 + 5 * t))) (db := nI (pl (6 + 5 * t))) (cr := nI (pl (7 + 5 * t))) (a := 11) (by omega)).trans h11
    have hf13 := (crc_far (m := m) (T := T) (q := q) (nm := nI (n8 (nm (5 + 5 * t)))) (am := nI (vl (8 + 5 * t))) (db := nI (pl (6 + 5 * t))) (cr := nI (pl (7 + 5 * t))) (a := 13) (by omega)).trans h13
    rw [rcv] at hQ
    have W := ih (t + 1) _ (T + 1) (q + 1) [(2, .int (nI (t + 1))), (4, .int (nI (pl (7 + 5 * t)))), (3, .int (nI (pl (6 + 5 * t)))), (0, .ref 18), (1, .ref 11)] (by omega) hf11 hf13 rfl rfl (by omega) (by omega) (Or.inr ⟨_, _, rfl⟩) hQ
    rw [← e3] at W
    generalize crc m T q (nI (n8 (nm (5 + 5 * t)))) (nI (vl (8 + 5 * t))) (nI (pl (6 + 5 * t))) (nI (pl (7 + 5 * t))) = m' at *
    have f49 : ZW 26 (0, 0, 0, 0) 49 [(4, .int (nI (pl (7 + 5 * t)))), (3, .int (nI (pl (6 + 5 * t)))), (2, .int (nI t)), (0, .ref 18), (1, .ref 11)] [] (SH, m') Q := by
      refine zgo 5 [] ?_
      exact W
    have f43 : ZW 26 (0, 0, 0, 0) 43 [(4, .int (nI (pl (7 + 5 * t)))), (3, .int (nI (pl (6 + 5 * t)))), (2, .int (nI t)), (0, .ref 18), (1, .ref 11)] [.int (nI (vl (8 + 5 * t))), .int (nI (n8 (nm (5 + 5 * t)))), .ref 28] (SH, m) Q := by
      refine zgo 5 [] ?_
      repeat' (first
        | (exact s101.use f49)
        | (show vp_in _ _; simp (disch := first | omega | decide) only [zcn, zkpl, zki, zki1, zk8, zk16, zo32, zlt0, zle0, zeq0, zgt0, zLe0, nI_ltI, nI_leI, nI_eq, nI_add, nI_clamp, vp_in_nI, zup_s, zup_n, upd_s, upd_n, ne_eq, not_true_eq_false, not_false_eq_true]; done)
        | (intro hc; exfalso; simp (disch := first | omega | decide) only [zcn, zkpl, zki, zki1, zk8, zk16, zo32, zlt0, zle0, zeq0, zgt0, zLe0, nI_ltI, nI_leI, nI_eq, nI_add, nI_clamp, vp_in_nI, zup_s, zup_n, upd_s, upd_n, ne_eq, not_true_eq_false, not_false_eq_true] at hc <;> omega)
        | (intro hc; exact absurd rfl hc)
        | intro hc
        | apply And.intro
        | exact Or.inl rfl
        | exact Or.inr rfl
        | (show (_ : Int32) = 0 ∨ _ = 1; simp (disch := first | omega | decide) only [zcn, zkpl, zki, zki1, zk8, zk16, zo32, zlt0, zle0, zeq0, zgt0, zLe0, nI_ltI, nI_leI, nI_eq, nI_add, nI_clamp, vp_in_nI, zup_s, zup_n, upd_s, upd_n, ne_eq, not_true_eq_false, not_false_eq_true, zeq1, true_or, or_true]; done))
    have f38 : ZW 26 (0, 0, 0, 0) 38 [(4, .int (nI (pl (7 + 5 * t)))), (3, .int (nI (pl (6 + 5 * t)))), (2, .int (nI t)), (0, .ref 18), (1, .ref 11)] [.int (nI (n8 (nm (5 + 5 * t)))), .ref 28] (SH, m) Q := by
      refine zgo 5 [] ?_
      repeat' (first
        | (exact s47.use f43)
        | (show vp_in _ _; simp (disch := first | omega | decide) only [zcn, zkpl, zki, zki1, zk8, zk16, zo32, zlt0, zle0, zeq0, zgt0, zLe0, nI_ltI, nI_leI, nI_eq, nI_add, nI_clamp, vp_in_nI, zup_s, zup_n, upd_s, upd_n, ne_eq, not_true_eq_false, not_false_eq_true]; done)
        | (intro hc; exfalso; simp (disch := first | omega | decide) only [zcn, zkpl, zki, zki1, zk8, zk16, zo32, zlt0, zle0, zeq0, zgt0, zLe0, nI_ltI, nI_leI, nI_eq, nI_add, nI_clamp, vp_in_nI, zup_s, zup_n, upd_s, upd_n, ne_eq, not_true_eq_false, not_false_eq_true] at hc <;> omega)
        | (intro hc; exact absurd rfl hc)
        | intro hc
        | apply And.intro
        | exact Or.inl rfl
        | exact Or.inr rfl
        | (show (_ : Int32) = 0 ∨ _ = 1; simp (disch := first | omega | decide) only [zcn, zkpl, zki, zki1, zk8, zk16, zo32, zlt0, zle0, zeq0, zgt0, zLe0, nI_ltI, nI_leI, nI_eq, nI_add, nI_clamp, vp_in_nI, zup_s, zup_n, upd_s, upd_n, ne_eq, not_true_eq_false, not_false_eq_true, zeq1, true_or, or_true]; done))
    have f29 : ZW 26 (0, 0, 0, 0) 29 [(4, .int (nI (pl (7 + 5 * t)))), (3, .int (nI (pl (6 + 5 * t)))), (2, .int (nI t)), (0, .ref 18), (1, .ref 11)] [] (SH, m) Q := by
      refine zgo 10 [] ?_
      repeat' (first
        | (exact s44.use f38)
        | (show vp_in _ _; simp (disch := first | omega | decide) only [zcn, zkpl, zki, zki1, zk8, zk16, zo32, zlt0, zle0, zeq0, zgt0, zLe0, nI_ltI, nI_leI, nI_eq, nI_add, nI_clamp, vp_in_nI, zup_s, zup_n, upd_s, upd_n, ne_eq, not_true_eq_false, not_false_eq_true]; done)
        | (intro hc; exfalso; simp (disch := first | omega | decide) only [zcn, zkpl, zki, zki1, zk8, zk16, zo32, zlt0, zle0, zeq0, zgt0, zLe0, nI_ltI, nI_leI, nI_eq, nI_add, nI_clamp, vp_in_nI, zup_s, zup_n, upd_s, upd_n, ne_eq, not_true_eq_false, not_false_eq_true] at hc <;> omega)
        | (intro hc; exact absurd rfl hc)
        | intro hc
        | apply And.intro
        | exact Or.inl rfl
        | exact Or.inr rfl
        | (show (_ : Int32) = 0 ∨ _ = 1; simp (disch := first | omega | decide) only [zcn, zkpl, zki, zki1, zk8, zk16, zo32, zlt0, zle0, zeq0, zgt0, zLe0, nI_ltI, nI_leI, nI_eq, nI_add, nI_clamp, vp_in_nI, zup_s, zup_n, upd_s, upd_n, ne_eq, not_true_eq_false, not_false_eq_true, zeq1, true_or, or_true]; done))
    have f18 : ∀ R, rvL t R → ZW 26 (0, 0, 0, 0) 18 R [.int (nI (pl (6 + 5 * t)))] (SH, m) Q := by
      intro R hR
      rcases hR with rfl | ⟨x, y, rfl⟩
      · have f27 : ZW 26 (0, 0, 0, 0) 27 [(3, .int (nI (pl (6 + 5 * t)))), (2, .int (nI t)), (0, .ref 18), (1, .ref 11)] [.int (nI (pl (7 + 5 * t)))] (SH, m) Q := by
          refine zgo 1 [] ?_
          exact f29
        have f24 : ZW 26 (0, 0, 0, 0) 24 [(3, .int (nI (pl (6 + 5 * t)))), (2, .int (nI t)), (0, .ref 18), (1, .ref 11)] [.int (nI (1000 + 100 * pl (7 + 5 * t) + dg (7 + 5 * t)))] (SH, m) Q := by
          refine zgo 5 [] ?_
          repeat' (first
            | (exact p2.use f27)
            | (show vp_in _ _; simp (disch := first | omega | decide) only [zcn, zkpl, zki, zki1, zk8, zk16, zo32, zlt0, zle0, zeq0, zgt0, zLe0, nI_ltI, nI_leI, nI_eq, nI_add, nI_clamp, vp_in_nI, zup_s, zup_n, upd_s, upd_n, ne_eq, not_true_eq_false, not_false_eq_true]; done)
            | (intro hc; exfalso; simp (disch := first | omega | decide) only [zcn, zkpl, zki, zki1, zk8, zk16, zo32, zlt0, zle0, zeq0, zgt0, zLe0, nI_ltI, nI_leI, nI_eq, nI_add, nI_clamp, vp_in_nI, zup_s, zup_n, upd_s, upd_n, ne_eq, not_true_eq_false, not_false_eq_true] at hc <;> omega)
            | (intro hc; exact absurd rfl hc)
            | intro hc
            | apply And.intro
            | exact Or.inl rfl
            | exact Or.inr rfl
            | (show (_ : Int32) = 0 ∨ _ = 1; simp (disch := first | omega | decide) only [zcn, zkpl, zki, zki1, zk8, zk16, zo32, zlt0, zle0, zeq0, zgt0, zLe0, nI_ltI, nI_leI, nI_eq, nI_add, nI_clamp, vp_in_nI, zup_s, zup_n, upd_s, upd_n, ne_eq, not_true_eq_false, not_false_eq_true, zeq1, true_or, or_true]; done))
        refine zgo 10 [] ?_
        repeat' (first
          | (exact s46.use f24)
          | (show vp_in _ _; simp (disch := first | omega | decide) only [zcn, zkpl, zki, zki1, zk8, zk16, zo32, zlt0, zle0, zeq0, zgt0, zLe0, nI_ltI, nI_leI, nI_eq, nI_add, nI_clamp, vp_in_nI, zup_s, zup_n, upd_s, upd_n, ne_eq, not_true_eq_false, not_false_eq_true]; done)
          | (intro hc; exfalso; simp (disch := first | omega | decide) only [zcn, zkpl, zki, zki1, zk8, zk16, zo32, zlt0, zle0, zeq0, zgt0, zLe0, nI_ltI, nI_leI, nI_eq, nI_add, nI_clamp, vp_in_nI, zup_s, zup_n, upd_s, upd_n, ne_eq, not_true_eq_false, not_false_eq_true] at hc <;> omega)
          | (intro hc; exact absurd rfl hc)
          | intro hc
          | apply And.intro
          | exact Or.inl rfl
          | exact Or.inr rfl
          | (show (_ : Int32) = 0 ∨ _ = 1; simp (disch := first | omega | decide) only [zcn, zkpl, zki, zki1, zk8, zk16, zo32, zlt0, zle0, zeq0, zgt0, zLe0, nI_ltI, nI_leI, nI_eq, nI_add, nI_clamp, vp_in_nI, zup_s, zup_n, upd_s, upd_n, ne_eq, not_true_eq_false, not_false_eq_true, zeq1, true_or, or_true]; done))
      · have f27 : ZW 26 (0, 0, 0, 0) 27 [(3, .int (nI (pl (6 + 5 * t)))), (2, .int (nI t)), (4, .int x), (0, .ref 18), (1, .ref 11)] [.int (nI (pl (7 + 5 * t)))] (SH, m) Q := by
          refine zgo 1 [] ?_
          exact f29
        have f24 : ZW 26 (0, 0, 0, 0) 24 [(3, .int (nI (pl (6 + 5 * t)))), (2, .int (nI t)), (4, .int x), (0, .ref 18), (1, .ref 11)] [.int (nI (1000 + 100 * pl (7 + 5 * t) + dg (7 + 5 * t)))] (SH, m) Q := by
          refine zgo 5 [] ?_
          repeat' (first
            | (exact p2.use f27)
            | (show vp_in _ _; simp (disch := first | omega | decide) only [zcn, zkpl, zki, zki1, zk8, zk16, zo32, zlt0, zle0, zeq0, zgt0, zLe0, nI_ltI, nI_leI, nI_eq, nI_add, nI_clamp, vp_in_nI, zup_s, zup_n, upd_s, upd_n, ne_eq, not_true_eq_false, not_false_eq_true]; done)
            | (intro hc; exfalso; simp (disch := first | omega | decide) only [zcn, zkpl, zki, zki1, zk8, zk16, zo32, zlt0, zle0, zeq0, zgt0, zLe0, nI_ltI, nI_leI, nI_eq, nI_add, nI_clamp, vp_in_nI, zup_s, zup_n, upd_s, upd_n, ne_eq, not_true_eq_false, not_false_eq_true] at hc <;> omega)
            | (intro hc; exact absurd rfl hc)
            | intro hc
            | apply And.intro
            | exact Or.inl rfl
            | exact Or.inr rfl
            | (show (_ : Int32) = 0 ∨ _ = 1; simp (disch := first | omega | decide) only [zcn, zkpl, zki, zki1, zk8, zk16, zo32, zlt0, zle0, zeq0, zgt0, zLe0, nI_ltI, nI_leI, nI_eq, nI_add, nI_clamp, vp_in_nI, zup_s, zup_n, upd_s, upd_n, ne_eq, not_true_eq_false, not_false_eq_true, zeq1, true_or, or_true]; done))
        refine zgo 10 [] ?_
        repeat' (first
          | (exact s46.use f24)
          | (show vp_in _ _; simp (disch := first | omega | decide) only [zcn, zkpl, zki, zki1, zk8, zk16, zo32, zlt0, zle0, zeq0, zgt0, zLe0, nI_ltI, nI_leI, nI_eq, nI_add, nI_clamp, vp_in_nI, zup_s, zup_n, upd_s, upd_n, ne_eq, not_true_eq_false, not_false_eq_true]; done)
          | (intro hc; exfalso; simp (disch := first | omega | decide) only [zcn, zkpl, zki, zki1, zk8, zk16, zo32, zlt0, zle0, zeq0, zgt0, zLe0, nI_ltI, nI_leI, nI_eq, nI_add, nI_clamp, vp_in_nI, zup_s, zup_n, upd_s, upd_n, ne_eq, not_true_eq_false, not_false_eq_true] at hc <;> omega)
          | (intro hc; exact absurd rfl hc)
          | intro hc
          | apply And.intro
          | exact Or.inl rfl
          | exact Or.inr rfl
          | (show (_ : Int32) = 0 ∨ _ = 1; simp (disch := first | omega | decide) only [zcn, zkpl, zki, zki1, zk8, zk16, zo32, zlt0, zle0, zeq0, zgt0, zLe0, nI_ltI, nI_leI, nI_eq, nI_add, nI_clamp, vp_in_nI, zup_s, zup_n, upd_s, upd_n, ne_eq, not_true_eq_false, not_false_eq_true, zeq1, true_or, or_true]; done))
    have f15 : ∀ R, rvL t R → ZW 26 (0, 0, 0, 0) 15 R [.int (nI (1000 + 100 * pl (6 + 5 * t) + dg (6 + 5 * t)))] (SH, m) Q := by
      intro R hR
      have f := f18 R hR
      rcases hR with rfl | ⟨x, y, rfl⟩
      · refine zgo 5 [] ?_
        repeat' (first
          | (exact p1.use f)
          | (show vp_in _ _; simp (disch := first | omega | decide) only [zcn, zkpl, zki, zki1, zk8, zk16, zo32, zlt0, zle0, zeq0, zgt0, zLe0, nI_ltI, nI_leI, nI_eq, nI_add, nI_clamp, vp_in_nI, zup_s, zup_n, upd_s, upd_n, ne_eq, not_true_eq_false, not_false_eq_true]; done)
          | (intro hc; exfalso; simp (disch := first | omega | decide) only [zcn, zkpl, zki, zki1, zk8, zk16, zo32, zlt0, zle0, zeq0, zgt0, zLe0, nI_ltI, nI_leI, nI_eq, nI_add, nI_clamp, vp_in_nI, zup_s, zup_n, upd_s, upd_n, ne_eq, not_true_eq_false, not_false_eq_true] at hc <;> omega)
          | (intro hc; exact absurd rfl hc)
          | intro hc
          | apply And.intro
          | exact Or.inl rfl
          | exact Or.inr rfl
          | (show (_ : Int32) = 0 ∨ _ = 1; simp (disch := first | omega | decide) only [zcn, zkpl, zki, zki1, zk8, zk16, zo32, zlt0, zle0, zeq0, zgt0, zLe0, nI_ltI, nI_leI, nI_eq, nI_add, nI_clamp, vp_in_nI, zup_s, zup_n, upd_s, upd_n, ne_eq, not_true_eq_false, not_false_eq_true, zeq1, true_or, or_true]; done))
      · refine zgo 5 [] ?_
        repeat' (first
          | (exact p1.use f)
          | (show vp_in _ _; simp (disch := first | omega | decide) only [zcn, zkpl, zki, zki1, zk8, zk16, zo32, zlt0, zle0, zeq0, zgt0, zLe0, nI_ltI, nI_leI, nI_eq, nI_add, nI_clamp, vp_in_nI, zup_s, zup_n, upd_s, upd_n, ne_eq, not_true_eq_false, not_false_eq_true]; done)
          | (intro hc; exfalso; simp (disch := first | omega | decide) only [zcn, zkpl, zki, zki1, zk8, zk16, zo32, zlt0, zle0, zeq0, zgt0, zLe0, nI_ltI, nI_leI, nI_eq, nI_add, nI_clamp, vp_in_nI, zup_s, zup_n, upd_s, upd_n, ne_eq, not_true_eq_false, not_false_eq_true] at hc <;> omega)
          | (intro hc; exact absurd rfl hc)
          | intro hc
          | apply And.intro
          | exact Or.inl rfl
          | exact Or.inr rfl
          | (show (_ : Int32) = 0 ∨ _ = 1; simp (disch := first | omega | decide) only [zcn, zkpl, zki, zki1, zk8, zk16, zo32, zlt0, zle0, zeq0, zgt0, zLe0, nI_ltI, nI_leI, nI_eq, nI_add, nI_clamp, vp_in_nI, zup_s, zup_n, upd_s, upd_n, ne_eq, not_true_eq_false, not_false_eq_true, zeq1, true_or, or_true]; done))
    have f7 : ∀ R, rvL t R → ZW 26 (0, 0, 0, 0) 7 R [.int (nI n), .int (nI t)] (SH, m) Q := by
      intro R hR
      have f := f15 R hR
      rcases hR with rfl | ⟨x, y, rfl⟩
      · refine zgo 10 [] ?_
        repeat' (first
          | (exact s45.use f)
          | (show vp_in _ _; simp (disch := first | omega | decide) only [zcn, zkpl, zki, zki1, zk8, zk16, zo32, zlt0, zle0, zeq0, zgt0, zLe0, nI_ltI, nI_leI, nI_eq, nI_add, nI_clamp, vp_in_nI, zup_s, zup_n, upd_s, upd_n, ne_eq, not_true_eq_false, not_false_eq_true]; done)
          | (intro hc; exfalso; simp (disch := first | omega | decide) only [zcn, zkpl, zki, zki1, zk8, zk16, zo32, zlt0, zle0, zeq0, zgt0, zLe0, nI_ltI, nI_leI, nI_eq, nI_add, nI_clamp, vp_in_nI, zup_s, zup_n, upd_s, upd_n, ne_eq, not_true_eq_false, not_false_eq_true] at hc <;> omega)
          | (intro hc; exact absurd rfl hc)
          | intro hc
          | apply And.intro
          | exact Or.inl rfl
          | exact Or.inr rfl
          | (show (_ : Int32) = 0 ∨ _ = 1; simp (disch := first | omega | decide) only [zcn, zkpl, zki, zki1, zk8, zk16, zo32, zlt0, zle0, zeq0, zgt0, zLe0, nI_ltI, nI_leI, nI_eq, nI_add, nI_clamp, vp_in_nI, zup_s, zup_n, upd_s, upd_n, ne_eq, not_true_eq_false, not_false_eq_true, zeq1, true_or, or_true]; done))
      · refine zgo 10 [] ?_
        repeat' (first
          | (exact s45.use f)
          | (show vp_in _ _; simp (disch := first | omega | decide) only [zcn, zkpl, zki, zki1, zk8, zk16, zo32, zlt0, zle0, zeq0, zgt0, zLe0, nI_ltI, nI_leI, nI_eq, nI_add, nI_clamp, vp_in_nI, zup_s, zup_n, upd_s, upd_n, ne_eq, not_true_eq_false, not_false_eq_true]; done)
          | (intro hc; exfalso; simp (disch := first | omega | decide) only [zcn, zkpl, zki, zki1, zk8, zk16, zo32, zlt0, zle0, zeq0, zgt0, zLe0, nI_ltI, nI_leI, nI_eq, nI_add, nI_clamp, vp_in_nI, zup_s, zup_n, upd_s, upd_n, ne_eq, not_true_eq_false, not_false_eq_true] at hc <;> omega)
          | (intro hc; exact absurd rfl hc)
          | intro hc
          | apply And.intro
          | exact Or.inl rfl
          | exact Or.inr rfl
          | (show (_ : Int32) = 0 ∨ _ = 1; simp (disch := first | omega | decide) only [zcn, zkpl, zki, zki1, zk8, zk16, zo32, zlt0, zle0, zeq0, zgt0, zLe0, nI_ltI, nI_leI, nI_eq, nI_add, nI_clamp, vp_in_nI, zup_s, zup_n, upd_s, upd_n, ne_eq, not_true_eq_false, not_false_eq_true, zeq1, true_or, or_true]; done))
    have f := f7 R hR
    rcases hR with rfl | ⟨x, y, rfl⟩
    · refine zgo 5 [] ?_
      repeat' (first
        | (exact hsz.use f)
        | (show vp_in _ _; simp (disch := first | omega | decide) only [zcn, zkpl, zki, zki1, zk8, zk16, zo32, zlt0, zle0, zeq0, zgt0, zLe0, nI_ltI, nI_leI, nI_eq, nI_add, nI_clamp, vp_in_nI, zup_s, zup_n, upd_s, upd_n, ne_eq, not_true_eq_false, not_false_eq_true]; done)
        | (intro hc; exfalso; simp (disch := first | omega | decide) only [zcn, zkpl, zki, zki1, zk8, zk16, zo32, zlt0, zle0, zeq0, zgt0, zLe0, nI_ltI, nI_leI, nI_eq, nI_add, nI_clamp, vp_in_nI, zup_s, zup_n, upd_s, upd_n, ne_eq, not_true_eq_false, not_false_eq_true] at hc <;> omega)
        | (intro hc; exact absurd rfl hc)
        | intro hc
        | apply And.intro
        | exact Or.inl rfl
        | exact Or.inr rfl
        | (show (_ : Int32) = 0 ∨ _ = 1; simp (disch := first | omega | decide) only [zcn, zkpl, zki, zki1, zk8, zk16, zo32, zlt0, zle0, zeq0, zgt0, zLe0, nI_ltI, nI_leI, nI_eq, nI_add, nI_clamp, vp_in_nI, zup_s, zup_n, upd_s, upd_n, ne_eq, not_true_eq_false, not_false_eq_true, zeq1, true_or, or_true]; done))
    · refine zgo 5 [] ?_
      repeat' (first
        | (exact hsz.use f)
        | (show vp_in _ _; simp (disch := first | omega | decide) only [zcn, zkpl, zki, zki1, zk8, zk16, zo32, zlt0, zle0, zeq0, zgt0, zLe0, nI_ltI, nI_leI, nI_eq, nI_add, nI_clamp, vp_in_nI, zup_s, zup_n, upd_s, upd_n, ne_eq, not_true_eq_false, not_false_eq_true]; done)
        | (intro hc; exfalso; simp (disch := first | omega | decide) only [zcn, zkpl, zki, zki1, zk8, zk16, zo32, zlt0, zle0, zeq0, zgt0, zLe0, nI_ltI, nI_leI, nI_eq, nI_add, nI_clamp, vp_in_nI, zup_s, zup_n, upd_s, upd_n, ne_eq, not_true_eq_false, not_false_eq_true] at hc <;> omega)
        | (intro hc; exact absurd rfl hc)
        | intro hc
        | apply And.intro
        | exact Or.inl rfl
        | exact Or.inr rfl
        | (show (_ : Int32) = 0 ∨ _ = 1; simp (disch := first | omega | decide) only [zcn, zkpl, zki, zki1, zk8, zk16, zo32, zlt0, zle0, zeq0, zgt0, zLe0, nI_ltI, nI_leI, nI_eq, nI_add, nI_clamp, vp_in_nI, zup_s, zup_n, upd_s, upd_n, ne_eq, not_true_eq_false, not_false_eq_true, zeq1, true_or, or_true]; done))
theorem ev_26 {m : zM} {K n T q : Nat} {nm : Nat → List Nat} {vl pl dg : Nat → Nat} (ho : okM K n nm vl pl dg) (hM : cM m K n nm vl pl dg) (hT : m 28 6 = nI T) (hq : m 28 8 = nI q) (hT2 : T + n ≤ 20) (hqT : q ≤ T) : Ev 26 [.ref 18, .ref 11] m none (rcv nm vl pl n 0 m T q) := by
  intro Q hQ
  have W := rv_loop ho hM Q n 0 m T q _ (by omega) rfl rfl hT hq hT2 hqT (Or.inl rfl) hQ
  refine zgo 5 [] ?_
  exact W
