/-! a row composed -/
def rtx (j : Nat) (X : Nat → List Nat) : Nat → Nat → List Nat
  | 0, _ => []
  | n + 1, i => ([60, rl j i, 62] ++ (if i = 0 then [] else X i ++ [60, 47, rl j i, 62])) ++ rtx j X n (i + 1)
def arL (i : Nat) (T R : zLs) : Prop := R = (4, .int (nI i)) :: T ∨ ∃ y, R = (4, .int (nI i)) :: (5, .int y) :: T
theorem cA_app (m : zM) (c : Nat) (xs ys : List Nat) : cA (cA m c xs) (c + xs.length) ys = cA m c (xs ++ ys) := (apd_app xs ys m c).symm
theorem cA_far {m : zM} {c a : Nat} {xs : List Nat} (h1 : a ≠ 16) (h2 : a ≠ 14) : cA m c xs a = m a := apd_far h1 h2 xs m c
theorem ar_loop0 {p : Nat} (hp : p + 4 ≤ 19) {X : Nat → List Nat} {V : Nat → Int32} (hX : ∀ i, 1 ≤ i → i < 4 → vtx (rl 0 i) (V i) (X i)) (Q : zQ) : ∀ (n i : Nat) (m : zM) (c : Nat) (R : zLs), i + n = 4 → m 14 4 = nI c → c + (rtx 0 X n i).length ≤ 240 → (∀ i, 1 ≤ i → i < 4 → m 13 (p + i) = V i) → arL i [(0, .ref 17), (1, .ref 11), (2, .int (nI p)), (3, .ref 1000010)] R → Q none (SH, cA m c (rtx 0 X n i)) → ZW 11 (0, 0, 0, 0) 3 R [] (SH, m) Q := by
  intro n
  have hln : (zSS.getD (1000010 - 1000010) []).length = 4 := rfl
  induction n with
  | zero =>
    intro i m c R hi _ _ _ hR hQ
    have hQ : Q none (SH, m) := hQ
    obtain rfl : i = 4 := by omega
    rcases hR with rfl | ⟨y, rfl⟩
    · refine zgo 10 [] ?_
      repeat' (first
        | (show vp_in _ _; simp (disch := first | omega | decide) only [hln, zcn, zkpl, zki, zki1, zk8, zk16, zo32, zlt0, zle0, zeq0, zgt0, zLe0, nI_ltI, nI_leI, nI_eq, nI_add, nI_clamp, vp_in_nI, zup_s, zup_n, upd_s, upd_n, ne_eq, not_true_eq_false, not_false_eq_true]; done)
        | (intro hc; exfalso; simp (disch := first | omega | decide) only [hln, zcn, zkpl, zki, zki1, zk8, zk16, zo32, zlt0, zle0, zeq0, zgt0, zLe0, nI_ltI, nI_leI, nI_eq, nI_add, nI_clamp, vp_in_nI, zup_s, zup_n, upd_s, upd_n, ne_eq, not_true_eq_false, not_false_eq_true] at hc <;> omega)
        | (intro hc; exact absurd rfl hc)
        | intro hc
        | apply And.intro
        | exact hQ
        | (show Q _ (SH, _); simp (disch := first | omega | decide) only [hln, zcn, zkpl, zki, zki1, zk8, zk16, zo32, zlt0, zle0, zeq0, zgt0, zLe0, nI_ltI, nI_leI, nI_eq, nI_add, nI_clamp, vp_in_nI, zup_s, zup_n, upd_s, upd_n, ne_eq, not_true_eq_false, not_false_eq_true]; exact hQ)
        | exact Or.inl rfl
        | exact Or.inr rfl
        | (show (_ : Int32) = 0 ∨ _ = 1; simp (disch := first | omega | decide) only [hln, zcn, zkpl, zki, zki1, zk8, zk16, zo32, zlt0, zle0, zeq0, zgt0, zLe0, nI_ltI, nI_leI, nI_eq, nI_add, nI_clamp, vp_in_nI, zup_s, zup_n, upd_s, upd_n, ne_eq, not_true_eq_false, not_false_eq_true, zeq1, true_or, or_true]; done))
    · refine zgo 10 [] ?_
      repeat' (first
        | (show vp_in _ _; simp (disch := first | omega | decide) only [hln, zcn, zkpl, zki, zki1, zk8, zk16, zo32, zlt0, zle0, zeq0, zgt0, zLe0, nI_ltI, nI_leI, nI_eq, nI_add, nI_clamp, vp_in_nI, zup_s, zup_n, upd_s, upd_n, ne_eq, not_true_eq_false, not_false_eq_true]; done)
        | (intro hc; exfalso; simp (disch := first | omega | decide) only [hln, zcn, zkpl, zki, zki1, zk8, zk16, zo32, zlt0, zle0, zeq0, zgt0, zLe0, nI_ltI, nI_leI, nI_eq, nI_add, nI_clamp, vp_in_nI, zup_s, zup_n, upd_s, upd_n, ne_eq, not_true_eq_false, not_false_eq_true] at hc <;> omega)
        | (intro hc; exact absurd rfl hc)
        | intro hc
        | apply And.intro
        | exact hQ
        | (show Q _ (SH, _); simp (disch := first | omega | decide) only [hln, zcn, zkpl, zki, zki1, zk8, zk16, zo32, zlt0, zle0, zeq0, zgt0, zLe0, nI_ltI, nI_leI, nI_eq, nI_add, nI_clamp, vp_in_nI, zup_s, zup_n, upd_s, upd_n, ne_eq, not_true_eq_false, not_false_eq_true]; exact hQ)
        | exact Or.inl rfl
        | exact Or.inr rfl
        | (show (_ : Int32) = 0 ∨ _ = 1; simp (disch := first | omega | decide) only [hln, zcn, zkpl, zki, zki1, zk8, zk16, zo32, zlt0, zle0, zeq0, zgt0, zLe0, nI_ltI, nI_leI, nI_eq, nI_add, nI_clamp, vp_in_nI, zup_s, zup_n, upd_s, upd_n, ne_eq, not_true_eq_false, not_false_eq_true, zeq1, true_or, or_true]; done))
  | succ n ih =>
    intro i m c R hi h hc' hV hR hQ
    have e3 : nI i + Int32.ofInt 1 = nI (i + 1) := by rw [zki, nI_add]
    have ec : zSc 1000010 (nI i).toNatClampNeg = nI (rl 0 i) := by
      rw [nI_clamp (by omega)]
      rfl
    rw [rtx, List.length_append, List.length_append] at hc'
    rw [rtx, ← cA_app, ← cA_app] at hQ
    have l3 : ([60, rl 0 i, 62] : List Nat).length = 3 := rfl
    rw [l3] at hc' hQ
    have s1 := ev_tB (l := rl 0 i) h (by omega)
    have h1 := cA_cnt h [60, rl 0 i, 62]
    rw [l3] at h1
    have f51 : ∀ m' c', m' 14 4 = nI c' → c' + (rtx 0 X n (i + 1)).length ≤ 240 → (∀ i, 1 ≤ i → i < 4 → m' 13 (p + i) = V i) → Q none (SH, cA m' c' (rtx 0 X n (i + 1))) → ZW 11 (0, 0, 0, 0) 51 [(5, .int (nI (rl 0 i))), (4, .int (nI i)), (0, .ref 17), (1, .ref 11), (2, .int (nI p)), (3, .ref 1000010)] [] (SH, m') Q := by
      intro m' c' g1 g2 g3 g4
      have W := ih (i + 1) m' c' ((4, .int (nI (i + 1))) :: (5, .int (nI (rl 0 i))) :: [(0, .ref 17), (1, .ref 11), (2, .int (nI p)), (3, .ref 1000010)]) (by omega) g1 g2 g3 (Or.inr ⟨_, rfl⟩) g4
      rw [← e3] at W
      refine zgo 5 [] ?_
      exact W
    have f26 : ZW 11 (0, 0, 0, 0) 26 [(5, .int (nI (rl 0 i))), (4, .int (nI i)), (0, .ref 17), (1, .ref 11), (2, .int (nI p)), (3, .ref 1000010)] [] (SH, cA m c [60, rl 0 i, 62]) Q := by
      by_cases e : i = 0
      · rw [if_pos e] at hc' hQ
        have W := f51 (cA m c [60, rl 0 i, 62]) (c + 3) h1 (by simp only [List.length_nil] at hc'; omega) (fun i g1 g2 => by rw [cA_far (by decide) (by decide)]; exact hV i g1 g2) (by
          have : cA (cA m c [60, rl 0 i, 62]) (c + 3) [] = cA m c [60, rl 0 i, 62] := rfl
          rw [this] at hQ
          exact hQ)
        refine zgo 2 [] ?_
        repeat' (first
          | (exact W)
          | (show vp_in _ _; simp (disch := first | omega | decide) only [zcn, zkpl, zki, zki1, zk8, zk16, zo32, zlt0, zle0, zeq0, zgt0, zLe0, nI_ltI, nI_leI, nI_eq, nI_add, nI_clamp, vp_in_nI, zup_s, zup_n, upd_s, upd_n, ne_eq, not_true_eq_false, not_false_eq_true]; done)
          | (intro hc; exfalso; simp (disch := first | omega | decide) only [zcn, zkpl, zki, zki1, zk8, zk16, zo32, zlt0, zle0, zeq0, zgt0, zLe0, nI_ltI, nI_leI, nI_eq, nI_add, nI_clamp, vp_in_nI, zup_s, zup_n, upd_s, upd_n, ne_eq, not_true_eq_false, not_false_eq_true] at hc <;> omega)
          | (intro hc; exact absurd rfl hc)
          | intro hc
          | apply And.intro
          | exact Or.inl rfl
          | exact Or.inr rfl
          | (show (_ : Int32) = 0 ∨ _ = 1; simp (disch := first | omega | decide) only [zcn, zkpl, zki, zki1, zk8, zk16, zo32, zlt0, zle0, zeq0, zgt0, zLe0, nI_ltI, nI_leI, nI_eq, nI_add, nI_clamp, vp_in_nI, zup_s, zup_n, upd_s, upd_n, ne_eq, not_true_eq_false, not_false_eq_true, zeq1, true_or, or_true]; done))
      · rw [if_neg e, List.length_append] at hc'
        rw [if_neg e, ← cA_app, List.length_append, List.length_append] at hQ
        have l4 : ([60, 47, rl 0 i, 62] : List Nat).length = 4 := rfl
        rw [l4] at hc'
        rw [l3, l4] at hQ
        obtain ⟨x1, x2⟩ := hX i (by omega) (by omega)
        have hv : Ev 37 [.ref 11, .int (nI p + nI i)] (cA m c [60, rl 0 i, 62]) (some (.int (V i))) (cA m c [60, rl 0 i, 62]) := by
          have := ev_vAt (m := cA m c [60, rl 0 i, 62]) (x := nI p + nI i) (p + i) (nI_add p i) (by omega)
          rw [cA_far (by decide) (by decide), hV i (by omega) (by omega)] at this
          exact this
        have s2 := x2 (cA m c [60, rl 0 i, 62]) (c + 3) h1 (by omega)
        have h2 := cA_cnt h1 (X i)
        have s3 := ev_tE (l := rl 0 i) h2 (by omega)
        have h3 := cA_cnt h2 [60, 47, rl 0 i, 62]
        rw [l4] at h3
        have W := f51 _ _ h3 (by omega) (fun i g1 g2 => by rw [cA_far (by decide) (by decide), cA_far (by decide) (by decide), cA_far (by decide) (by decide)]; exact hV i g1 g2) (by
          rw [show c + 3 + (X i).length + 4 = c + (3 + ((X i).length + 4)) by omega]
          exact hQ)
        have f45 : ZW 11 (0, 0, 0, 0) 45 [(5, .int (nI (rl 0 i))), (4, .int (nI i)), (0, .ref 17), (1, .ref 11), (2, .int (nI p)), (3, .ref 1000010)] [] (SH, cA (cA m c [60, rl 0 i, 62]) (c + 3) (X i)) Q := by
          refine zgo 5 [] ?_
          repeat' (first
            | (exact s3.use W)
            | (show vp_in _ _; simp (disch := first | omega | decide) only [zcn, zkpl, zki, zki1, zk8, zk16, zo32, zlt0, zle0, zeq0, zgt0, zLe0, nI_ltI, nI_leI, nI_eq, nI_add, nI_clamp, vp_in_nI, zup_s, zup_n, upd_s, upd_n, ne_eq, not_true_eq_false, not_false_eq_true]; done)
            | (intro hc; exfalso; simp (disch := first | omega | decide) only [zcn, zkpl, zki, zki1, zk8, zk16, zo32, zlt0, zle0, zeq0, zgt0, zLe0, nI_ltI, nI_leI, nI_eq, nI_add, nI_clamp, vp_in_nI, zup_s, zup_n, upd_s, upd_n, ne_eq, not_true_eq_false, not_false_eq_true] at hc <;> omega)
            | (intro hc; exact absurd rfl hc)
            | intro hc
            | apply And.intro
            | exact Or.inl rfl
            | exact Or.inr rfl
            | (show (_ : Int32) = 0 ∨ _ = 1; simp (disch := first | omega | decide) only [zcn, zkpl, zki, zki1, zk8, zk16, zo32, zlt0, zle0, zeq0, zgt0, zLe0, nI_ltI, nI_leI, nI_eq, nI_add, nI_clamp, vp_in_nI, zup_s, zup_n, upd_s, upd_n, ne_eq, not_true_eq_false, not_false_eq_true, zeq1, true_or, or_true]; done))
        have f42 : ZW 11 (0, 0, 0, 0) 42 [(5, .int (nI (rl 0 i))), (4, .int (nI i)), (0, .ref 17), (1, .ref 11), (2, .int (nI p)), (3, .ref 1000010)] [.int (V i), .int (nI (rl 0 i)), .ref 17] (SH, cA m c [60, rl 0 i, 62]) Q := by
          refine zgo 5 [] ?_
          repeat' (first
            | (exact s2.use f45)
            | (show vp_in _ _; simp (disch := first | omega | decide) only [zcn, zkpl, zki, zki1, zk8, zk16, zo32, zlt0, zle0, zeq0, zgt0, zLe0, nI_ltI, nI_leI, nI_eq, nI_add, nI_clamp, vp_in_nI, zup_s, zup_n, upd_s, upd_n, ne_eq, not_true_eq_false, not_false_eq_true]; done)
            | (intro hc; exfalso; simp (disch := first | omega | decide) only [zcn, zkpl, zki, zki1, zk8, zk16, zo32, zlt0, zle0, zeq0, zgt0, zLe0, nI_ltI, nI_leI, nI_eq, nI_add, nI_clamp, vp_in_nI, zup_s, zup_n, upd_s, upd_n, ne_eq, not_true_eq_false, not_false_eq_true] at hc <;> omega)
            | (intro hc; exact absurd rfl hc)
            | intro hc
            | apply And.intro
            | exact Or.inl rfl
            | exact Or.inr rfl
            | (show (_ : Int32) = 0 ∨ _ = 1; simp (disch := first | omega | decide) only [zcn, zkpl, zki, zki1, zk8, zk16, zo32, zlt0, zle0, zeq0, zgt0, zLe0, nI_ltI, nI_leI, nI_eq, nI_add, nI_clamp, vp_in_nI, zup_s, zup_n, upd_s, upd_n, ne_eq, not_true_eq_false, not_false_eq_true, zeq1, true_or, or_true]; done))
        refine zgo 20 [] ?_
        repeat' (first
          | (exact hv.use f42)
          | (show vp_in _ _; simp (disch := first | omega | decide) only [zcn, zkpl, zki, zki1, zk8, zk16, zo32, zlt0, zle0, zeq0, zgt0, zLe0, nI_ltI, nI_leI, nI_eq, nI_add, nI_clamp, vp_in_nI, zup_s, zup_n, upd_s, upd_n, ne_eq, not_true_eq_false, not_false_eq_true]; done)
          | (intro hc; exfalso; simp (disch := first | omega | decide) only [zcn, zkpl, zki, zki1, zk8, zk16, zo32, zlt0, zle0, zeq0, zgt0, zLe0, nI_ltI, nI_leI, nI_eq, nI_add, nI_clamp, vp_in_nI, zup_s, zup_n, upd_s, upd_n, ne_eq, not_true_eq_false, not_false_eq_true] at hc <;> omega)
          | (intro hc; exact absurd rfl hc)
          | intro hc
          | apply And.intro
          | exact Or.inl rfl
          | exact Or.inr rfl
          | (show (_ : Int32) = 0 ∨ _ = 1; simp (disch := first | omega | decide) only [zcn, zkpl, zki, zki1, zk8, zk16, zo32, zlt0, zle0, zeq0, zgt0, zLe0, nI_ltI, nI_leI, nI_eq, nI_add, nI_clamp, vp_in_nI, zup_s, zup_n, upd_s, upd_n, ne_eq, not_true_eq_false, not_false_eq_true, zeq1, true_or, or_true]; done))
    have f20 : ZW 11 (0, 0, 0, 0) 20 [(5, .int (nI (rl 0 i))), (4, .int (nI i)), (0, .ref 17), (1, .ref 11), (2, .int (nI p)), (3, .ref 1000010)] [] (SH, m) Q := by
      refine zgo 5 [] ?_
      repeat' (first
        | (exact s1.use f26)
        | (show vp_in _ _; simp (disch := first | omega | decide) only [zcn, zkpl, zki, zki1, zk8, zk16, zo32, zlt0, zle0, zeq0, zgt0, zLe0, nI_ltI, nI_leI, nI_eq, nI_add, nI_clamp, vp_in_nI, zup_s, zup_n, upd_s, upd_n, ne_eq, not_true_eq_false, not_false_eq_true]; done)
        | (intro hc; exfalso; simp (disch := first | omega | decide) only [zcn, zkpl, zki, zki1, zk8, zk16, zo32, zlt0, zle0, zeq0, zgt0, zLe0, nI_ltI, nI_leI, nI_eq, nI_add, nI_clamp, vp_in_nI, zup_s, zup_n, upd_s, upd_n, ne_eq, not_true_eq_false, not_false_eq_true] at hc <;> omega)
        | (intro hc; exact absurd rfl hc)
        | intro hc
        | apply And.intro
        | exact Or.inl rfl
        | exact Or.inr rfl
        | (show (_ : Int32) = 0 ∨ _ = 1; simp (disch := first | omega | decide) only [zcn, zkpl, zki, zki1, zk8, zk16, zo32, zlt0, zle0, zeq0, zgt0, zLe0, nI_ltI, nI_leI, nI_eq, nI_add, nI_clamp, vp_in_nI, zup_s, zup_n, upd_s, upd_n, ne_eq, not_true_eq_false, not_false_eq_true, zeq1, true_or, or_true]; done))
    rw [← ec] at f20
    rcases hR with rfl | ⟨y, rfl⟩
    · refine zgo 8 [] ?_
      repeat' (first
        | (exact f20)
        | (show vp_in _ _; simp (disch := first | omega | decide) only [hln, zcn, zkpl, zki, zki1, zk8, zk16, zo32, zlt0, zle0, zeq0, zgt0, zLe0, nI_ltI, nI_leI, nI_eq, nI_add, nI_clamp, vp_in_nI, zup_s, zup_n, upd_s, upd_n, ne_eq, not_true_eq_false, not_false_eq_true]; done)
        | (intro hc; exfalso; simp (disch := first | omega | decide) only [hln, zcn, zkpl, zki, zki1, zk8, zk16, zo32, zlt0, zle0, zeq0, zgt0, zLe0, nI_ltI, nI_leI, nI_eq, nI_add, nI_clamp, vp_in_nI, zup_s, zup_n, upd_s, upd_n, ne_eq, not_true_eq_false, not_false_eq_true] at hc <;> omega)
        | (intro hc; exact absurd rfl hc)
        | intro hc
        | apply And.intro
        | exact Or.inl rfl
        | exact Or.inr rfl
        | (show (_ : Int32) = 0 ∨ _ = 1; simp (disch := first | omega | decide) only [hln, zcn, zkpl, zki, zki1, zk8, zk16, zo32, zlt0, zle0, zeq0, zgt0, zLe0, nI_ltI, nI_leI, nI_eq, nI_add, nI_clamp, vp_in_nI, zup_s, zup_n, upd_s, upd_n, ne_eq, not_true_eq_false, not_false_eq_true, zeq1, true_or, or_true]; done))
    · refine zgo 8 [] ?_
      repeat' (first
        | (exact f20)
        | (show vp_in _ _; simp (disch := first | omega | decide) only [hln, zcn, zkpl, zki, zki1, zk8, zk16, zo32, zlt0, zle0, zeq0, zgt0, zLe0, nI_ltI, nI_leI, nI_eq, nI_add, nI_clamp, vp_in_nI, zup_s, zup_n, upd_s, upd_n, ne_eq, not_true_eq_false, not_false_eq_true]; done)
        | (intro hc; exfalso; simp (disch := first | omega | decide) only [hln, zcn, zkpl, zki, zki1, zk8, zk16, zo32, zlt0, zle0, zeq0, zgt0, zLe0, nI_ltI, nI_leI, nI_eq, nI_add, nI_clamp, vp_in_nI, zup_s, zup_n, upd_s, upd_n, ne_eq, not_true_eq_false, not_false_eq_true] at hc <;> omega)
        | (intro hc; exact absurd rfl hc)
        | intro hc
        | apply And.intro
        | exact Or.inl rfl
        | exact Or.inr rfl
        | (show (_ : Int32) = 0 ∨ _ = 1; simp (disch := first | omega | decide) only [hln, zcn, zkpl, zki, zki1, zk8, zk16, zo32, zlt0, zle0, zeq0, zgt0, zLe0, nI_ltI, nI_leI, nI_eq, nI_add, nI_clamp, vp_in_nI, zup_s, zup_n, upd_s, upd_n, ne_eq, not_true_eq_false, not_false_eq_true, zeq1, true_or, or_true]; done))
theorem ev_ar0 {p c : Nat} {m : zM} (hp : p + 4 ≤ 19) {X : Nat → List Nat} {V : Nat → Int32} (hX : ∀ i, 1 ≤ i → i < 4 → vtx (rl 0 i) (V i) (X i)) (h : m 14 4 = nI c) (hc' : c + (rtx 0 X 4 0).length ≤ 240) (hV : ∀ i, 1 ≤ i → i < 4 → m 13 (p + i) = V i) : Ev 11 [.ref 17, .ref 11, .int (nI p), .ref 1000010] m none (cA m c (rtx 0 X 4 0)) := by
  intro Q hQ
  have W := ar_loop0 hp hX Q 4 0 m c _ (by omega) h hc' hV (Or.inl rfl) hQ
  refine zgo 5 [] ?_
  exact W
theorem ar_loop1 {p : Nat} (hp : p + 5 ≤ 19) {X : Nat → List Nat} {V : Nat → Int32} (hX : ∀ i, 1 ≤ i → i < 5 → vtx (rl 1 i) (V i) (X i)) (Q : zQ) : ∀ (n i : Nat) (m : zM) (c : Nat) (R : zLs), i + n = 5 → m 14 4 = nI c → c + (rtx 1 X n i).length ≤ 240 → (∀ i, 1 ≤ i → i < 5 → m 13 (p + i) = V i) → arL i [(0, .ref 17), (1, .ref 11), (2, .int (nI p)), (3, .ref 1000011)] R → Q none (SH, cA m c (rtx 1 X n i)) → ZW 11 (0, 0, 0, 0) 3 R [] (SH, m) Q := by
  intro n
  have hln : (zSS.getD (1000011 - 1000010) []).length = 5 := rfl
  induction n with
  | zero =>
    intro i m c R hi _ _ _ hR hQ
    have hQ : Q none (SH, m) := hQ
    obtain rfl : i = 5 := by omega
    rcases hR with rfl | ⟨y, rfl⟩
    · refine zgo 10 [] ?_
      repeat' (first
        | (show vp_in _ _; simp (disch := first | omega | decide) only [hln, zcn, zkpl, zki, zki1, zk8, zk16, zo32, zlt0, zle0, zeq0, zgt0, zLe0, nI_ltI, nI_leI, nI_eq, nI_add, nI_clamp, vp_in_nI, zup_s, zup_n, upd_s, upd_n, ne_eq, not_true_eq_false, not_false_eq_true]; done)
        | (intro hc; exfalso; simp (disch := first | omega | decide) only [hln, zcn, zkpl, zki, zki1, zk8, zk16, zo32, zlt0, zle0, zeq0, zgt0, zLe0, nI_ltI, nI_leI, nI_eq, nI_add, nI_clamp, vp_in_nI, zup_s, zup_n, upd_s, upd_n, ne_eq, not_true_eq_false, not_false_eq_true] at hc <;> omega)
        | (intro hc; exact absurd rfl hc)
        | intro hc
        | apply And.intro
        | exact hQ
        | (show Q _ (SH, _); simp (disch := first | omega | decide) only [hln, zcn, zkpl, zki, zki1, zk8, zk16, zo32, zlt0, zle0, zeq0, zgt0, zLe0, nI_ltI, nI_leI, nI_eq, nI_add, nI_clamp, vp_in_nI, zup_s, zup_n, upd_s, upd_n, ne_eq, not_true_eq_false, not_false_eq_true]; exact hQ)
        | exact Or.inl rfl
        | exact Or.inr rfl
        | (show (_ : Int32) = 0 ∨ _ = 1; simp (disch := first | omega | decide) only [hln, zcn, zkpl, zki, zki1, zk8, zk16, zo32, zlt0, zle0, zeq0, zgt0, zLe0, nI_ltI, nI_leI, nI_eq, nI_add, nI_clamp, vp_in_nI, zup_s, zup_n, upd_s, upd_n, ne_eq, not_true_eq_false, not_false_eq_true, zeq1, true_or, or_true]; done))
    · refine zgo 10 [] ?_
      repeat' (first
        | (show vp_in _ _; simp (disch := first | omega | decide) only [hln, zcn, zkpl, zki, zki1, zk8, zk16, zo32, zlt0, zle0, zeq0, zgt0, zLe0, nI_ltI, nI_leI, nI_eq, nI_add, nI_clamp, vp_in_nI, zup_s, zup_n, upd_s, upd_n, ne_eq, not_true_eq_false, not_false_eq_true]; done)
        | (intro hc; exfalso; simp (disch := first | omega | decide) only [hln, zcn, zkpl, zki, zki1, zk8, zk16, zo32, zlt0, zle0, zeq0, zgt0, zLe0, nI_ltI, nI_leI, nI_eq, nI_add, nI_clamp, vp_in_nI, zup_s, zup_n, upd_s, upd_n, ne_eq, not_true_eq_false, not_false_eq_true] at hc <;> omega)
        | (intro hc; exact absurd rfl hc)
        | intro hc
        | apply And.intro
        | exact hQ
        | (show Q _ (SH, _); simp (disch := first | omega | decide) only [hln, zcn, zkpl, zki, zki1, zk8, zk16, zo32, zlt0, zle0, zeq0, zgt0, zLe0, nI_ltI, nI_leI, nI_eq, nI_add, nI_clamp, vp_in_nI, zup_s, zup_n, upd_s, upd_n, ne_eq, not_true_eq_false, not_false_eq_true]; exact hQ)
        | exact Or.inl rfl
        | exact Or.inr rfl
        | (show (_ : Int32) = 0 ∨ _ = 1; simp (disch := first | omega | decide) only [hln, zcn, zkpl, zki, zki1, zk8, zk16, zo32, zlt0, zle0, zeq0, zgt0, zLe0, nI_ltI, nI_leI, nI_eq, nI_add, nI_clamp, vp_in_nI, zup_s, zup_n, upd_s, upd_n, ne_eq, not_true_eq_false, not_false_eq_true, zeq1, true_or, or_true]; done))
  | succ n ih =>
    intro i m c R hi h hc' hV hR hQ
    have e3 : nI i + Int32.ofInt 1 = nI (i + 1) := by rw [zki, nI_add]
    have ec : zSc 1000011 (nI i).toNatClampNeg = nI (rl 1 i) := by
      rw [nI_clamp (by omega)]
      rfl
    rw [rtx, List.length_append, List.length_append] at hc'
    rw [rtx, ← cA_app, ← cA_app] at hQ
    have l3 : ([60, rl 1 i, 62] : List Nat).length = 3 := rfl
    rw [l3] at hc' hQ
    have s1 := ev_tB (l := rl 1 i) h (by omega)
    have h1 := cA_cnt h [60, rl 1 i, 62]
    rw [l3] at h1
    have f51 : ∀ m' c', m' 14 4 = nI c' → c' + (rtx 1 X n (i + 1)).length ≤ 240 → (∀ i, 1 ≤ i → i < 5 → m' 13 (p + i) = V i) → Q none (SH, cA m' c' (rtx 1 X n (i + 1))) → ZW 11 (0, 0, 0, 0) 51 [(5, .int (nI (rl 1 i))), (4, .int (nI i)), (0, .ref 17), (1, .ref 11), (2, .int (nI p)), (3, .ref 1000011)] [] (SH, m') Q := by
      intro m' c' g1 g2 g3 g4
      have W := ih (i + 1) m' c' ((4, .int (nI (i + 1))) :: (5, .int (nI (rl 1 i))) :: [(0, .ref 17), (1, .ref 11), (2, .int (nI p)), (3, .ref 1000011)]) (by omega) g1 g2 g3 (Or.inr ⟨_, rfl⟩) g4
      rw [← e3] at W
      refine zgo 5 [] ?_
      exact W
    have f26 : ZW 11 (0, 0, 0, 0) 26 [(5, .int (nI (rl 1 i))), (4, .int (nI i)), (0, .ref 17), (1, .ref 11), (2, .int (nI p)), (3, .ref 1000011)] [] (SH, cA m c [60, rl 1 i, 62]) Q := by
      by_cases e : i = 0
      · rw [if_pos e] at hc' hQ
        have W := f51 (cA m c [60, rl 1 i, 62]) (c + 3) h1 (by simp only [List.length_nil] at hc'; omega) (fun i g1 g2 => by rw [cA_far (by decide) (by decide)]; exact hV i g1 g2) (by
          have : cA (cA m c [60, rl 1 i, 62]) (c + 3) [] = cA m c [60, rl 1 i, 62] := rfl
          rw [this] at hQ
          exact hQ)
        refine zgo 2 [] ?_
        repeat' (first
          | (exact W)
          | (show vp_in _ _; simp (disch := first | omega | decide) only [zcn, zkpl, zki, zki1, zk8, zk16, zo32, zlt0, zle0, zeq0, zgt0, zLe0, nI_ltI, nI_leI, nI_eq, nI_add, nI_clamp, vp_in_nI, zup_s, zup_n, upd_s, upd_n, ne_eq, not_true_eq_false, not_false_eq_true]; done)
          | (intro hc; exfalso; simp (disch := first | omega | decide) only [zcn, zkpl, zki, zki1, zk8, zk16, zo32, zlt0, zle0, zeq0, zgt0, zLe0, nI_ltI, nI_leI, nI_eq, nI_add, nI_clamp, vp_in_nI, zup_s, zup_n, upd_s, upd_n, ne_eq, not_true_eq_false, not_false_eq_true] at hc <;> omega)
          | (intro hc; exact absurd rfl hc)
          | intro hc
          | apply And.intro
          | exact Or.inl rfl
          | exact Or.inr rfl
          | (show (_ : Int32) = 0 ∨ _ = 1; simp (disch := first | omega | decide) only [zcn, zkpl, zki, zki1, zk8, zk16, zo32, zlt0, zle0, zeq0, zgt0, zLe0, nI_ltI, nI_leI, nI_eq, nI_add, nI_clamp, vp_in_nI, zup_s, zup_n, upd_s, upd_n, ne_eq, not_true_eq_false, not_false_eq_true, zeq1, true_or, or_true]; done))
      · rw [if_neg e, List.length_append] at hc'
        rw [if_neg e, ← cA_app, List.length_append, List.length_append] at hQ
        have l4 : ([60, 47, rl 1 i, 62] : List Nat).length = 4 := rfl
        rw [l4] at hc'
        rw [l3, l4] at hQ
        obtain ⟨x1, x2⟩ := hX i (by omega) (by omega)
        have hv : Ev 37 [.ref 11, .int (nI p + nI i)] (cA m c [60, rl 1 i, 62]) (some (.int (V i))) (cA m c [60, rl 1 i, 62]) := by
          have := ev_vAt (m := cA m c [60, rl 1 i, 62]) (x := nI p + nI i) (p + i) (nI_add p i) (by omega)
          rw [cA_far (by decide) (by decide), hV i (by omega) (by omega)] at this
          exact this
        have s2 := x2 (cA m c [60, rl 1 i, 62]) (c + 3) h1 (by omega)
        have h2 := cA_cnt h1 (X i)
        have s3 := ev_tE (l := rl 1 i) h2 (by omega)
        have h3 := cA_cnt h2 [60, 47, rl 1 i, 62]
        rw [l4] at h3
        have W := f51 _ _ h3 (by omega) (fun i g1 g2 => by rw [cA_far (by decide) (by decide), cA_far (by decide) (by decide), cA_far (by decide) (by decide)]; exact hV i g1 g2) (by
          rw [show c + 3 + (X i).length + 4 = c + (3 + ((X i).length + 4)) by omega]
          exact hQ)
        have f45 : ZW 11 (0, 0, 0, 0) 45 [(5, .int (nI (rl 1 i))), (4, .int (nI i)), (0, .ref 17), (1, .ref 11), (2, .int (nI p)), (3, .ref 1000011)] [] (SH, cA (cA m c [60, rl 1 i, 62]) (c + 3) (X i)) Q := by
          refine zgo 5 [] ?_
          repeat' (first
            | (exact s3.use W)
            | (show vp_in _ _; simp (disch := first | omega | decide) only [zcn, zkpl, zki, zki1, zk8, zk16, zo32, zlt0, zle0, zeq0, zgt0, zLe0, nI_ltI, nI_leI, nI_eq, nI_add, nI_clamp, vp_in_nI, zup_s, zup_n, upd_s, upd_n, ne_eq, not_true_eq_false, not_false_eq_true]; done)
            | (intro hc; exfalso; simp (disch := first | omega | decide) only [zcn, zkpl, zki, zki1, zk8, zk16, zo32, zlt0, zle0, zeq0, zgt0, zLe0, nI_ltI, nI_leI, nI_eq, nI_add, nI_clamp, vp_in_nI, zup_s, zup_n, upd_s, upd_n, ne_eq, not_true_eq_false, not_false_eq_true] at hc <;> omega)
            | (intro hc; exact absurd rfl hc)
            | intro hc
            | apply And.intro
            | exact Or.inl rfl
            | exact Or.inr rfl
            | (show (_ : Int32) = 0 ∨ _ = 1; simp (disch := first | omega | decide) only [zcn, zkpl, zki, zki1, zk8, zk16, zo32, zlt0, zle0, zeq0, zgt0, zLe0, nI_ltI, nI_leI, nI_eq, nI_add, nI_clamp, vp_in_nI, zup_s, zup_n, upd_s, upd_n, ne_eq, not_true_eq_false, not_false_eq_true, zeq1, true_or, or_true]; done))
        have f42 : ZW 11 (0, 0, 0, 0) 42 [(5, .int (nI (rl 1 i))), (4, .int (nI i)), (0, .ref 17), (1, .ref 11), (2, .int (nI p)), (3, .ref 1000011)] [.int (V i), .int (nI (rl 1 i)), .ref 17] (SH, cA m c [60, rl 1 i, 62]) Q := by
          refine zgo 5 [] ?_
          repeat' (first
            | (exact s2.use f45)
            | (show vp_in _ _; simp (disch := first | omega | decide) only [zcn, zkpl, zki, zki1, zk8, zk16, zo32, zlt0, zle0, zeq0, zgt0, zLe0, nI_ltI, nI_leI, nI_eq, nI_add, nI_clamp, vp_in_nI, zup_s, zup_n, upd_s, upd_n, ne_eq, not_true_eq_false, not_false_eq_true]; done)
            | (intro hc; exfalso; simp (disch := first | omega | decide) only [zcn, zkpl, zki, zki1, zk8, zk16, zo32, zlt0, zle0, zeq0, zgt0, zLe0, nI_ltI, nI_leI, nI_eq, nI_add, nI_clamp, vp_in_nI, zup_s, zup_n, upd_s, upd_n, ne_eq, not_true_eq_false, not_false_eq_true] at hc <;> omega)
            | (intro hc; exact absurd rfl hc)
            | intro hc
            | apply And.intro
            | exact Or.inl rfl
            | exact Or.inr rfl
            | (show (_ : Int32) = 0 ∨ _ = 1; simp (disch := first | omega | decide) only [zcn, zkpl, zki, zki1, zk8, zk16, zo32, zlt0, zle0, zeq0, zgt0, zLe0, nI_ltI, nI_leI, nI_eq, nI_add, nI_clamp, vp_in_nI, zup_s, zup_n, upd_s, upd_n, ne_eq, not_true_eq_false, not_false_eq_true, zeq1, true_or, or_true]; done))
        refine zgo 20 [] ?_
        repeat' (first
          | (exact hv.use f42)
          | (show vp_in _ _; simp (disch := first | omega | decide) only [zcn, zkpl, zki, zki1, zk8, zk16, zo32, zlt0, zle0, zeq0, zgt0, zLe0, nI_ltI, nI_leI, nI_eq, nI_add, nI_clamp, vp_in_nI, zup_s, zup_n, upd_s, upd_n, ne_eq, not_true_eq_false, not_false_eq_true]; done)
          | (intro hc; exfalso; simp (disch := first | omega | decide) only [zcn, zkpl, zki, zki1, zk8, zk16, zo32, zlt0, zle0, zeq0, zgt0, zLe0, nI_ltI, nI_leI, nI_eq, nI_add, nI_clamp, vp_in_nI, zup_s, zup_n, upd_s, upd_n, ne_eq, not_true_eq_false, not_false_eq_true] at hc <;> omega)
          | (intro hc; exact absurd rfl hc)
          | intro hc
          | apply And.intro
          | exact Or.inl rfl
          | exact Or.inr rfl
          | (show (_ : Int32) = 0 ∨ _ = 1; simp (disch := first | omega | decide) only [zcn, zkpl, zki, zki1, zk8, zk16, zo32, zlt0, zle0, zeq0, zgt0, zLe0, nI_ltI, nI_leI, nI_eq, nI_add, nI_clamp, vp_in_nI, zup_s, zup_n, upd_s, upd_n, ne_eq, not_true_eq_false, not_false_eq_true, zeq1, true_or, or_true]; done))
    have f20 : ZW 11 (0, 0, 0, 0) 20 [(5, .int (nI (rl 1 i))), (4, .int (nI i)), (0, .ref 17), (1, .ref 11), (2, .int (nI p)), (3, .ref 1000011)] [] (SH, m) Q := by
      refine zgo 5 [] ?_
      repeat' (first
        | (exact s1.use f26)
        | (show vp_in _ _; simp (disch := first | omega | decide) only [zcn, zkpl, zki, zki1, zk8, zk16, zo32, zlt0, zle0, zeq0, zgt0, zLe0, nI_ltI, nI_leI, nI_eq, nI_add, nI_clamp, vp_in_nI, zup_s, zup_n, upd_s, upd_n, ne_eq, not_true_eq_false, not_false_eq_true]; done)
        | (intro hc; exfalso; simp (disch := first | omega | decide) only [zcn, zkpl, zki, zki1, zk8, zk16, zo32, zlt0, zle0, zeq0, zgt0, zLe0, nI_ltI, nI_leI, nI_eq, nI_add, nI_clamp, vp_in_nI, zup_s, zup_n, upd_s, upd_n, ne_eq, not_true_eq_false, not_false_eq_true] at hc <;> omega)
        | (intro hc; exact absurd rfl hc)
        | intro hc
        | apply And.intro
        | exact Or.inl rfl
        | exact Or.inr rfl
        | (show (_ : Int32) = 0 ∨ _ = 1; simp (disch := first | omega | decide) only [zcn, zkpl, zki, zki1, zk8, zk16, zo32, zlt0, zle0, zeq0, zgt0, zLe0, nI_ltI, nI_leI, nI_eq, nI_add, nI_clamp, vp_in_nI, zup_s, zup_n, upd_s, upd_n, ne_eq, not_true_eq_false, not_false_eq_true, zeq1, true_or, or_true]; done))
    rw [← ec] at f20
    rcases hR with rfl | ⟨y, rfl⟩
    · refine zgo 8 [] ?_
      repeat' (first
        | (exact f20)
        | (show vp_in _ _; simp (disch := first | omega | decide) only [hln, zcn, zkpl, zki, zki1, zk8, zk16, zo32, zlt0, zle0, zeq0, zgt0, zLe0, nI_ltI, nI_leI, nI_eq, nI_add, nI_clamp, vp_in_nI, zup_s, zup_n, upd_s, upd_n, ne_eq, not_true_eq_false, not_false_eq_true]; done)
        | (intro hc; exfalso; simp (disch := first | omega | decide) only [hln, zcn, zkpl, zki, zki1, zk8, zk16, zo32, zlt0, zle0, zeq0, zgt0, zLe0, nI_ltI, nI_leI, nI_eq, nI_add, nI_clamp, vp_in_nI, zup_s, zup_n, upd_s, upd_n, ne_eq, not_true_eq_false, not_false_eq_true] at hc <;> omega)
        | (intro hc; exact absurd rfl hc)
        | intro hc
        | apply And.intro
        | exact Or.inl rfl
        | exact Or.inr rfl
        | (show (_ : Int32) = 0 ∨ _ = 1; simp (disch := first | omega | decide) only [hln, zcn, zkpl, zki, zki1, zk8, zk16, zo32, zlt0, zle0, zeq0, zgt0, zLe0, nI_ltI, nI_leI, nI_eq, nI_add, nI_clamp, vp_in_nI, zup_s, zup_n, upd_s, upd_n, ne_eq, not_true_eq_false, not_false_eq_true, zeq1, true_or, or_true]; done))
    · refine zgo 8 [] ?_
      repeat' (first
        | (exact f20)
        | (show vp_in _ _; simp (disch := first | omega | decide) only [hln, zcn, zkpl, zki, zki1, zk8, zk16, zo32, zlt0, zle0, zeq0, zgt0, zLe0, nI_ltI, nI_leI, nI_eq, nI_add, nI_clamp, vp_in_nI, zup_s, zup_n, upd_s, upd_n, ne_eq, not_true_eq_false, not_false_eq_true]; done)
        | (intro hc; exfalso; simp (disch := first | omega | decide) only [hln, zcn, zkpl, zki, zki1, zk8, zk16, zo32, zlt0, zle0, zeq0, zgt0, zLe0, nI_ltI, nI_leI, nI_eq, nI_add, nI_clamp, vp_in_nI, zup_s, zup_n, upd_s, upd_n, ne_eq, not_true_eq_false, not_false_eq_true] at hc <;> omega)
        | (intro hc; exact absurd rfl hc)
        | intro hc
        | apply And.intro
        | exact Or.inl rfl
        | exact Or.inr rfl
        | (show (_ : Int32) = 0 ∨ _ = 1; simp (disch := first | omega | decide) only [hln, zcn, zkpl, zki, zki1, zk8, zk16, zo32, zlt0, zle0, zeq0, zgt0, zLe0, nI_ltI, nI_leI, nI_eq, nI_add, nI_clamp, vp_in_nI, zup_s, zup_n, upd_s, upd_n, ne_eq, not_true_eq_false, not_false_eq_true, zeq1, true_or, or_true]; done))
theorem ev_ar1 {p c : Nat} {m : zM} (hp : p + 5 ≤ 19) {X : Nat → List Nat} {V : Nat → Int32} (hX : ∀ i, 1 ≤ i → i < 5 → vtx (rl 1 i) (V i) (X i)) (h : m 14 4 = nI c) (hc' : c + (rtx 1 X 5 0).length ≤ 240) (hV : ∀ i, 1 ≤ i → i < 5 → m 13 (p + i) = V i) : Ev 11 [.ref 17, .ref 11, .int (nI p), .ref 1000011] m none (cA m c (rtx 1 X 5 0)) := by
  intro Q hQ
  have W := ar_loop1 hp hX Q 5 0 m c _ (by omega) h hc' hV (Or.inl rfl) hQ
  refine zgo 5 [] ?_
  exact W
theorem ar_loop2 {p : Nat} (hp : p + 4 ≤ 19) {X : Nat → List Nat} {V : Nat → Int32} (hX : ∀ i, 1 ≤ i → i < 4 → vtx (rl 2 i) (V i) (X i)) (Q : zQ) : ∀ (n i : Nat) (m : zM) (c : Nat) (R : zLs), i + n = 4 → m 14 4 = nI c → c + (rtx 2 X n i).length ≤ 240 → (∀ i, 1 ≤ i → i < 4 → m 13 (p + i) = V i) → arL i [(0, .ref 17), (1, .ref 11), (2, .int (nI p)), (3, .ref 1000012)] R → Q none (SH, cA m c (rtx 2 X n i)) → ZW 11 (0, 0, 0, 0) 3 R [] (SH, m) Q := by
  intro n
  have hln : (zSS.getD (1000012 - 1000010) []).length = 4 := rfl
  induction n with
  | zero =>
    intro i m c R hi _ _ _ hR hQ
    have hQ : Q none (SH, m) := hQ
    obtain rfl : i = 4 := by omega
    rcases hR with rfl | ⟨y, rfl⟩
    · refine zgo 10 [] ?_
      repeat' (first
        | (show vp_in _ _; simp (disch := first | omega | decide) only [hln, zcn, zkpl, zki, zki1, zk8, zk16, zo32, zlt0, zle0, zeq0, zgt0, zLe0, nI_ltI, nI_leI, nI_eq, nI_add, nI_clamp, vp_in_nI, zup_s, zup_n, upd_s, upd_n, ne_eq, not_true_eq_false, not_false_eq_true]; done)
        | (intro hc; exfalso; simp (disch := first | omega | decide) only [hln, zcn, zkpl, zki, zki1, zk8, zk16, zo32, zlt0, zle0, zeq0, zgt0, zLe0, nI_ltI, nI_leI, nI_eq, nI_add, nI_clamp, vp_in_nI, zup_s, zup_n, upd_s, upd_n, ne_eq, not_true_eq_false, not_false_eq_true] at hc <;> omega)
        | (intro hc; exact absurd rfl hc)
        | intro hc
        | apply And.intro
        | exact hQ
        | (show Q _ (SH, _); simp (disch := first | omega | decide) only [hln, zcn, zkpl, zki, zki1, zk8, zk16, zo32, zlt0, zle0, zeq0, zgt0, zLe0, nI_ltI, nI_leI, nI_eq, nI_add, nI_clamp, vp_in_nI, zup_s, zup_n, upd_s, upd_n, ne_eq, not_true_eq_false, not_false_eq_true]; exact hQ)
        | exact Or.inl rfl
        | exact Or.inr rfl
        | (show (_ : Int32) = 0 ∨ _ = 1; simp (disch := first | omega | decide) only [hln, zcn, zkpl, zki, zki1, zk8, zk16, zo32, zlt0, zle0, zeq0, zgt0, zLe0, nI_ltI, nI_leI, nI_eq, nI_add, nI_clamp, vp_in_nI, zup_s, zup_n, upd_s, upd_n, ne_eq, not_true_eq_false, not_false_eq_true, zeq1, true_or, or_true]; done))
    · refine zgo 10 [] ?_
      repeat' (first
        | (show vp_in _ _; simp (disch := first | omega | decide) only [hln, zcn, zkpl, zki, zki1, zk8, zk16, zo32, zlt0, zle0, zeq0, zgt0, zLe0, nI_ltI, nI_leI, nI_eq, nI_add, nI_clamp, vp_in_nI, zup_s, zup_n, upd_s, upd_n, ne_eq, not_true_eq_false, not_false_eq_true]; done)
        | (intro hc; exfalso; simp (disch := first | omega | decide) only [hln, zcn, zkpl, zki, zki1, zk8, zk16, zo32, zlt0, zle0, zeq0, zgt0, zLe0, nI_ltI, nI_leI, nI_eq, nI_add, nI_clamp, vp_in_nI, zup_s, zup_n, upd_s, upd_n, ne_eq, not_true_eq_false, not_false_eq_true] at hc <;> omega)
        | (intro hc; exact absurd rfl hc)
        | intro hc
        | apply And.intro
        | exact hQ
        | (show Q _ (SH, _); simp (disch := first | omega | decide) only [hln, zcn, zkpl, zki, zki1, zk8, zk16, zo32, zlt0, zle0, zeq0, zgt0, zLe0, nI_ltI, nI_leI, nI_eq, nI_add, nI_clamp, vp_in_nI, zup_s, zup_n, upd_s, upd_n, ne_eq, not_true_eq_false, not_false_eq_true]; exact hQ)
        | exact Or.inl rfl
        | exact Or.inr rfl
        | (show (_ : Int32) = 0 ∨ _ = 1; simp (disch := first | omega | decide) only [hln, zcn, zkpl, zki, zki1, zk8, zk16, zo32, zlt0, zle0, zeq0, zgt0, zLe0, nI_ltI, nI_leI, nI_eq, nI_add, nI_clamp, vp_in_nI, zup_s, zup_n, upd_s, upd_n, ne_eq, not_true_eq_false, not_false_eq_true, zeq1, true_or, or_true]; done))
  | succ n ih =>
    intro i m c R hi h hc' hV hR hQ
    have e3 : nI i + Int32.ofInt 1 = nI (i + 1) := by rw [zki, nI_add]
    have ec : zSc 1000012 (nI i).toNatClampNeg = nI (rl 2 i) := by
      rw [nI_clamp (by omega)]
      rfl
    rw [rtx, List.length_append, List.length_append] at hc'
    rw [rtx, ← cA_app, ← cA_app] at hQ
    have l3 : ([60, rl 2 i, 62] : List Nat).length = 3 := rfl
    rw [l3] at hc' hQ
    have s1 := ev_tB (l := rl 2 i) h (by omega)
    have h1 := cA_cnt h [60, rl 2 i, 62]
    rw [l3] at h1
    have f51 : ∀ m' c', m' 14 4 = nI c' → c' + (rtx 2 X n (i + 1)).length ≤ 240 → (∀ i, 1 ≤ i → i < 4 → m' 13 (p + i) = V i) → Q none (SH, cA m' c' (rtx 2 X n (i + 1))) → ZW 11 (0, 0, 0, 0) 51 [(5, .int (nI (rl 2 i))), (4, .int (nI i)), (0, .ref 17), (1, .ref 11), (2, .int (nI p)), (3, .ref 1000012)] [] (SH, m') Q := by
      intro m' c' g1 g2 g3 g4
      have W := ih (i + 1) m' c' ((4, .int (nI (i + 1))) :: (5, .int (nI (rl 2 i))) :: [(0, .ref 17), (1, .ref 11), (2, .int (nI p)), (3, .ref 1000012)]) (by omega) g1 g2 g3 (Or.inr ⟨_, rfl⟩) g4
      rw [← e3] at W
      refine zgo 5 [] ?_
      exact W
    have f26 : ZW 11 (0, 0, 0, 0) 26 [(5, .int (nI (rl 2 i))), (4, .int (nI i)), (0, .ref 17), (1, .ref 11), (2, .int (nI p)), (3, .ref 1000012)] [] (SH, cA m c [60, rl 2 i, 62]) Q := by
      by_cases e : i = 0
      · rw [if_pos e] at hc' hQ
        have W := f51 (cA m c [60, rl 2 i, 62]) (c + 3) h1 (by simp only [List.length_nil] at hc'; omega) (fun i g1 g2 => by rw [cA_far (by decide) (by decide)]; exact hV i g1 g2) (by
          have : cA (cA m c [60, rl 2 i, 62]) (c + 3) [] = cA m c [60, rl 2 i, 62] := rfl
          rw [this] at hQ
          exact hQ)
        refine zgo 2 [] ?_
        repeat' (first
          | (exact W)
          | (show vp_in _ _; simp (disch := first | omega | decide) only [zcn, zkpl, zki, zki1, zk8, zk16, zo32, zlt0, zle0, zeq0, zgt0, zLe0, nI_ltI, nI_leI, nI_eq, nI_add, nI_clamp, vp_in_nI, zup_s, zup_n, upd_s, upd_n, ne_eq, not_true_eq_false, not_false_eq_true]; done)
          | (intro hc; exfalso; simp (disch := first | omega | decide) only [zcn, zkpl, zki, zki1, zk8, zk16, zo32, zlt0, zle0, zeq0, zgt0, zLe0, nI_ltI, nI_leI, nI_eq, nI_add, nI_clamp, vp_in_nI, zup_s, zup_n, upd_s, upd_n, ne_eq, not_true_eq_false, not_false_eq_true] at hc <;> omega)
          | (intro hc; exact absurd rfl hc)
          | intro hc
          | apply And.intro
          | exact Or.inl rfl
          | exact Or.inr rfl
          | (show (_ : Int32) = 0 ∨ _ = 1; simp (disch := first | omega | decide) only [zcn, zkpl, zki, zki1, zk8, zk16, zo32, zlt0, zle0, zeq0, zgt0, zLe0, nI_ltI, nI_leI, nI_eq, nI_add, nI_clamp, vp_in_nI, zup_s, zup_n, upd_s, upd_n, ne_eq, not_true_eq_false, not_false_eq_true, zeq1, true_or, or_true]; done))
      · rw [if_neg e, List.length_append] at hc'
        rw [if_neg e, ← cA_app, List.length_append, List.length_append] at hQ
        have l4 : ([60, 47, rl 2 i, 62] : List Nat).length = 4 := rfl
        rw [l4] at hc'
        rw [l3, l4] at hQ
        obtain ⟨x1, x2⟩ := hX i (by omega) (by omega)
        have hv : Ev 37 [.ref 11, .int (nI p + nI i)] (cA m c [60, rl 2 i, 62]) (some (.int (V i))) (cA m c [60, rl 2 i, 62]) := by
          have := ev_vAt (m := cA m c [60, rl 2 i, 62]) (x := nI p + nI i) (p + i) (nI_add p i) (by omega)
          rw [cA_far (by decide) (by decide), hV i (by omega) (by omega)] at this
          exact this
        have s2 := x2 (cA m c [60, rl 2 i, 62]) (c + 3) h1 (by omega)
        have h2 := cA_cnt h1 (X i)
        have s3 := ev_tE (l := rl 2 i) h2 (by omega)
        have h3 := cA_cnt h2 [60, 47, rl 2 i, 62]
        rw [l4] at h3
        have W := f51 _ _ h3 (by omega) (fun i g1 g2 => by rw [cA_far (by decide) (by decide), cA_far (by decide) (by decide), cA_far (by decide) (by decide)]; exact hV i g1 g2) (by
          rw [show c + 3 + (X i).length + 4 = c + (3 + ((X i).length + 4)) by omega]
          exact hQ)
        have f45 : ZW 11 (0, 0, 0, 0) 45 [(5, .int (nI (rl 2 i))), (4, .int (nI i)), (0, .ref 17), (1, .ref 11), (2, .int (nI p)), (3, .ref 1000012)] [] (SH, cA (cA m c [60, rl 2 i, 62]) (c + 3) (X i)) Q := by
          refine zgo 5 [] ?_
          repeat' (first
            | (exact s3.use W)
            | (show vp_in _ _; simp (disch := first | omega | decide) only [zcn, zkpl, zki, zki1, zk8, zk16, zo32, zlt0, zle0, zeq0, zgt0, zLe0, nI_ltI, nI_leI, nI_eq, nI_add, nI_clamp, vp_in_nI, zup_s, zup_n, upd_s, upd_n, ne_eq, not_true_eq_false, not_false_eq_true]; done)
            | (intro hc; exfalso; simp (disch := first | omega | decide) only [zcn, zkpl, zki, zki1, zk8, zk16, zo32, zlt0, zle0, zeq0, zgt0, zLe0, nI_ltI, nI_leI, nI_eq, nI_add, nI_clamp, vp_in_nI, zup_s, zup_n, upd_s, upd_n, ne_eq, not_true_eq_false, not_false_eq_true] at hc <;> omega)
            | (intro hc; exact absurd rfl hc)
            | intro hc
            | apply And.intro
            | exact Or.inl rfl
            | exact Or.inr rfl
            | (show (_ : Int32) = 0 ∨ _ = 1; simp (disch := first | omega | decide) only [zcn, zkpl, zki, zki1, zk8, zk16, zo32, zlt0, zle0, zeq0, zgt0, zLe0, nI_ltI, nI_leI, nI_eq, nI_add, nI_clamp, vp_in_nI, zup_s, zup_n, upd_s, upd_n, ne_eq, not_true_eq_false, not_false_eq_true, zeq1, true_or, or_true]; done))
        have f42 : ZW 11 (0, 0, 0, 0) 42 [(5, .int (nI (rl 2 i))), (4, .int (nI i)), (0, .ref 17), (1, .ref 11), (2, .int (nI p)), (3, .ref 1000012)] [.int (V i), .int (nI (rl 2 i)), .ref 17] (SH, cA m c [60, rl 2 i, 62]) Q := by
          refine zgo 5 [] ?_
          repeat' (first
            | (exact s2.use f45)
            | (show vp_in _ _; simp (disch := first | omega | decide) only [zcn, zkpl, zki, zki1, zk8, zk16, zo32, zlt0, zle0, zeq0, zgt0, zLe0, nI_ltI, nI_leI, nI_eq, nI_add, nI_clamp, vp_in_nI, zup_s, zup_n, upd_s, upd_n, ne_eq, not_true_eq_false, not_false_eq_true]; done)
            | (intro hc; exfalso; simp (disch := first | omega | decide) only [zcn, zkpl, zki, zki1, zk8, zk16, zo32, zlt0, zle0, zeq0, zgt0, zLe0, nI_ltI, nI_leI, nI_eq, nI_add, nI_clamp, vp_in_nI, zup_s, zup_n, upd_s, upd_n, ne_eq, not_true_eq_false, not_false_eq_true] at hc <;> omega)
            | (intro hc; exact absurd rfl hc)
            | intro hc
            | apply And.intro
            | exact Or.inl rfl
            | exact Or.inr rfl
            | (show (_ : Int32) = 0 ∨ _ = 1; simp (disch := first | omega | decide) only [zcn, zkpl, zki, zki1, zk8, zk16, zo32, zlt0, zle0, zeq0, zgt0, zLe0, nI_ltI, nI_leI, nI_eq, nI_add, nI_clamp, vp_in_nI, zup_s, zup_n, upd_s, upd_n, ne_eq, not_true_eq_false, not_false_eq_true, zeq1, true_or, or_true]; done))
        refine zgo 20 [] ?_
        repeat' (first
          | (exact hv.use f42)
          | (show vp_in _ _; simp (disch := first | omega | decide) only [zcn, zkpl, zki, zki1, zk8, zk16, zo32, zlt0, zle0, zeq0, zgt0, zLe0, nI_ltI, nI_leI, nI_eq, nI_add, nI_clamp, vp_in_nI, zup_s, zup_n, upd_s, upd_n, ne_eq, not_true_eq_false, not_false_eq_true]; done)
          | (intro hc; exfalso; simp (disch := first | omega | decide) only [zcn, zkpl, zki, zki1, zk8, zk16, zo32, zlt0, zle0, zeq0, zgt0, zLe0, nI_ltI, nI_leI, nI_eq, nI_add, nI_clamp, vp_in_nI, zup_s, zup_n, upd_s, upd_n, ne_eq, not_true_eq_false, not_false_eq_true] at hc <;> omega)
          | (intro hc; exact absurd rfl hc)
          | intro hc
          | apply And.intro
          | exact Or.inl rfl
          | exact Or.inr rfl
          | (show (_ : Int32) = 0 ∨ _ = 1; simp (disch := first | omega | decide) only [zcn, zkpl, zki, zki1, zk8, zk16, zo32, zlt0, zle0, zeq0, zgt0, zLe0, nI_ltI, nI_leI, nI_eq, nI_add, nI_clamp, vp_in_nI, zup_s, zup_n, upd_s, upd_n, ne_eq, not_true_eq_false, not_false_eq_true, zeq1, true_or, or_true]; done))
    have f20 : ZW 11 (0, 0, 0, 0) 20 [(5, .int (nI (rl 2 i))), (4, .int (nI i)), (0, .ref 17), (1, .ref 11), (2, .int (nI p)), (3, .ref 1000012)] [] (SH, m) Q := by
      refine zgo 5 [] ?_
      repeat' (first
        | (exact s1.use f26)
        | (show vp_in _ _; simp (disch := first | omega | decide) only [zcn, zkpl, zki, zki1, zk8, zk16, zo32, zlt0, zle0, zeq0, zgt0, zLe0, nI_ltI, nI_leI, nI_eq, nI_add, nI_clamp, vp_in_nI, zup_s, zup_n, upd_s, upd_n, ne_eq, not_true_eq_false, not_false_eq_true]; done)
        | (intro hc; exfalso; simp (disch := first | omega | decide) only [zcn, zkpl, zki, zki1, zk8, zk16, zo32, zlt0, zle0, zeq0, zgt0, zLe0, nI_ltI, nI_leI, nI_eq, nI_add, nI_clamp, vp_in_nI, zup_s, zup_n, upd_s, upd_n, ne_eq, not_true_eq_false, not_false_eq_true] at hc <;> omega)
        | (intro hc; exact absurd rfl hc)
        | intro hc
        | apply And.intro
        | exact Or.inl rfl
        | exact Or.inr rfl
        | (show (_ : Int32) = 0 ∨ _ = 1; simp (disch := first | omega | decide) only [zcn, zkpl, zki, zki1, zk8, zk16, zo32, zlt0, zle0, zeq0, zgt0, zLe0, nI_ltI, nI_leI, nI_eq, nI_add, nI_clamp, vp_in_nI, zup_s, zup_n, upd_s, upd_n, ne_eq, not_true_eq_false, not_false_eq_true, zeq1, true_or, or_true]; done))
    rw [← ec] at f20
    rcases hR with rfl | ⟨y, rfl⟩
    · refine zgo 8 [] ?_
      repeat' (first
        | (exact f20)
        | (show vp_in _ _; simp (disch := first | omega | decide) only [hln, zcn, zkpl, zki, zki1, zk8, zk16, zo32, zlt0, zle0, zeq0, zgt0, zLe0, nI_ltI, nI_leI, nI_eq, nI_add, nI_clamp, vp_in_nI, zup_s, zup_n, upd_s, upd_n, ne_eq, not_true_eq_false, not_false_eq_true]; done)
        | (intro hc; exfalso; simp (disch := first | omega | decide) only [hln, zcn, zkpl, zki, zki1, zk8, zk16, zo32, zlt0, zle0, zeq0, zgt0, zLe0, nI_ltI, nI_leI, nI_eq, nI_add, nI_clamp, vp_in_nI, zup_s, zup_n, upd_s, upd_n, ne_eq, not_true_eq_false, not_false_eq_true] at hc <;> omega)
        | (intro hc; exact absurd rfl hc)
        | intro hc
        | apply And.intro
        | exact Or.inl rfl
        | exact Or.inr rfl
        | (show (_ : Int32) = 0 ∨ _ = 1; simp (disch := first | omega | decide) only [hln, zcn, zkpl, zki, zki1, zk8, zk16, zo32, zlt0, zle0, zeq0, zgt0, zLe0, nI_ltI, nI_leI, nI_eq, nI_add, nI_clamp, vp_in_nI, zup_s, zup_n, upd_s, upd_n, ne_eq, not_true_eq_false, not_false_eq_true, zeq1, true_or, or_true]; done))
    · refine zgo 8 [] ?_
      repeat' (first
        | (exact f20)
        | (show vp_in _ _; simp (disch := first | omega | decide) only [hln, zcn, zkpl, zki, zki1, zk8, zk16, zo32, zlt0, zle0, zeq0, zgt0, zLe0, nI_ltI, nI_leI, nI_eq, nI_add, nI_clamp, vp_in_nI, zup_s, zup_n, upd_s, upd_n, ne_eq, not_true_eq_false, not_false_eq_true]; done)
        | (intro hc; exfalso; simp (disch := first | omega | decide) only [hln, zcn, zkpl, zki, zki1, zk8, zk16, zo32, zlt0, zle0, zeq0, zgt0, zLe0, nI_ltI, nI_leI, nI_eq, nI_add, nI_clamp, vp_in_nI, zup_s, zup_n, upd_s, upd_n, ne_eq, not_true_eq_false, not_false_eq_true] at hc <;> omega)
        | (intro hc; exact absurd rfl hc)
        | intro hc
        | apply And.intro
        | exact Or.inl rfl
        | exact Or.inr rfl
        | (show (_ : Int32) = 0 ∨ _ = 1; simp (disch := first | omega | decide) only [hln, zcn, zkpl, zki, zki1, zk8, zk16, zo32, zlt0, zle0, zeq0, zgt0, zLe0, nI_ltI, nI_leI, nI_eq, nI_add, nI_clamp, vp_in_nI, zup_s, zup_n, upd_s, upd_n, ne_eq, not_true_eq_false, not_false_eq_true, zeq1, true_or, or_true]; done))
theorem ev_ar2 {p c : Nat} {m : zM} (hp : p + 4 ≤ 19) {X : Nat → List Nat} {V : Nat → Int32} (hX : ∀ i, 1 ≤ i → i < 4 → vtx (rl 2 i) (V i) (X i)) (h : m 14 4 = nI c) (hc' : c + (rtx 2 X 4 0).length ≤ 240) (hV : ∀ i, 1 ≤ i → i < 4 → m 13 (p + i) = V i) : Ev 11 [.ref 17, .ref 11, .int (nI p), .ref 1000012] m none (cA m c (rtx 2 X 4 0)) := by
  intro Q hQ
  have W := ar_loop2 hp hX Q 4 0 m c _ (by omega) h hc' hV (Or.inl rfl) hQ
  refine zgo 5 [] ?_
  exact W
theorem ar_loop3 {p : Nat} (hp : p + 4 ≤ 19) {X : Nat → List Nat} {V : Nat → Int32} (hX : ∀ i, 1 ≤ i → i < 4 → vtx (rl 3 i) (V i) (X i)) (Q : zQ) : ∀ (n i : Nat) (m : zM) (c : Nat) (R : zLs), i + n = 4 → m 14 4 = nI c → c + (rtx 3 X n i).length ≤ 240 → (∀ i, 1 ≤ i → i < 4 → m 13 (p + i) = V i) → arL i [(0, .ref 17), (1, .ref 11), (2, .int (nI p)), (3, .ref 1000013)] R → Q none (SH, cA m c (rtx 3 X n i)) → ZW 11 (0, 0, 0, 0) 3 R [] (SH, m) Q := by
  intro n
  have hln : (zSS.getD (1000013 - 1000010) []).length = 4 := rfl
  induction n with
  | zero =>
    intro i m c R hi _ _ _ hR hQ
    have hQ : Q none (SH, m) := hQ
    obtain rfl : i = 4 := by omega
    rcases hR with rfl | ⟨y, rfl⟩
    · refine zgo 10 [] ?_
      repeat' (first
        | (show vp_in _ _; simp (disch := first | omega | decide) only [hln, zcn, zkpl, zki, zki1, zk8, zk16, zo32, zlt0, zle0, zeq0, zgt0, zLe0, nI_ltI, nI_leI, nI_eq, nI_add, nI_clamp, vp_in_nI, zup_s, zup_n, upd_s, upd_n, ne_eq, not_true_eq_false, not_false_eq_true]; done)
        | (intro hc; exfalso; simp (disch := first | omega | decide) only [hln, zcn, zkpl, zki, zki1, zk8, zk16, zo32, zlt0, zle0, zeq0, zgt0, zLe0, nI_ltI, nI_leI, nI_eq, nI_add, nI_clamp, vp_in_nI, zup_s, zup_n, upd_s, upd_n, ne_eq, not_true_eq_false, not_false_eq_true] at hc <;> omega)
        | (intro hc; exact absurd rfl hc)
        | intro hc
        | apply And.intro
        | exact hQ
        | (show Q _ (SH, _); simp (disch := first | omega | decide) only [hln, zcn, zkpl, zki, zki1, zk8, zk16, zo32, zlt0, zle0, zeq0, zgt0, zLe0, nI_ltI, nI_leI, nI_eq, nI_add, nI_clamp, vp_in_nI, zup_s, zup_n, upd_s, upd_n, ne_eq, not_true_eq_false, not_false_eq_true]; exact hQ)
        | exact Or.inl rfl
        | exact Or.inr rfl
        | (show (_ : Int32) = 0 ∨ _ = 1; simp (disch := first | omega | decide) only [hln, zcn, zkpl, zki, zki1, zk8, zk16, zo32, zlt0, zle0, zeq0, zgt0, zLe0, nI_ltI, nI_leI, nI_eq, nI_add, nI_clamp, vp_in_nI, zup_s, zup_n, upd_s, upd_n, ne_eq, not_true_eq_false, not_false_eq_true, zeq1, true_or, or_true]; done))
    · refine zgo 10 [] ?_
      repeat' (first
        | (show vp_in _ _; simp (disch := first | omega | decide) only [hln, zcn, zkpl, zki, zki1, zk8, zk16, zo32, zlt0, zle0, zeq0, zgt0, zLe0, nI_ltI, nI_leI, nI_eq, nI_add, nI_clamp, vp_in_nI, zup_s, zup_n, upd_s, upd_n, ne_eq, not_true_eq_false, not_false_eq_true]; done)
        | (intro hc; exfalso; simp (disch := first | omega | decide) only [hln, zcn, zkpl, zki, zki1, zk8, zk16, zo32, zlt0, zle0, zeq0, zgt0, zLe0, nI_ltI, nI_leI, nI_eq, nI_add, nI_clamp, vp_in_nI, zup_s, zup_n, upd_s, upd_n, ne_eq, not_true_eq_false, not_false_eq_true] at hc <;> omega)
        | (intro hc; exact absurd rfl hc)
        | intro hc
        | apply And.intro
        | exact hQ
        | (show Q _ (SH, _); simp (disch := first | omega | decide) only [hln, zcn, zkpl, zki, zki1, zk8, zk16, zo32, zlt0, zle0, zeq0, zgt0, zLe0, nI_ltI, nI_leI, nI_eq, nI_add, nI_clamp, vp_in_nI, zup_s, zup_n, upd_s, upd_n, ne_eq, not_true_eq_false, not_false_eq_true]; exact hQ)
        | exact Or.inl rfl
        | exact Or.inr rfl
        | (show (_ : Int32) = 0 ∨ _ = 1; simp (disch := first | omega | decide) only [hln, zcn, zkpl, zki, zki1, zk8, zk16, zo32, zlt0, zle0, zeq0, zgt0, zLe0, nI_ltI, nI_leI, nI_eq, nI_add, nI_clamp, vp_in_nI, zup_s, zup_n, upd_s, upd_n, ne_eq, not_true_eq_false, not_false_eq_true, zeq1, true_or, or_true]; done))
  | succ n ih =>
    intro i m c R hi h hc' hV hR hQ
    have e3 : nI i + Int32.ofInt 1 = nI (i + 1) := by rw [zki, nI_add]
    have ec : zSc 1000013 (nI i).toNatClampNeg = nI (rl 3 i) := by
      rw [nI_clamp (by omega)]
      rfl
    rw [rtx, List.length_append, List.length_append] at hc'
    rw [rtx, ← cA_app, ← cA_app] at hQ
    have l3 : ([60, rl 3 i, 62] : List Nat).length = 3 := rfl
    rw [l3] at hc' hQ
    have s1 := ev_tB (l := rl 3 i) h (by omega)
    have h1 := cA_cnt h [60, rl 3 i, 62]
    rw [l3] at h1
    have f51 : ∀ m' c', m' 14 4 = nI c' → c' + (rtx 3 X n (i + 1)).length ≤ 240 → (∀ i, 1 ≤ i → i < 4 → m' 13 (p + i) = V i) → Q none (SH, cA m' c' (rtx 3 X n (i + 1))) → ZW 11 (0, 0, 0, 0) 51 [(5, .int (nI (rl 3 i))), (4, .int (nI i)), (0, .ref 17), (1, .ref 11), (2, .int (nI p)), (3, .ref 1000013)] [] (SH, m') Q := by
      intro m' c' g1 g2 g3 g4
      have W := ih (i + 1) m' c' ((4, .int (nI (i + 1))) :: (5, .int (nI (rl 3 i))) :: [(0, .ref 17), (1, .ref 11), (2, .int (nI p)), (3, .ref 1000013)]) (by omega) g1 g2 g3 (Or.inr ⟨_, rfl⟩) g4
      rw [← e3] at W
      refine zgo 5 [] ?_
      exact W
    have f26 : ZW 11 (0, 0, 0, 0) 26 [(5, .int (nI (rl 3 i))), (4, .int (nI i)), (0, .ref 17), (1, .ref 11), (2, .int (nI p)), (3, .ref 1000013)] [] (SH, cA m c [60, rl 3 i, 62]) Q := by
      by_cases e : i = 0
      · rw [if_pos e] at hc' hQ
        have W := f51 (cA m c [60, rl 3 i, 62]) (c + 3) h1 (by simp only [List.length_nil] at hc'; omega) (fun i g1 g2 => by rw [cA_far (by decide) (by decide)]; exact hV i g1 g2) (by
          have : cA (cA m c [60, rl 3 i, 62]) (c + 3) [] = cA m c [60, rl 3 i, 62] := rfl
          rw [this] at hQ
          exact hQ)
        refine zgo 2 [] ?_
        repeat' (first
          | (exact W)
          | (show vp_in _ _; simp (disch := first | omega | decide) only [zcn, zkpl, zki, zki1, zk8, zk16, zo32, zlt0, zle0, zeq0, zgt0, zLe0, nI_ltI, nI_leI, nI_eq, nI_add, nI_clamp, vp_in_nI, zup_s, zup_n, upd_s, upd_n, ne_eq, not_true_eq_false, not_false_eq_true]; done)
          | (intro hc; exfalso; simp (disch := first | omega | decide) only [zcn, zkpl, zki, zki1, zk8, zk16, zo32, zlt0, zle0, zeq0, zgt0, zLe0, nI_ltI, nI_leI, nI_eq, nI_add, nI_clamp, vp_in_nI, zup_s, zup_n, upd_s, upd_n, ne_eq, not_true_eq_false, not_false_eq_true] at hc <;> omega)
          | (intro hc; exact absurd rfl hc)
          | intro hc
          | apply And.intro
          | exact Or.inl rfl
          | exact Or.inr rfl
          | (show (_ : Int32) = 0 ∨ _ = 1; simp (disch := first | omega | decide) only [zcn, zkpl, zki, zki1, zk8, zk16, zo32, zlt0, zle0, zeq0, zgt0, zLe0, nI_ltI, nI_leI, nI_eq, nI_add, nI_clamp, vp_in_nI, zup_s, zup_n, upd_s, upd_n, ne_eq, not_true_eq_false, not_false_eq_true, zeq1, true_or, or_true]; done))
      · rw [if_neg e, List.length_append] at hc'
        rw [if_neg e, ← cA_app, List.length_append, List.length_append] at hQ
        have l4 : ([60, 47, rl 3 i, 62] : List Nat).length = 4 := rfl
        rw [l4] at hc'
        rw [l3, l4] at hQ
        obtain ⟨x1, x2⟩ := hX i (by omega) (by omega)
        have hv : Ev 37 [.ref 11, .int (nI p + nI i)] (cA m c [60, rl 3 i, 62]) (some (.int (V i))) (cA m c [60, rl 3 i, 62]) := by
          have := ev_vAt (m := cA m c [60, rl 3 i, 62]) (x := nI p + nI i) (p + i) (nI_add p i) (by omega)
          rw [cA_far (by decide) (by decide), hV i (by omega) (by omega)] at this
          exact this
        have s2 := x2 (cA m c [60, rl 3 i, 62]) (c + 3) h1 (by omega)
        have h2 := cA_cnt h1 (X i)
        have s3 := ev_tE (l := rl 3 i) h2 (by omega)
        have h3 := cA_cnt h2 [60, 47, rl 3 i, 62]
        rw [l4] at h3
        have W := f51 _ _ h3 (by omega) (fun i g1 g2 => by rw [cA_far (by decide) (by decide), cA_far (by decide) (by decide), cA_far (by decide) (by decide)]; exact hV i g1 g2) (by
          rw [show c + 3 + (X i).length + 4 = c + (3 + ((X i).length + 4)) by omega]
          exact hQ)
        have f45 : ZW 11 (0, 0, 0, 0) 45 [(5, .int (nI (rl 3 i))), (4, .int (nI i)), (0, .ref 17), (1, .ref 11), (2, .int (nI p)), (3, .ref 1000013)] [] (SH, cA (cA m c [60, rl 3 i, 62]) (c + 3) (X i)) Q := by
          refine zgo 5 [] ?_
          repeat' (first
            | (exact s3.use W)
            | (show vp_in _ _; simp (disch := first | omega | decide) only [zcn, zkpl, zki, zki1, zk8, zk16, zo32, zlt0, zle0, zeq0, zgt0, zLe0, nI_ltI, nI_leI, nI_eq, nI_add, nI_clamp, vp_in_nI, zup_s, zup_n, upd_s, upd_n, ne_eq, not_true_eq_false, not_false_eq_true]; done)
            | (intro hc; exfalso; simp (disch := first | omega | decide) only [zcn, zkpl, zki, zki1, zk8, zk16, zo32, zlt0, zle0, zeq0, zgt0, zLe0, nI_ltI, nI_leI, nI_eq, nI_add, nI_clamp, vp_in_nI, zup_s, zup_n, upd_s, upd_n, ne_eq, not_true_eq_false, not_false_eq_true] at hc <;> omega)
            | (intro hc; exact absurd rfl hc)
            | intro hc
            | apply And.intro
            | exact Or.inl rfl
            | exact Or.inr rfl
            | (show (_ : Int32) = 0 ∨ _ = 1; simp (disch := first | omega | decide) only [zcn, zkpl, zki, zki1, zk8, zk16, zo32, zlt0, zle0, zeq0, zgt0, zLe0, nI_ltI, nI_leI, nI_eq, nI_add, nI_clamp, vp_in_nI, zup_s, zup_n, upd_s, upd_n, ne_eq, not_true_eq_false, not_false_eq_true, zeq1, true_or, or_true]; done))
        have f42 : ZW 11 (0, 0, 0, 0) 42 [(5, .int (nI (rl 3 i))), (4, .int (nI i)), (0, .ref 17), (1, .ref 11), (2, .int (nI p)), (3, .ref 1000013)] [.int (V i), .int (nI (rl 3 i)), .ref 17] (SH, cA m c [60, rl 3 i, 62]) Q := by
          refine zgo 5 [] ?_
          repeat' (first
            | (exact s2.use f45)
            | (show vp_in _ _; simp (disch := first | omega | decide) only [zcn, zkpl, zki, zki1, zk8, zk16, zo32, zlt0, zle0, zeq0, zgt0, zLe0, nI_ltI, nI_leI, nI_eq, nI_add, nI_clamp, vp_in_nI, zup_s, zup_n, upd_s, upd_n, ne_eq, not_true_eq_false, not_false_eq_true]; done)
            | (intro hc; exfalso; simp (disch := first | omega | decide) only [zcn, zkpl, zki, zki1, zk8, zk16, zo32, zlt0, zle0, zeq0, zgt0, zLe0, nI_ltI, nI_leI, nI_eq, nI_add, nI_clamp, vp_in_nI, zup_s, zup_n, upd_s, upd_n, ne_eq, not_true_eq_false, not_false_eq_true] at hc <;> omega)
            | (intro hc; exact absurd rfl hc)
            | intro hc
            | apply And.intro
            | exact Or.inl rfl
            | exact Or.inr rfl
            | (show (_ : Int32) = 0 ∨ _ = 1; simp (disch := first | omega | decide) only [zcn, zkpl, zki, zki1, zk8, zk16, zo32, zlt0, zle0, zeq0, zgt0, zLe0, nI_ltI, nI_leI, nI_eq, nI_add, nI_clamp, vp_in_nI, zup_s, zup_n, upd_s, upd_n, ne_eq, not_true_eq_false, not_false_eq_true, zeq1, true_or, or_true]; done))
        refine zgo 20 [] ?_
        repeat' (first
          | (exact hv.use f42)
          | (show vp_in _ _; simp (disch := first | omega | decide) only [zcn, zkpl, zki, zki1, zk8, zk16, zo32, zlt0, zle0, zeq0, zgt0, zLe0, nI_ltI, nI_leI, nI_eq, nI_add, nI_clamp, vp_in_nI, zup_s, zup_n, upd_s, upd_n, ne_eq, not_true_eq_false, not_false_eq_true]; done)
          | (intro hc; exfalso; simp (disch := first | omega | decide) only [zcn, zkpl, zki, zki1, zk8, zk16, zo32, zlt0, zle0, zeq0, zgt0, zLe0, nI_ltI, nI_leI, nI_eq, nI_add, nI_clamp, vp_in_nI, zup_s, zup_n, upd_s, upd_n, ne_eq, not_true_eq_false, not_false_eq_true] at hc <;> omega)
          | (intro hc; exact absurd rfl hc)
          | intro hc
          | apply And.intro
          | exact Or.inl rfl
          | exact Or.inr rfl
          | (show (_ : Int32) = 0 ∨ _ = 1; simp (disch := first | omega | decide) only [zcn, zkpl, zki, zki1, zk8, zk16, zo32, zlt0, zle0, zeq0, zgt0, zLe0, nI_ltI, nI_leI, nI_eq, nI_add, nI_clamp, vp_in_nI, zup_s, zup_n, upd_s, upd_n, ne_eq, not_true_eq_false, not_false_eq_true, zeq1, true_or, or_true]; done))
    have f20 : ZW 11 (0, 0, 0, 0) 20 [(5, .int (nI (rl 3 i))), (4, .int (nI i)), (0, .ref 17), (1, .ref 11), (2, .int (nI p)), (3, .ref 1000013)] [] (SH, m) Q := by
      refine zgo 5 [] ?_
      repeat' (first
        | (exact s1.use f26)
        | (show vp_in _ _; simp (disch := first | omega | decide) only [zcn, zkpl, zki, zki1, zk8, zk16, zo32, zlt0, zle0, zeq0, zgt0, zLe0, nI_ltI, nI_leI, nI_eq, nI_add, nI_clamp, vp_in_nI, zup_s, zup_n, upd_s, upd_n, ne_eq, not_true_eq_false, not_false_eq_true]; done)
        | (intro hc; exfalso; simp (disch := first | omega | decide) only [zcn, zkpl, zki, zki1, zk8, zk16, zo32, zlt0, zle0, zeq0, zgt0, zLe0, nI_ltI, nI_leI, nI_eq, nI_add, nI_clamp, vp_in_nI, zup_s, zup_n, upd_s, upd_n, ne_eq, not_true_eq_false, not_false_eq_true] at hc <;> omega)
        | (intro hc; exact absurd rfl hc)
        | intro hc
        | apply And.intro
        | exact Or.inl rfl
        | exact Or.inr rfl
        | (show (_ : Int32) = 0 ∨ _ = 1; simp (disch := first | omega | decide) only [zcn, zkpl, zki, zki1, zk8, zk16, zo32, zlt0, zle0, zeq0, zgt0, zLe0, nI_ltI, nI_leI, nI_eq, nI_add, nI_clamp, vp_in_nI, zup_s, zup_n, upd_s, upd_n, ne_eq, not_true_eq_false, not_false_eq_true, zeq1, true_or, or_true]; done))
    rw [← ec] at f20
    rcases hR with rfl | ⟨y, rfl⟩
    · refine zgo 8 [] ?_
      repeat' (first
        | (exact f20)
        | (show vp_in _ _; simp (disch := first | omega | decide) only [hln, zcn, zkpl, zki, zki1, zk8, zk16, zo32, zlt0, zle0, zeq0, zgt0, zLe0, nI_ltI, nI_leI, nI_eq, nI_add, nI_clamp, vp_in_nI, zup_s, zup_n, upd_s, upd_n, ne_eq, not_true_eq_false, not_false_eq_true]; done)
        | (intro hc; exfalso; simp (disch := first | omega | decide) only [hln, zcn, zkpl, zki, zki1, zk8, zk16, zo32, zlt0, zle0, zeq0, zgt0, zLe0, nI_ltI, nI_leI, nI_eq, nI_add, nI_clamp, vp_in_nI, zup_s, zup_n, upd_s, upd_n, ne_eq, not_true_eq_false, not_false_eq_true] at hc <;> omega)
        | (intro hc; exact absurd rfl hc)
        | intro hc
        | apply And.intro
        | exact Or.inl rfl
        | exact Or.inr rfl
        | (show (_ : Int32) = 0 ∨ _ = 1; simp (disch := first | omega | decide) only [hln, zcn, zkpl, zki, zki1, zk8, zk16, zo32, zlt0, zle0, zeq0, zgt0, zLe0, nI_ltI, nI_leI, nI_eq, nI_add, nI_clamp, vp_in_nI, zup_s, zup_n, upd_s, upd_n, ne_eq, not_true_eq_false, not_false_eq_true, zeq1, true_or, or_true]; done))
    · refine zgo 8 [] ?_
      repeat' (first
        | (exact f20)
        | (show vp_in _ _; simp (disch := first | omega | decide) only [hln, zcn, zkpl, zki, zki1, zk8, zk16, zo32, zlt0, zle0, zeq0, zgt0, zLe0, nI_ltI, nI_leI, nI_eq, nI_add, nI_clamp, vp_in_nI, zup_s, zup_n, upd_s, upd_n, ne_eq, not_true_eq_false, not_false_eq_true]; done)
        | (intro hc; exfalso; simp (disch := first | omega | decide) only [hln, zcn, zkpl, zki, zki1, zk8, zk16, zo32, zlt0, zle0, zeq0, zgt0, zLe0, nI_ltI, nI_leI, nI_eq, nI_add, nI_clamp, vp_in_nI, zup_s, zup_n, upd_s, upd_n, ne_eq, not_true_eq_false, not_false_eq_true] at hc <;> omega)
        | (intro hc; exact absurd rfl hc)
        | intro hc
        | apply And.intro
        | exact Or.inl rfl
        | exact Or.inr rfl
        | (show (_ : Int32) = 0 ∨ _ = 1; simp (disch := first | omega | decide) only [hln, zcn, zkpl, zki, zki1, zk8, zk16, zo32, zlt0, zle0, zeq0, zgt0, zLe0, nI_ltI, nI_leI, nI_eq, nI_add, nI_clamp, vp_in_nI, zup_s, zup_n, upd_s, upd_n, ne_eq, not_true_eq_false, not_false_eq_true, zeq1, true_or, or_true]; done))
theorem ev_ar3 {p c : Nat} {m : zM} (hp : p + 4 ≤ 19) {X : Nat → List Nat} {V : Nat → Int32} (hX : ∀ i, 1 ≤ i → i < 4 → vtx (rl 3 i) (V i) (X i)) (h : m 14 4 = nI c) (hc' : c + (rtx 3 X 4 0).length ≤ 240) (hV : ∀ i, 1 ≤ i → i < 4 → m 13 (p + i) = V i) : Ev 11 [.ref 17, .ref 11, .int (nI p), .ref 1000013] m none (cA m c (rtx 3 X 4 0)) := by
  intro Q hQ
  have W := ar_loop3 hp hX Q 4 0 m c _ (by omega) h hc' hV (Or.inl rfl) hQ
  refine zgo 5 [] ?_
  exact W
