/-! a leaf written by the model -/
theorem uV_A {u : zM} {s : pS} {e b l : Nat} (h : uV u s e b l) (c : Nat) (xs : List Nat) : uV (uA u c xs) s e b l := by
  obtain ⟨h1, h2, h3, h4, h5⟩ := h
  unfold uV
  rw [uA_far (by decide) (by decide), uA_far (by decide) (by decide), uA_far (by decide) (by decide)]
  exact ⟨h1, h2, h3, h4, h5⟩
def lfT (s : pS) (e : Nat) (xs : List Nat) : Prop := ((s 2 e = 83 ∨ s 2 e = 65) ∧ ∃ v, AM (s 8) (tb s e) (vlen s e) v ∧ xs = amT v) ∨ (s 2 e = 78 ∧ (1 ≤ vlen s e ∧ vlen s e ≤ 2 ∧ dOK (s 8) (tb s e) (vlen s e)) ∧ xs = nda (dvl (s 8) (vlen s e) 0 (tb s e)) 5) ∨ (s 2 e ≠ 83 ∧ s 2 e ≠ 65 ∧ s 2 e ≠ 78 ∧ vlen s e ≤ 9 ∧ xs = txt s e)
theorem tail188 {u : zM} {c l e : Nat} {y x : Int32} (h : u 42 34 = nI c) (hc' : c + 4 ≤ 300) (Q : zQ) (hQ : Q none (SH, uA u c [60, 47, l, 62])) : ZW 188 (0, 0, 0, 0) 151 [(4, .int x), (3, .int y), (2, .int (nI l)), (0, .ref 42), (1, .int (nI e))] [] (SH, u) Q := by
  have s1 := es_tE (l := l) h hc'
  have f157 : ZW 188 (0, 0, 0, 0) 157 [(4, .int x), (3, .int y), (2, .int (nI l)), (0, .ref 42), (1, .int (nI e))] [] (SH, uA u c [60, 47, l, 62]) Q := by
    refine zgo 2 [] ?_
    exact hQ
  refine zgo 5 [] ?_
  repeat' (first
    | (exact s1.use f157)
    | (show vp_in _ _; simp (disch := first | omega | decide) only [zcn, zkpl, zki, zki1, zk8, zk16, zo32, zlt0, zle0, zeq0, zgt0, zLe0, nI_ltI, nI_leI, nI_eq, nI_add, nI_clamp, vp_in_nI, zup_s, zup_n, upd_s, upd_n, ne_eq, not_true_eq_false, not_false_eq_true]; done)
    | (intro hc; exfalso; simp (disch := first | omega | decide) only [zcn, zkpl, zki, zki1, zk8, zk16, zo32, zlt0, zle0, zeq0, zgt0, zLe0, nI_ltI, nI_leI, nI_eq, nI_add, nI_clamp, vp_in_nI, zup_s, zup_n, upd_s, upd_n, ne_eq, not_true_eq_false, not_false_eq_true] at hc <;> omega)
    | (intro hc; exact absurd rfl hc)
    | intro hc
    | apply And.intro
    | exact Or.inl rfl
    | exact Or.inr rfl
    | (show (_ : Int32) = 0 ∨ _ = 1; simp (disch := first | omega | decide) only [zcn, zkpl, zki, zki1, zk8, zk16, zo32, zlt0, zle0, zeq0, zgt0, zLe0, nI_ltI, nI_leI, nI_eq, nI_add, nI_clamp, vp_in_nI, zup_s, zup_n, upd_s, upd_n, ne_eq, not_true_eq_false, not_false_eq_true, zeq1, true_or, or_true]; done))
set_option maxRecDepth 4000 in
theorem es_lfO {u : zM} {s : pS} {e c : Nat} {xs : List Nat} (hV : uV u s e (tb s e) (vlen s e)) (h44 : u 44 e = nI (s 2 e)) (hl : s 2 e ≤ 122) (h : u 42 34 = nI c) (hc' : c + 20 ≤ 300) (hx : lfT s e xs) : Ev 188 [.ref 42, .int (nI e)] u none (uA u c ([60, s 2 e, 62] ++ (xs ++ [60, 47, s 2 e, 62]))) := by
  have he : e < 100 := hV.2.2.2.2.2
  have e44 : u 44 (nI e).toNatClampNeg = nI (s 2 e) := by
    simp (disch := first | omega | decide) only [h44, zcn, zkpl, zki, zki1, zk8, zk16, zo32, zlt0, zle0, zeq0, zgt0, zLe0, nI_ltI, nI_leI, nI_eq, nI_add, nI_clamp, vp_in_nI, zup_s, zup_n, upd_s, upd_n, ne_eq, not_true_eq_false, not_false_eq_true]
  intro Q hQ
  rw [← uA_app, ← uA_app] at hQ
  have l3 : ([60, s 2 e, 62] : List Nat).length = 3 := rfl
  rw [l3] at hQ
  have s1 := es_tB (l := s 2 e) h (by omega)
  have h1 := uA_cnt h [60, s 2 e, 62]
  rw [l3] at h1
  have V1 := uV_A hV c [60, s 2 e, 62]
  suffices f7 : ZW 188 (0, 0, 0, 0) 7 [(2, .int (nI (s 2 e))), (0, .ref 42), (1, .int (nI e))] [] (SH, u) Q by
    rw [← e44] at f7
    refine zgo 5 [] ?_
    repeat' (first
      | (exact f7)
      | (show vp_in _ _; simp (disch := first | omega | decide) only [zcn, zkpl, zki, zki1, zk8, zk16, zo32, zlt0, zle0, zeq0, zgt0, zLe0, nI_ltI, nI_leI, nI_eq, nI_add, nI_clamp, vp_in_nI, zup_s, zup_n, upd_s, upd_n, ne_eq, not_true_eq_false, not_false_eq_true]; done)
      | (intro hc; exfalso; simp (disch := first | omega | decide) only [zcn, zkpl, zki, zki1, zk8, zk16, zo32, zlt0, zle0, zeq0, zgt0, zLe0, nI_ltI, nI_leI, nI_eq, nI_add, nI_clamp, vp_in_nI, zup_s, zup_n, upd_s, upd_n, ne_eq, not_true_eq_false, not_false_eq_true] at hc <;> omega)
      | (intro hc; exact absurd rfl hc)
      | intro hc
      | apply And.intro
      | exact Or.inl rfl
      | exact Or.inr rfl
      | (show (_ : Int32) = 0 ∨ _ = 1; simp (disch := first | omega | decide) only [zcn, zkpl, zki, zki1, zk8, zk16, zo32, zlt0, zle0, zeq0, zgt0, zLe0, nI_ltI, nI_leI, nI_eq, nI_add, nI_clamp, vp_in_nI, zup_s, zup_n, upd_s, upd_n, ne_eq, not_true_eq_false, not_false_eq_true, zeq1, true_or, or_true]; done))
  generalize uA u c [60, s 2 e, 62] = u1 at *
  rcases hx with ⟨ha, v, hv, rfl⟩ | ⟨ha, hN, rfl⟩ | ⟨ha1, ha2, ha3, hle, rfl⟩
  · have b9 := AM_le hv
    have E := es_amt V1
    have hln := nda_len (v / 100) 5
    have d1 : nI v / nI 100 = nI (v / 100) := pk_div (by omega) (by decide) (by decide)
    have d2 : nI v / nI 10 = nI (v / 10) := pk_div (by omega) (by decide) (by decide)
    have d3 : nI (v / 10) - nI (v / 10) / nI 10 * nI 10 = nI (v / 10 % 10) := pk_rem (by omega) (by decide) (by decide)
    have d4 : nI v - nI v / nI 10 * nI 10 = nI (v % 10) := pk_rem (by omega) (by decide) (by decide)
    have z100' : ¬ (Int8.ofInt 100).toInt32 = 0 := by decide
    have z10' : ¬ (Int8.ofInt 10).toInt32 = 0 := by decide
    have t1 := es_num (v := v / 100) h1 (by omega) (by omega)
    have h2 := uA_cnt h1 (nda (v / 100) 5)
    have t2 := ua1 46 h2 (by omega) (y := (Int8.ofInt 46).toInt32) (by decide)
    have h3 := uA_cnt h2 [46]
    have t3 := ua1 (48 + v / 10 % 10) h3 (by simp only [List.length_cons, List.length_nil]; omega) (y := (Int8.ofInt 48).toInt32 + (nI v / (Int8.ofInt 10).toInt32 - nI v / (Int8.ofInt 10).toInt32 / (Int8.ofInt 10).toInt32 * (Int8.ofInt 10).toInt32)) (by rw [show (Int8.ofInt 48).toInt32 = nI 48 by decide, show (Int8.ofInt 10).toInt32 = nI 10 by decide, d2, d3, nI_add])
    have h4 := uA_cnt h3 [48 + v / 10 % 10]
    have t4 := ua1 (48 + v % 10) h4 (by simp only [List.length_cons, List.length_nil]; omega) (y := (Int8.ofInt 48).toInt32 + (nI v - nI v / (Int8.ofInt 10).toInt32 * (Int8.ofInt 10).toInt32)) (by rw [show (Int8.ofInt 48).toInt32 = nI 48 by decide, show (Int8.ofInt 10).toInt32 = nI 10 by decide, d4, nI_add])
    have h5 := uA_cnt h4 [48 + v % 10]
    rw [← d1, show nI 100 = (Int8.ofInt 100).toInt32 by decide] at t1
    have em : uA (uA (uA (uA u1 (c + 3) (nda (v / 100) 5)) (c + 3 + (nda (v / 100) 5).length) [46]) (c + 3 + (nda (v / 100) 5).length + [46].length) [48 + v / 10 % 10]) (c + 3 + (nda (v / 100) 5).length + [46].length + [48 + v / 10 % 10].length) [48 + v % 10] = uA u1 (c + 3) (amT v) := by
      have e1 : two (v % 100) = [48 + v / 10 % 10, 48 + v % 10] := by
        unfold two
        rw [show v % 100 / 10 = v / 10 % 10 by omega, show v % 100 % 10 = v % 10 by omega]
      unfold amT
      rw [e1, ← uA_app]
      rfl
    have hlen : c + 3 + (amT v).length = c + 3 + (nda (v / 100) 5).length + [46].length + [48 + v / 10 % 10].length + [48 + v % 10].length := by
      unfold amT two
      rw [List.length_append]
      simp only [List.length_cons, List.length_nil]
      omega
    rw [← em, hlen] at hQ
    have fT := tail188 (l := s 2 e) (e := e) (y := Int32.ofInt 1) (x := nI v) h5 (by simp only [List.length_cons, List.length_nil]; omega) Q hQ
    have f84 : ZW 188 (0, 0, 0, 0) 84 [(4, .int (nI v)), (3, .int (Int32.ofInt 1)), (2, .int (nI (s 2 e))), (0, .ref 42), (1, .int (nI e))] [] (SH, uA (uA (uA (uA u1 (c + 3) (nda (v / 100) 5)) (c + 3 + (nda (v / 100) 5).length) [46]) (c + 3 + (nda (v / 100) 5).length + [46].length) [48 + v / 10 % 10]) (c + 3 + (nda (v / 100) 5).length + [46].length + [48 + v / 10 % 10].length) [48 + v % 10]) Q := by
      refine zgo 1 [] ?_
      exact fT
    have f72 : ZW 188 (0, 0, 0, 0) 72 [(4, .int (nI v)), (3, .int (Int32.ofInt 1)), (2, .int (nI (s 2 e))), (0, .ref 42), (1, .int (nI e))] [] (SH, uA (uA (uA u1 (c + 3) (nda (v / 100) 5)) (c + 3 + (nda (v / 100) 5).length) [46]) (c + 3 + (nda (v / 100) 5).length + [46].length) [48 + v / 10 % 10]) Q := by
      refine zgo 10 [] ?_
      refine ⟨z10', ?_⟩
      repeat' (first
        | (exact t4.use f84)
        | (show vp_in _ _; simp (disch := first | omega | decide) only [zcn, zkpl, zki, zki1, zk8, zk16, zo32, zlt0, zle0, zeq0, zgt0, zLe0, nI_ltI, nI_leI, nI_eq, nI_add, nI_clamp, vp_in_nI, zup_s, zup_n, upd_s, upd_n, ne_eq, not_true_eq_false, not_false_eq_true]; done)
        | (intro hc; exfalso; simp (disch := first | omega | decide) only [zcn, zkpl, zki, zki1, zk8, zk16, zo32, zlt0, zle0, zeq0, zgt0, zLe0, nI_ltI, nI_leI, nI_eq, nI_add, nI_clamp, vp_in_nI, zup_s, zup_n, upd_s, upd_n, ne_eq, not_true_eq_false, not_false_eq_true] at hc <;> omega)
        | (intro hc; exact absurd rfl hc)
        | intro hc
        | apply And.intro
        | exact Or.inl rfl
        | exact Or.inr rfl
        | (show (_ : Int32) = 0 ∨ _ = 1; simp (disch := first | omega | decide) only [zcn, zkpl, zki, zki1, zk8, zk16, zo32, zlt0, zle0, zeq0, zgt0, zLe0, nI_ltI, nI_leI, nI_eq, nI_add, nI_clamp, vp_in_nI, zup_s, zup_n, upd_s, upd_n, ne_eq, not_true_eq_false, not_false_eq_true, zeq1, true_or, or_true]; done))
    have f57 : ZW 188 (0, 0, 0, 0) 57 [(4, .int (nI v)), (3, .int (Int32.ofInt 1)), (2, .int (nI (s 2 e))), (0, .ref 42), (1, .int (nI e))] [] (SH, uA (uA u1 (c + 3) (nda (v / 100) 5)) (c + 3 + (nda (v / 100) 5).length) [46]) Q := by
      refine zgo 10 [] ?_
      refine ⟨z10', z10', ?_⟩
      repeat' (first
        | (exact t3.use f72)
        | (show vp_in _ _; simp (disch := first | omega | decide) only [zcn, zkpl, zki, zki1, zk8, zk16, zo32, zlt0, zle0, zeq0, zgt0, zLe0, nI_ltI, nI_leI, nI_eq, nI_add, nI_clamp, vp_in_nI, zup_s, zup_n, upd_s, upd_n, ne_eq, not_true_eq_false, not_false_eq_true]; done)
        | (intro hc; exfalso; simp (disch := first | omega | decide) only [zcn, zkpl, zki, zki1, zk8, zk16, zo32, zlt0, zle0, zeq0, zgt0, zLe0, nI_ltI, nI_leI, nI_eq, nI_add, nI_clamp, vp_in_nI, zup_s, zup_n, upd_s, upd_n, ne_eq, not_true_eq_false, not_false_eq_true] at hc <;> omega)
        | (intro hc; exact absurd rfl hc)
        | intro hc
        | apply And.intro
        | exact Or.inl rfl
        | exact Or.inr rfl
        | (show (_ : Int32) = 0 ∨ _ = 1; simp (disch := first | omega | decide) only [zcn, zkpl, zki, zki1, zk8, zk16, zo32, zlt0, zle0, zeq0, zgt0, zLe0, nI_ltI, nI_leI, nI_eq, nI_add, nI_clamp, vp_in_nI, zup_s, zup_n, upd_s, upd_n, ne_eq, not_true_eq_false, not_false_eq_true, zeq1, true_or, or_true]; done))
    have f51 : ZW 188 (0, 0, 0, 0) 51 [(4, .int (nI v)), (3, .int (Int32.ofInt 1)), (2, .int (nI (s 2 e))), (0, .ref 42), (1, .int (nI e))] [] (SH, uA u1 (c + 3) (nda (v / 100) 5)) Q := by
      refine zgo 5 [] ?_
      repeat' (first
        | (exact t2.use f57)
        | (show vp_in _ _; simp (disch := first | omega | decide) only [zcn, zkpl, zki, zki1, zk8, zk16, zo32, zlt0, zle0, zeq0, zgt0, zLe0, nI_ltI, nI_leI, nI_eq, nI_add, nI_clamp, vp_in_nI, zup_s, zup_n, upd_s, upd_n, ne_eq, not_true_eq_false, not_false_eq_true]; done)
        | (intro hc; exfalso; simp (disch := first | omega | decide) only [zcn, zkpl, zki, zki1, zk8, zk16, zo32, zlt0, zle0, zeq0, zgt0, zLe0, nI_ltI, nI_leI, nI_eq, nI_add, nI_clamp, vp_in_nI, zup_s, zup_n, upd_s, upd_n, ne_eq, not_true_eq_false, not_false_eq_true] at hc <;> omega)
        | (intro hc; exact absurd rfl hc)
        | intro hc
        | apply And.intro
        | exact Or.inl rfl
        | exact Or.inr rfl
        | (show (_ : Int32) = 0 ∨ _ = 1; simp (disch := first | omega | decide) only [zcn, zkpl, zki, zki1, zk8, zk16, zo32, zlt0, zle0, zeq0, zgt0, zLe0, nI_ltI, nI_leI, nI_eq, nI_add, nI_clamp, vp_in_nI, zup_s, zup_n, upd_s, upd_n, ne_eq, not_true_eq_false, not_false_eq_true, zeq1, true_or, or_true]; done))
    have f40 : ZW 188 (0, 0, 0, 0) 40 [(3, .int (Int32.ofInt 1)), (2, .int (nI (s 2 e))), (0, .ref 42), (1, .int (nI e))] [.int (nI v)] (SH, u1) Q := by
      refine zgo 10 [] ?_
      refine ⟨z100', ?_⟩
      repeat' (first
        | (exact t1.use f51)
        | (show vp_in _ _; simp (disch := first | omega | decide) only [zcn, zkpl, zki, zki1, zk8, zk16, zo32, zlt0, zle0, zeq0, zgt0, zLe0, nI_ltI, nI_leI, nI_eq, nI_add, nI_clamp, vp_in_nI, zup_s, zup_n, upd_s, upd_n, ne_eq, not_true_eq_false, not_false_eq_true]; done)
        | (intro hc; exfalso; simp (disch := first | omega | decide) only [zcn, zkpl, zki, zki1, zk8, zk16, zo32, zlt0, zle0, zeq0, zgt0, zLe0, nI_ltI, nI_leI, nI_eq, nI_add, nI_clamp, vp_in_nI, zup_s, zup_n, upd_s, upd_n, ne_eq, not_true_eq_false, not_false_eq_true] at hc <;> omega)
        | (intro hc; exact absurd rfl hc)
        | intro hc
        | apply And.intro
        | exact Or.inl rfl
        | exact Or.inr rfl
        | (show (_ : Int32) = 0 ∨ _ = 1; simp (disch := first | omega | decide) only [zcn, zkpl, zki, zki1, zk8, zk16, zo32, zlt0, zle0, zeq0, zgt0, zLe0, nI_ltI, nI_leI, nI_eq, nI_add, nI_clamp, vp_in_nI, zup_s, zup_n, upd_s, upd_n, ne_eq, not_true_eq_false, not_false_eq_true, zeq1, true_or, or_true]; done))
    have f37 : ZM 177 0 0 [.ref 42, .int (nI e)] (SH, u1) (fun r h => ZW 188 (0, 0, 0, 0) 40 [(3, .int (Int32.ofInt 1)), (2, .int (nI (s 2 e))), (0, .ref 42), (1, .int (nI e))] (r.toList ++ []) h Q) := by
      refine E _ (fun r hr => ?_)
      rcases hr with ⟨v', g1, rfl⟩ | ⟨_, g⟩
      · rw [AM_u g1 hv]
        exact f40
      · exact absurd ⟨v, hv⟩ g
    have f31 : ZW 188 (0, 0, 0, 0) 31 [(3, .int (Int32.ofInt 1)), (2, .int (nI (s 2 e))), (0, .ref 42), (1, .int (nI e))] [] (SH, u1) Q := by
      refine zgo 10 [] ?_
      repeat' (first
        | (exact f37)
        | (show vp_in _ _; simp (disch := first | omega | decide) only [z10, zcn, zkpl, zki, zki1, zk8, zk16, zo32, zlt0, zle0, zeq0, zgt0, zLe0, nI_ltI, nI_leI, nI_eq, nI_add, nI_clamp, vp_in_nI, zup_s, zup_n, upd_s, upd_n, ne_eq, not_true_eq_false, not_false_eq_true]; done)
        | (intro hc; exfalso; simp (disch := first | omega | decide) only [z10, zcn, zkpl, zki, zki1, zk8, zk16, zo32, zlt0, zle0, zeq0, zgt0, zLe0, nI_ltI, nI_leI, nI_eq, nI_add, nI_clamp, vp_in_nI, zup_s, zup_n, upd_s, upd_n, ne_eq, not_true_eq_false, not_false_eq_true] at hc <;> omega)
        | (intro hc; exact absurd rfl hc)
        | intro hc
        | apply And.intro
        | exact Or.inl rfl
        | exact Or.inr rfl
        | (show (_ : Int32) = 0 ∨ _ = 1; simp (disch := first | omega | decide) only [z10, zcn, zkpl, zki, zki1, zk8, zk16, zo32, zlt0, zle0, zeq0, zgt0, zLe0, nI_ltI, nI_leI, nI_eq, nI_add, nI_clamp, vp_in_nI, zup_s, zup_n, upd_s, upd_n, ne_eq, not_true_eq_false, not_false_eq_true, zeq1, true_or, or_true]; done))
    have f25 : ZW 188 (0, 0, 0, 0) 25 [(3, .int (Int32.ofInt 1)), (2, .int (nI (s 2 e))), (0, .ref 42), (1, .int (nI e))] [] (SH, u) Q := by
      refine zgo 10 [] ?_
      repeat' (first
        | (exact s1.use f31)
        | (show vp_in _ _; simp (disch := first | omega | decide) only [zcn, zkpl, zki, zki1, zk8, zk16, zo32, zlt0, zle0, zeq0, zgt0, zLe0, nI_ltI, nI_leI, nI_eq, nI_add, nI_clamp, vp_in_nI, zup_s, zup_n, upd_s, upd_n, ne_eq, not_true_eq_false, not_false_eq_true]; done)
        | (intro hc; exfalso; simp (disch := first | omega | decide) only [zcn, zkpl, zki, zki1, zk8, zk16, zo32, zlt0, zle0, zeq0, zgt0, zLe0, nI_ltI, nI_leI, nI_eq, nI_add, nI_clamp, vp_in_nI, zup_s, zup_n, upd_s, upd_n, ne_eq, not_true_eq_false, not_false_eq_true] at hc <;> omega)
        | (intro hc; exact absurd rfl hc)
        | intro hc
        | apply And.intro
        | exact Or.inl rfl
        | exact Or.inr rfl
        | (show (_ : Int32) = 0 ∨ _ = 1; simp (disch := first | omega | decide) only [zcn, zkpl, zki, zki1, zk8, zk16, zo32, zlt0, zle0, zeq0, zgt0, zLe0, nI_ltI, nI_leI, nI_eq, nI_add, nI_clamp, vp_in_nI, zup_s, zup_n, upd_s, upd_n, ne_eq, not_true_eq_false, not_false_eq_true, zeq1, true_or, or_true]; done))
    rcases ha with ha | ha
    · rw [ha] at f25 ⊢
      refine zgo 6 [] ?_
      repeat' (first
        | (exact f25)
        | (show vp_in _ _; simp (disch := first | omega | decide) only [zcn, zkpl, zki, zki1, zk8, zk16, zo32, zlt0, zle0, zeq0, zgt0, zLe0, nI_ltI, nI_leI, nI_eq, nI_add, nI_clamp, vp_in_nI, zup_s, zup_n, upd_s, upd_n, ne_eq, not_true_eq_false, not_false_eq_true]; done)
        | (intro hc; exfalso; simp (disch := first | omega | decide) only [zcn, zkpl, zki, zki1, zk8, zk16, zo32, zlt0, zle0, zeq0, zgt0, zLe0, nI_ltI, nI_leI, nI_eq, nI_add, nI_clamp, vp_in_nI, zup_s, zup_n, upd_s, upd_n, ne_eq, not_true_eq_false, not_false_eq_true] at hc <;> omega)
        | (intro hc; exact absurd rfl hc)
        | intro hc
        | apply And.intro
        | exact Or.inl rfl
        | exact Or.inr rfl
        | (show (_ : Int32) = 0 ∨ _ = 1; simp (disch := first | omega | decide) only [zcn, zkpl, zki, zki1, zk8, zk16, zo32, zlt0, zle0, zeq0, zgt0, zLe0, nI_ltI, nI_leI, nI_eq, nI_add, nI_clamp, vp_in_nI, zup_s, zup_n, upd_s, upd_n, ne_eq, not_true_eq_false, not_false_eq_true, zeq1, true_or, or_true]; done))
    · rw [ha] at f25 ⊢
      refine zgo 9 [] ?_
      repeat' (first
        | (exact f25)
        | (show vp_in _ _; simp (disch := first | omega | decide) only [zcn, zkpl, zki, zki1, zk8, zk16, zo32, zlt0, zle0, zeq0, zgt0, zLe0, nI_ltI, nI_leI, nI_eq, nI_add, nI_clamp, vp_in_nI, zup_s, zup_n, upd_s, upd_n, ne_eq, not_true_eq_false, not_false_eq_true]; done)
        | (intro hc; exfalso; simp (disch := first | omega | decide) only [zcn, zkpl, zki, zki1, zk8, zk16, zo32, zlt0, zle0, zeq0, zgt0, zLe0, nI_ltI, nI_leI, nI_eq, nI_add, nI_clamp, vp_in_nI, zup_s, zup_n, upd_s, upd_n, ne_eq, not_true_eq_false, not_false_eq_true] at hc <;> omega)
        | (intro hc; exact absurd rfl hc)
        | intro hc
        | apply And.intro
        | exact Or.inl rfl
        | exact Or.inr rfl
        | (show (_ : Int32) = 0 ∨ _ = 1; simp (disch := first | omega | decide) only [zcn, zkpl, zki, zki1, zk8, zk16, zo32, zlt0, zle0, zeq0, zgt0, zLe0, nI_ltI, nI_leI, nI_eq, nI_add, nI_clamp, vp_in_nI, zup_s, zup_n, upd_s, upd_n, ne_eq, not_true_eq_false, not_false_eq_true, zeq1, true_or, or_true]; done))
  · have b2 := dvl_b2 hN.2.2 hN.2.1
    have e48 : u1 48 (nI e).toNatClampNeg = nI (tb s e) := by
      have := V1.2.2.1
      simp (disch := first | omega | decide) only [this, zcn, zkpl, zki, zki1, zk8, zk16, zo32, zlt0, zle0, zeq0, zgt0, zLe0, nI_ltI, nI_leI, nI_eq, nI_add, nI_clamp, vp_in_nI, zup_s, zup_n, upd_s, upd_n, ne_eq, not_true_eq_false, not_false_eq_true]
    have sm := es_small V1 (x := nI e) (y := u1 48 (nI e).toNatClampNeg) (r := nI (dvl (s 8) (vlen s e) 0 (tb s e))) (tb s e) rfl e48 (by omega) (by omega) (by rw [Nat.add_sub_cancel_left]; exact Or.inl ⟨rfl, hN⟩)
    have hln := nda_len (dvl (s 8) (vlen s e) 0 (tb s e)) 5
    generalize dvl (s 8) (vlen s e) 0 (tb s e) = v at *
    have t1 := es_num (v := v) h1 (by omega) (by omega)
    have h2 := uA_cnt h1 (nda v 5)
    have fT := tail188 (l := s 2 e) (e := e) (y := Int32.ofInt 0) (x := nI v) h2 (by omega) Q hQ
    have f112 : ZW 188 (0, 0, 0, 0) 112 [(4, .int (nI v)), (3, .int (Int32.ofInt 0)), (2, .int (nI (s 2 e))), (0, .ref 42), (1, .int (nI e))] [] (SH, uA u1 (c + 3) (nda v 5)) Q := by
      refine zgo 1 [] ?_
      exact fT
    have f104 : ZW 188 (0, 0, 0, 0) 104 [(3, .int (Int32.ofInt 0)), (2, .int (nI (s 2 e))), (0, .ref 42), (1, .int (nI e))] [.int (nI v)] (SH, u1) Q := by
      refine zgo 10 [] ?_
      repeat' (first
        | (exact t1.use f112)
        | (show vp_in _ _; simp (disch := first | omega | decide) only [zcn, zkpl, zki, zki1, zk8, zk16, zo32, zlt0, zle0, zeq0, zgt0, zLe0, nI_ltI, nI_leI, nI_eq, nI_add, nI_clamp, vp_in_nI, zup_s, zup_n, upd_s, upd_n, ne_eq, not_true_eq_false, not_false_eq_true]; done)
        | (intro hc; exfalso; simp (disch := first | omega | decide) only [zcn, zkpl, zki, zki1, zk8, zk16, zo32, zlt0, zle0, zeq0, zgt0, zLe0, nI_ltI, nI_leI, nI_eq, nI_add, nI_clamp, vp_in_nI, zup_s, zup_n, upd_s, upd_n, ne_eq, not_true_eq_false, not_false_eq_true] at hc <;> omega)
        | (intro hc; exact absurd rfl hc)
        | intro hc
        | apply And.intro
        | exact Or.inl rfl
        | exact Or.inr rfl
        | (show (_ : Int32) = 0 ∨ _ = 1; simp (disch := first | omega | decide) only [zcn, zkpl, zki, zki1, zk8, zk16, zo32, zlt0, zle0, zeq0, zgt0, zLe0, nI_ltI, nI_leI, nI_eq, nI_add, nI_clamp, vp_in_nI, zup_s, zup_n, upd_s, upd_n, ne_eq, not_true_eq_false, not_false_eq_true, zeq1, true_or, or_true]; done))
    rw [ha] at f104 s1 ⊢
    have f31 : ZW 188 (0, 0, 0, 0) 31 [(3, .int (Int32.ofInt 0)), (2, .int (nI 78)), (0, .ref 42), (1, .int (nI e))] [] (SH, u1) Q := by
      refine zgo 20 [] ?_
      repeat' (first
        | (exact sm.use f104)
        | (show vp_in _ _; simp (disch := first | omega | decide) only [zcn, zkpl, zki, zki1, zk8, zk16, zo32, zlt0, zle0, zeq0, zgt0, zLe0, nI_ltI, nI_leI, nI_eq, nI_add, nI_clamp, vp_in_nI, zup_s, zup_n, upd_s, upd_n, ne_eq, not_true_eq_false, not_false_eq_true]; done)
        | (intro hc; exfalso; simp (disch := first | omega | decide) only [zcn, zkpl, zki, zki1, zk8, zk16, zo32, zlt0, zle0, zeq0, zgt0, zLe0, nI_ltI, nI_leI, nI_eq, nI_add, nI_clamp, vp_in_nI, zup_s, zup_n, upd_s, upd_n, ne_eq, not_true_eq_false, not_false_eq_true] at hc <;> omega)
        | (intro hc; exact absurd rfl hc)
        | intro hc
        | apply And.intro
        | exact Or.inl rfl
        | exact Or.inr rfl
        | (show (_ : Int32) = 0 ∨ _ = 1; simp (disch := first | omega | decide) only [zcn, zkpl, zki, zki1, zk8, zk16, zo32, zlt0, zle0, zeq0, zgt0, zLe0, nI_ltI, nI_leI, nI_eq, nI_add, nI_clamp, vp_in_nI, zup_s, zup_n, upd_s, upd_n, ne_eq, not_true_eq_false, not_false_eq_true, zeq1, true_or, or_true]; done))
    have f25 : ZW 188 (0, 0, 0, 0) 25 [(3, .int (Int32.ofInt 0)), (2, .int (nI 78)), (0, .ref 42), (1, .int (nI e))] [] (SH, u) Q := by
      refine zgo 10 [] ?_
      repeat' (first
        | (exact s1.use f31)
        | (show vp_in _ _; simp (disch := first | omega | decide) only [zcn, zkpl, zki, zki1, zk8, zk16, zo32, zlt0, zle0, zeq0, zgt0, zLe0, nI_ltI, nI_leI, nI_eq, nI_add, nI_clamp, vp_in_nI, zup_s, zup_n, upd_s, upd_n, ne_eq, not_true_eq_false, not_false_eq_true]; done)
        | (intro hc; exfalso; simp (disch := first | omega | decide) only [zcn, zkpl, zki, zki1, zk8, zk16, zo32, zlt0, zle0, zeq0, zgt0, zLe0, nI_ltI, nI_leI, nI_eq, nI_add, nI_clamp, vp_in_nI, zup_s, zup_n, upd_s, upd_n, ne_eq, not_true_eq_false, not_false_eq_true] at hc <;> omega)
        | (intro hc; exact absurd rfl hc)
        | intro hc
        | apply And.intro
        | exact Or.inl rfl
        | exact Or.inr rfl
        | (show (_ : Int32) = 0 ∨ _ = 1; simp (disch := first | omega | decide) only [zcn, zkpl, zki, zki1, zk8, zk16, zo32, zlt0, zle0, zeq0, zgt0, zLe0, nI_ltI, nI_leI, nI_eq, nI_add, nI_clamp, vp_in_nI, zup_s, zup_n, upd_s, upd_n, ne_eq, not_true_eq_false, not_false_eq_true, zeq1, true_or, or_true]; done))
    refine zgo 8 [] ?_
    repeat' (first
      | (exact f25)
      | (show vp_in _ _; simp (disch := first | omega | decide) only [zcn, zkpl, zki, zki1, zk8, zk16, zo32, zlt0, zle0, zeq0, zgt0, zLe0, nI_ltI, nI_leI, nI_eq, nI_add, nI_clamp, vp_in_nI, zup_s, zup_n, upd_s, upd_n, ne_eq, not_true_eq_false, not_false_eq_true]; done)
      | (intro hc; exfalso; simp (disch := first | omega | decide) only [zcn, zkpl, zki, zki1, zk8, zk16, zo32, zlt0, zle0, zeq0, zgt0, zLe0, nI_ltI, nI_leI, nI_eq, nI_add, nI_clamp, vp_in_nI, zup_s, zup_n, upd_s, upd_n, ne_eq, not_true_eq_false, not_false_eq_true] at hc <;> omega)
      | (intro hc; exact absurd rfl hc)
      | intro hc
      | apply And.intro
      | exact Or.inl rfl
      | exact Or.inr rfl
      | (show (_ : Int32) = 0 ∨ _ = 1; simp (disch := first | omega | decide) only [zcn, zkpl, zki, zki1, zk8, zk16, zo32, zlt0, zle0, zeq0, zgt0, zLe0, nI_ltI, nI_leI, nI_eq, nI_add, nI_clamp, vp_in_nI, zup_s, zup_n, upd_s, upd_n, ne_eq, not_true_eq_false, not_false_eq_true, zeq1, true_or, or_true]; done))
  · have e48 : u1 48 (nI e).toNatClampNeg = nI (tb s e) := by
      have := V1.2.2.1
      simp (disch := first | omega | decide) only [this, zcn, zkpl, zki, zki1, zk8, zk16, zo32, zlt0, zle0, zeq0, zgt0, zLe0, nI_ltI, nI_leI, nI_eq, nI_add, nI_clamp, vp_in_nI, zup_s, zup_n, upd_s, upd_n, ne_eq, not_true_eq_false, not_false_eq_true]
    have hlt : (txt s e).length = vlen s e := seg_len _ _
    have h2 := uA_cnt h1 (txt s e)
    have fT := tail188 (l := s 2 e) (e := e) (y := Int32.ofInt 0) (x := nI (tb s e + vlen s e)) h2 (by omega) Q hQ
    have W := ch_lp (y := Int32.ofInt 0) (x := nI (s 2 e)) Q (vlen s e) (tb s e) u1 (c + 3) V1 (Nat.le_refl _) rfl h1 (by omega) fT
    rw [← e48] at W
    have hne : (nI (s 2 e) = nI 78) = False := by
      rw [nI_eq (by omega) (by decide)]
      exact eq_false ha3
    have f31 : ZW 188 (0, 0, 0, 0) 31 [(3, .int (Int32.ofInt 0)), (2, .int (nI (s 2 e))), (0, .ref 42), (1, .int (nI e))] [] (SH, u1) Q := by
      generalize s 2 e = l at *
      refine zgo 20 [] ?_
      repeat' (first
        | (exact W)
        | (show vp_in _ _; simp (disch := first | omega | decide) only [hne, zcn, zkpl, zki, zki1, zk8, zk16, zo32, zlt0, zle0, zeq0, zgt0, zLe0, nI_ltI, nI_leI, nI_eq, nI_add, nI_clamp, vp_in_nI, zup_s, zup_n, upd_s, upd_n, ne_eq, not_true_eq_false, not_false_eq_true]; done)
        | (intro hc; exfalso; simp (disch := first | omega | decide) only [hne, zcn, zkpl, zki, zki1, zk8, zk16, zo32, zlt0, zle0, zeq0, zgt0, zLe0, nI_ltI, nI_leI, nI_eq, nI_add, nI_clamp, vp_in_nI, zup_s, zup_n, upd_s, upd_n, ne_eq, not_true_eq_false, not_false_eq_true] at hc <;> omega)
        | (intro hc; exact absurd rfl hc)
        | intro hc
        | apply And.intro
        | exact Or.inl rfl
        | exact Or.inr rfl
        | (show (_ : Int32) = 0 ∨ _ = 1; simp (disch := first | omega | decide) only [hne, zcn, zkpl, zki, zki1, zk8, zk16, zo32, zlt0, zle0, zeq0, zgt0, zLe0, nI_ltI, nI_leI, nI_eq, nI_add, nI_clamp, vp_in_nI, zup_s, zup_n, upd_s, upd_n, ne_eq, not_true_eq_false, not_false_eq_true, zeq1, true_or, or_true]; done))
    have f25 : ZW 188 (0, 0, 0, 0) 25 [(3, .int (Int32.ofInt 0)), (2, .int (nI (s 2 e))), (0, .ref 42), (1, .int (nI e))] [] (SH, u) Q := by
      refine zgo 10 [] ?_
      repeat' (first
        | (exact s1.use f31)
        | (show vp_in _ _; simp (disch := first | omega | decide) only [zcn, zkpl, zki, zki1, zk8, zk16, zo32, zlt0, zle0, zeq0, zgt0, zLe0, nI_ltI, nI_leI, nI_eq, nI_add, nI_clamp, vp_in_nI, zup_s, zup_n, upd_s, upd_n, ne_eq, not_true_eq_false, not_false_eq_true]; done)
        | (intro hc; exfalso; simp (disch := first | omega | decide) only [zcn, zkpl, zki, zki1, zk8, zk16, zo32, zlt0, zle0, zeq0, zgt0, zLe0, nI_ltI, nI_leI, nI_eq, nI_add, nI_clamp, vp_in_nI, zup_s, zup_n, upd_s, upd_n, ne_eq, not_true_eq_false, not_false_eq_true] at hc <;> omega)
        | (intro hc; exact absurd rfl hc)
        | intro hc
        | apply And.intro
        | exact Or.inl rfl
        | exact Or.inr rfl
        | (show (_ : Int32) = 0 ∨ _ = 1; simp (disch := first | omega | decide) only [zcn, zkpl, zki, zki1, zk8, zk16, zo32, zlt0, zle0, zeq0, zgt0, zLe0, nI_ltI, nI_leI, nI_eq, nI_add, nI_clamp, vp_in_nI, zup_s, zup_n, upd_s, upd_n, ne_eq, not_true_eq_false, not_false_eq_true, zeq1, true_or, or_true]; done))
    generalize s 2 e = l at *
    refine zgo 8 [] ?_
    repeat' (first
      | (exact f25)
      | (show vp_in _ _; simp (disch := first | omega | decide) only [zcn, zkpl, zki, zki1, zk8, zk16, zo32, zlt0, zle0, zeq0, zgt0, zLe0, nI_ltI, nI_leI, nI_eq, nI_add, nI_clamp, vp_in_nI, zup_s, zup_n, upd_s, upd_n, ne_eq, not_true_eq_false, not_false_eq_true]; done)
      | (intro hc; exfalso; simp (disch := first | omega | decide) only [zcn, zkpl, zki, zki1, zk8, zk16, zo32, zlt0, zle0, zeq0, zgt0, zLe0, nI_ltI, nI_leI, nI_eq, nI_add, nI_clamp, vp_in_nI, zup_s, zup_n, upd_s, upd_n, ne_eq, not_true_eq_false, not_false_eq_true] at hc <;> omega)
      | (intro hc; exact absurd rfl hc)
      | intro hc
      | apply And.intro
      | exact Or.inl rfl
      | exact Or.inr rfl
      | (show (_ : Int32) = 0 ∨ _ = 1; simp (disch := first | omega | decide) only [zcn, zkpl, zki, zki1, zk8, zk16, zo32, zlt0, zle0, zeq0, zgt0, zLe0, nI_ltI, nI_leI, nI_eq, nI_add, nI_clamp, vp_in_nI, zup_s, zup_n, upd_s, upd_n, ne_eq, not_true_eq_false, not_false_eq_true, zeq1, true_or, or_true]; done))
