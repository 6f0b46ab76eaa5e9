/-! work -/
theorem ev_avail {m : zM} {d : Nat} (hd : d < 4) : Ev 1 [.ref 19, .int (nI d)] m (some (.int (m 20 d - m 21 d + m 19 0))) m := by
  have h2 : Ev 2 [.ref 19, .int (nI d)] m (some (.int (m 20 d))) m := by
    intro Q hQ
    refine zgo 20 [8] ?_
    repeat' (first
      | (show vp_in _ _; simp (disch := first | omega | decide) only [zcn, zkpl, zki, zki1, zk8, zk16, zo32, zlt0, zle0, zeq0, zgt0, zLe0, nI_ltI, nI_leI, nI_eq, nI_add, nI_clamp, vp_in_nI, zup_s, zup_n, upd_s, upd_n, ne_eq, not_true_eq_false, not_false_eq_true]; done)
      | (intro hc; exfalso; simp (disch := first | omega | decide) only [zcn, zkpl, zki, zki1, zk8, zk16, zo32, zlt0, zle0, zeq0, zgt0, zLe0, nI_ltI, nI_leI, nI_eq, nI_add, nI_clamp, vp_in_nI, zup_s, zup_n, upd_s, upd_n, ne_eq, not_true_eq_false, not_false_eq_true] at hc <;> omega)
      | (intro hc; exact absurd rfl hc)
      | intro hc
      | apply And.intro
      | exact hQ
      | (show Q _ (SH, _); simp (disch := first | omega | decide) only [zcn, zkpl, zki, zki1, zk8, zk16, zo32, zlt0, zle0, zeq0, zgt0, zLe0, nI_ltI, nI_leI, nI_eq, nI_add, nI_clamp, vp_in_nI, zup_s, zup_n, upd_s, upd_n, ne_eq, not_true_eq_false, not_false_eq_true]; exact hQ)
      | exact Or.inl rfl
      | exact Or.inr rfl
      | (show (_ : Int32) = 0 ∨ _ = 1; simp (disch := first | omega | decide) only [zcn, zkpl, zki, zki1, zk8, zk16, zo32, zlt0, zle0, zeq0, zgt0, zLe0, nI_ltI, nI_leI, nI_eq, nI_add, nI_clamp, vp_in_nI, zup_s, zup_n, upd_s, upd_n, ne_eq, not_true_eq_false, not_false_eq_true, zeq1, true_or, or_true]; done))
  have h3 : Ev 3 [.ref 19, .int (nI d)] m (some (.int (m 21 d))) m := by
    intro Q hQ
    refine zgo 20 [8] ?_
    repeat' (first
      | (show vp_in _ _; simp (disch := first | omega | decide) only [zcn, zkpl, zki, zki1, zk8, zk16, zo32, zlt0, zle0, zeq0, zgt0, zLe0, nI_ltI, nI_leI, nI_eq, nI_add, nI_clamp, vp_in_nI, zup_s, zup_n, upd_s, upd_n, ne_eq, not_true_eq_false, not_false_eq_true]; done)
      | (intro hc; exfalso; simp (disch := first | omega | decide) only [zcn, zkpl, zki, zki1, zk8, zk16, zo32, zlt0, zle0, zeq0, zgt0, zLe0, nI_ltI, nI_leI, nI_eq, nI_add, nI_clamp, vp_in_nI, zup_s, zup_n, upd_s, upd_n, ne_eq, not_true_eq_false, not_false_eq_true] at hc <;> omega)
      | (intro hc; exact absurd rfl hc)
      | intro hc
      | apply And.intro
      | exact hQ
      | (show Q _ (SH, _); simp (disch := first | omega | decide) only [zcn, zkpl, zki, zki1, zk8, zk16, zo32, zlt0, zle0, zeq0, zgt0, zLe0, nI_ltI, nI_leI, nI_eq, nI_add, nI_clamp, vp_in_nI, zup_s, zup_n, upd_s, upd_n, ne_eq, not_true_eq_false, not_false_eq_true]; exact hQ)
      | exact Or.inl rfl
      | exact Or.inr rfl
      | (show (_ : Int32) = 0 ∨ _ = 1; simp (disch := first | omega | decide) only [zcn, zkpl, zki, zki1, zk8, zk16, zo32, zlt0, zle0, zeq0, zgt0, zLe0, nI_ltI, nI_leI, nI_eq, nI_add, nI_clamp, vp_in_nI, zup_s, zup_n, upd_s, upd_n, ne_eq, not_true_eq_false, not_false_eq_true, zeq1, true_or, or_true]; done))
  intro Q hQ
  refine zgo 20 [] ?_
  refine h2.use ?_
  refine zgo 20 [] ?_
  refine h3.use ?_
  refine zgo 20 [] ?_
  exact hQ
theorem ev_pay {m : zM} {n t d : Nat} (hm : m 28 6 = nI n) (hn : n ≤ 20) (ht : t < n) (hd : d < 4) (hdb : m 31 t = nI d) {b : Int32} (h : (b = 1 ∧ ¬ m 20 d - m 21 d + m 19 0 < m 30 t) ∨ (b = 0 ∧ m 20 d - m 21 d + m 19 0 < m 30 t)) : Ev 21 [.ref 18, .int (nI t)] m (some (.int b)) m := by
  intro Q hQ
  refine zgo 20 [] ?_
  refine (ev_amountOf hm hn ht).use ?_
  refine zgo 20 [] ?_
  refine (ev_debtorOf hm hn ht).use ?_
  rw [hdb]
  refine zgo 20 [] ?_
  refine (ev_avail hd).use ?_
  rcases h with ⟨rfl, h⟩ | ⟨rfl, h⟩
  · have h1 : (m 20 d - m 21 d + m 19 0 < m 30 t) = False := eq_false h
    refine zgo 20 [] ?_
    repeat' (first
      | (show vp_in _ _; simp (disch := first | omega | decide) only [h1, zcn, zkpl, zki, zki1, zk8, zk16, zo32, zlt0, zle0, zeq0, zgt0, zLe0, nI_ltI, nI_leI, nI_eq, nI_add, nI_clamp, vp_in_nI, zup_s, zup_n, upd_s, upd_n, ne_eq, not_true_eq_false, not_false_eq_true]; done)
      | (intro hc; exfalso; simp (disch := first | omega | decide) only [h1, zcn, zkpl, zki, zki1, zk8, zk16, zo32, zlt0, zle0, zeq0, zgt0, zLe0, nI_ltI, nI_leI, nI_eq, nI_add, nI_clamp, vp_in_nI, zup_s, zup_n, upd_s, upd_n, ne_eq, not_true_eq_false, not_false_eq_true] at hc <;> omega)
      | (intro hc; exact absurd rfl hc)
      | intro hc
      | apply And.intro
      | exact hQ
      | (show Q _ (SH, _); simp (disch := first | omega | decide) only [h1, zcn, zkpl, zki, zki1, zk8, zk16, zo32, zlt0, zle0, zeq0, zgt0, zLe0, nI_ltI, nI_leI, nI_eq, nI_add, nI_clamp, vp_in_nI, zup_s, zup_n, upd_s, upd_n, ne_eq, not_true_eq_false, not_false_eq_true]; exact hQ)
      | exact Or.inl rfl
      | exact Or.inr rfl
      | (show (_ : Int32) = 0 ∨ _ = 1; simp (disch := first | omega | decide) only [h1, zcn, zkpl, zki, zki1, zk8, zk16, zo32, zlt0, zle0, zeq0, zgt0, zLe0, nI_ltI, nI_leI, nI_eq, nI_add, nI_clamp, vp_in_nI, zup_s, zup_n, upd_s, upd_n, ne_eq, not_true_eq_false, not_false_eq_true, zeq1, true_or, or_true]; done))
  · have h1 : (m 20 d - m 21 d + m 19 0 < m 30 t) = True := eq_true h
    refine zgo 20 [] ?_
    repeat' (first
      | (show vp_in _ _; simp (disch := first | omega | decide) only [h1, zcn, zkpl, zki, zki1, zk8, zk16, zo32, zlt0, zle0, zeq0, zgt0, zLe0, nI_ltI, nI_leI, nI_eq, nI_add, nI_clamp, vp_in_nI, zup_s, zup_n, upd_s, upd_n, ne_eq, not_true_eq_false, not_false_eq_true]; done)
      | (intro hc; exfalso; simp (disch := first | omega | decide) only [h1, zcn, zkpl, zki, zki1, zk8, zk16, zo32, zlt0, zle0, zeq0, zgt0, zLe0, nI_ltI, nI_leI, nI_eq, nI_add, nI_clamp, vp_in_nI, zup_s, zup_n, upd_s, upd_n, ne_eq, not_true_eq_false, not_false_eq_true] at hc <;> omega)
      | (intro hc; exact absurd rfl hc)
      | intro hc
      | apply And.intro
      | exact hQ
      | (show Q _ (SH, _); simp (disch := first | omega | decide) only [h1, zcn, zkpl, zki, zki1, zk8, zk16, zo32, zlt0, zle0, zeq0, zgt0, zLe0, nI_ltI, nI_leI, nI_eq, nI_add, nI_clamp, vp_in_nI, zup_s, zup_n, upd_s, upd_n, ne_eq, not_true_eq_false, not_false_eq_true]; exact hQ)
      | exact Or.inl rfl
      | exact Or.inr rfl
      | (show (_ : Int32) = 0 ∨ _ = 1; simp (disch := first | omega | decide) only [h1, zcn, zkpl, zki, zki1, zk8, zk16, zo32, zlt0, zle0, zeq0, zgt0, zLe0, nI_ltI, nI_leI, nI_eq, nI_add, nI_clamp, vp_in_nI, zup_s, zup_n, upd_s, upd_n, ne_eq, not_true_eq_false, not_false_eq_true, zeq1, true_or, or_true]; done))
theorem ev_fq {m : zM} {q : Nat} (hq : m 28 8 = nI q) (h1 : 1 ≤ q) (h2 : q ≤ 20) : Ev 99 [.ref 28] m (some (.int (m 35 0))) m := by
  intro Q hQ
  refine zgo 40 [100] ?_
  repeat' (first
    | (show vp_in _ _; simp (disch := first | omega | decide) only [hq, zcn, zkpl, zki, zki1, zk8, zk16, zo32, zlt0, zle0, zeq0, zgt0, zLe0, nI_ltI, nI_leI, nI_eq, nI_add, nI_clamp, vp_in_nI, zup_s, zup_n, upd_s, upd_n, ne_eq, not_true_eq_false, not_false_eq_true]; done)
    | (intro hc; exfalso; simp (disch := first | omega | decide) only [hq, zcn, zkpl, zki, zki1, zk8, zk16, zo32, zlt0, zle0, zeq0, zgt0, zLe0, nI_ltI, nI_leI, nI_eq, nI_add, nI_clamp, vp_in_nI, zup_s, zup_n, upd_s, upd_n, ne_eq, not_true_eq_false, not_false_eq_true] at hc <;> omega)
    | (intro hc; exact absurd rfl hc)
    | intro hc
    | apply And.intro
    | exact hQ
    | (show Q _ (SH, _); simp (disch := first | omega | decide) only [hq, zcn, zkpl, zki, zki1, zk8, zk16, zo32, zlt0, zle0, zeq0, zgt0, zLe0, nI_ltI, nI_leI, nI_eq, nI_add, nI_clamp, vp_in_nI, zup_s, zup_n, upd_s, upd_n, ne_eq, not_true_eq_false, not_false_eq_true]; exact hQ)
    | exact Or.inl rfl
    | exact Or.inr rfl
    | (show (_ : Int32) = 0 ∨ _ = 1; simp (disch := first | omega | decide) only [hq, zcn, zkpl, zki, zki1, zk8, zk16, zo32, zlt0, zle0, zeq0, zgt0, zLe0, nI_ltI, nI_leI, nI_eq, nI_add, nI_clamp, vp_in_nI, zup_s, zup_n, upd_s, upd_n, ne_eq, not_true_eq_false, not_false_eq_true, zeq1, true_or, or_true]; done))
theorem ev_len {m : zM} : Ev 54 [.ref 14] m (some (.int (m 14 1))) m := by
  intro Q hQ
  refine zgo 40 [] ?_
  exact hQ
theorem ev_bo {u : zM} {s : Nat} (x : Int32) (h : u 42 34 = nI s) (hs : s < 400) : Ev 185 [.ref 42, .int x] u none (zup (zup u 57 s x) 42 34 (nI (s + 1))) := by
  intro Q hQ
  refine zgo 40 [] ?_
  repeat' (first
    | (show vp_in _ _; simp (disch := first | omega | decide) only [h, zcn, zkpl, zki, zki1, zk8, zk16, zo32, zlt0, zle0, zeq0, zgt0, zLe0, nI_ltI, nI_leI, nI_eq, nI_add, nI_clamp, vp_in_nI, zup_s, zup_n, upd_s, upd_n, ne_eq, not_true_eq_false, not_false_eq_true]; done)
    | (intro hc; exfalso; simp (disch := first | omega | decide) only [h, zcn, zkpl, zki, zki1, zk8, zk16, zo32, zlt0, zle0, zeq0, zgt0, zLe0, nI_ltI, nI_leI, nI_eq, nI_add, nI_clamp, vp_in_nI, zup_s, zup_n, upd_s, upd_n, ne_eq, not_true_eq_false, not_false_eq_true] at hc <;> omega)
    | (intro hc; exact absurd rfl hc)
    | intro hc
    | apply And.intro
    | exact hQ
    | (show Q _ (SH, _); simp (disch := first | omega | decide) only [h, zcn, zkpl, zki, zki1, zk8, zk16, zo32, zlt0, zle0, zeq0, zgt0, zLe0, nI_ltI, nI_leI, nI_eq, nI_add, nI_clamp, vp_in_nI, zup_s, zup_n, upd_s, upd_n, ne_eq, not_true_eq_false, not_false_eq_true]; exact hQ)
    | exact Or.inl rfl
    | exact Or.inr rfl
    | (show (_ : Int32) = 0 ∨ _ = 1; simp (disch := first | omega | decide) only [h, zcn, zkpl, zki, zki1, zk8, zk16, zo32, zlt0, zle0, zeq0, zgt0, zLe0, nI_ltI, nI_leI, nI_eq, nI_add, nI_clamp, vp_in_nI, zup_s, zup_n, upd_s, upd_n, ne_eq, not_true_eq_false, not_false_eq_true, zeq1, true_or, or_true]; done))
/-- what a whole record keeps of the ledger's guards when only queue and statuses change -/
theorem mlv_mF {u : zM} {n t : Nat} {x : Int32} : mF u (zup (mlv u n) 64 t x) := by
  unfold mlv
  exact (((mF.rf u).shl (by decide) (by decide)).fld (by omega)).up (by decide) (by decide)
theorem op_wait {m : zM} {J : Nat → Nat} {n nT nQ nR nM t : Nat} (h : IX m m J n n 0 nT nQ nR nM) (hn5 : n < 5000) (hq1 : 1 ≤ nQ) (ht : t < nT) (h0 : m 35 0 = nI t) : ∃ r m1 u' J' n' W' d' nQ', Ev 148 [.ref 0, .int (nI t)] m (some (.int r)) m1 ∧ (∀ a, 42 ≤ a → m1 a = m a) ∧ Ev 191 [.ref 42, .int (nI 87), .int (nI t)] m1 (some (.int (if r = -9 then 0 else 1))) u' ∧ (r = -9 ∨ r = nI (100 + t)) ∧ IX u' u' J' n' W' d' nT nQ' nR nM ∧ keep m u' := by
  obtain ⟨⟨t1, t2, t3⟩, ⟨q1, q2, q3⟩, -, -, -⟩ := id h.l
  rcases wn_c h (kd := 87) (v := t) (by decide) (by omega) (by omega) with ⟨m2, e1, e2⟩ | ⟨m2, c, e1, e2⟩
  · have hl2 : lR m m2 nT nQ nR nM := lR_congr h.l (fun a g1 g2 _ => e2.far a (by omega) (by omega) (by omega)) (fun _ _ _ => rfl) (fun _ _ => rfl)
    have hg := gW_congr h.g (m' := m2) (fun a g1 g2 g3 => e2.far a (by omega) (by omega) (by omega))
    have e0 : m2 35 0 = nI t := by rw [e2.far 35 (by decide) (by decide) (by decide), h0]
    have hL := LR_leave (s := 2) (Or.inl rfl) ⟨hl2, hg.1⟩ ht hq1 e0
    have far' : ∀ a, a ≠ 33 → a ≠ 35 → a ≠ 28 → clw m2 nQ t a = m2 a := fun a g1 g2 g3 => by
      unfold clw
      rw [zup_n _ g1, zdq_far g2 g3]
    have far2 : ∀ a, a ≠ 33 → a ≠ 35 → a ≠ 28 → a ≠ 14 → a ≠ 15 → a ≠ 16 → clw m2 nQ t a = m a := fun a g1 g2 g3 g4 g5 g6 => by rw [far' a g1 g2 g3, e2.far a g4 g5 g6]
    have g1' : gW (clw m2 nQ t) nT (nQ - 1) nR nM (n + 4) := by
      refine ⟨hL.2, ⟨hg.2.1.1, fun a ha => ?_⟩, ?_, fun r g1 g2 => ?_, by unfold dN; rw [far' 29 (by decide) (by decide) (by decide)]; exact hg.2.2.2.2⟩
      · rw [far' 22 (by decide) (by decide) (by decide)]
        exact hg.2.1.2 a ha
      · unfold jB
        omega
      · rw [far' 39 (by decide) (by decide) (by decide)]
        exact hg.2.2.2.1 r g1 g2
    have g2' : kR2 (clw m2 nQ t) (clw m2 nQ t) nR := by
      unfold kR2
      rw [far2 40 (by decide) (by decide) (by decide) (by decide) (by decide) (by decide), far2 74 (by decide) (by decide) (by decide) (by decide) (by decide) (by decide)]
      exact h.k
    obtain ⟨u', J', a1, a2, a3, a4, a5⟩ := wn_ok (m' := clw m2 nQ t) (y := clw m2 nQ t) (nT' := nT) (nQ' := nQ - 1) (nR' := nR) (nM' := nM) h (by decide) (by omega) (by omega) e2 (fun a ha => far' a (by omega) (by omega) (by omega)) (fun a g1 g2 => far2 a (by omega) (by omega) (by omega) (by omega) (by omega) (by omega)) (fun f => by rw [far2 42 (by decide) (by decide) (by decide) (by decide) (by decide) (by decide)]) (fun w g1 g2 hl => by
        obtain ⟨s1, s2, s3⟩ := first_ne ⟨hl, hg.1⟩ ht hq1 e0
        exact ⟨_, mr_wait (by omega) hq1 (by omega) (by omega) hl.2.1.2.1 s1 s2 g1 g2, mlv_mF, (LR_leave (s := 2) (Or.inl rfl) ⟨hl, hg.1⟩ ht hq1 e0).1⟩) g1' g2' (by rw [far2 19 (by decide) (by decide) (by decide) (by decide) (by decide) (by decide)])
    have ek : ∀ a, a < 42 → u' a = clw m2 nQ t a := fun a ha => a3 a (by omega)
    have hr9 : ¬ nI (100 + t) = -9 := fun e => by
      have := nI_pos (n := 100 + t) (by omega)
      rw [e] at this
      exact this (by decide)
    refine ⟨nI (100 + t), clw m2 nQ t, u', J', n + 4, n + 4, 0, nQ - 1, fun Q hQ => ?_, fun a ha => far2 a (by omega) (by omega) (by omega) (by omega) (by omega) (by omega), by rw [if_neg hr9]; exact a1, Or.inr rfl, a2.cg (fun a _ ha => ek a ha), ?_⟩
    · have f1 : ZW 148 (0, 0, 0, 0) 24 [(0, .ref 0), (1, .int (nI t))] [] (SH, clw m2 nQ t) Q := by
        refine zgo 20 [] ?_
        refine zcq ?_ rfl hQ
        simp (disch := first | omega | decide) only [zcn, zkpl, zki, zki1, zk8, zk16, zo32, zlt0, zle0, zeq0, zgt0, zLe0, nI_ltI, nI_leI, nI_eq, nI_add, nI_clamp, vp_in_nI, zup_s, zup_n, upd_s, upd_n, ne_eq, not_true_eq_false, not_false_eq_true]
      have f2 : ZW 148 (0, 0, 0, 0) 10 [(0, .ref 0), (1, .int (nI t))] [.int 1] (SH, m2) Q := by
        refine zgo 20 [] ?_
        repeat' (first
          | (exact (ev_letWait t3 ht hq1 (by omega) (by rw [e2.far 28 (by decide) (by decide) (by decide), t1]) (by rw [e2.far 28 (by decide) (by decide) (by decide), q1])).use f1)
          | (show vp_in _ _; simp (disch := first | omega | decide) only [z10, zcn, zkpl, zki, zki1, zk8, zk16, zo32, zlt0, zle0, zeq0, zgt0, zLe0, nI_ltI, nI_leI, nI_eq, nI_add, nI_clamp, vp_in_nI, zup_s, zup_n, upd_s, upd_n, ne_eq, not_true_eq_false, not_false_eq_true]; done)
          | (intro hc; exfalso; simp (disch := first | omega | decide) only [z10, zcn, zkpl, zki, zki1, zk8, zk16, zo32, zlt0, zle0, zeq0, zgt0, zLe0, nI_ltI, nI_leI, nI_eq, nI_add, nI_clamp, vp_in_nI, zup_s, zup_n, upd_s, upd_n, ne_eq, not_true_eq_false, not_false_eq_true] at hc <;> omega)
          | (intro hc; exact absurd rfl hc)
          | intro hc
          | apply And.intro
          | exact Or.inl rfl
          | exact Or.inr rfl
          | (show (_ : Int32) = 0 ∨ _ = 1; simp (disch := first | omega | decide) only [z10, zcn, zkpl, zki, zki1, zk8, zk16, zo32, zlt0, zle0, zeq0, zgt0, zLe0, nI_ltI, nI_leI, nI_eq, nI_add, nI_clamp, vp_in_nI, zup_s, zup_n, upd_s, upd_n, ne_eq, not_true_eq_false, not_false_eq_true, zeq1, true_or, or_true]; done))
      refine zgo 20 [] ?_
      exact e1.use f2
    · refine ⟨?_, ?_, ?_, ?_, ?_, ?_⟩
      · rw [ek 0 (by decide), far2 0 (by decide) (by decide) (by decide) (by decide) (by decide) (by decide)]
      · rw [ek 9 (by decide), far2 9 (by decide) (by decide) (by decide) (by decide) (by decide) (by decide)]
      · rw [ek 10 (by decide), far2 10 (by decide) (by decide) (by decide) (by decide) (by decide) (by decide)]
      · rw [a3 43 (by omega), far2 43 (by decide) (by decide) (by decide) (by decide) (by decide) (by decide)]
      · rw [a4, far2 42 (by decide) (by decide) (by decide) (by decide) (by decide) (by decide)]
      · rw [a5, far2 42 (by decide) (by decide) (by decide) (by decide) (by decide) (by decide)]
  · have g2' : kR2 m2 m2 nR := by
      unfold kR2
      rw [e2.far 40 (by decide) (by decide) (by decide), e2.far 74 (by decide) (by decide) (by decide)]
      exact h.k
    obtain ⟨u', n', J', a1, a2, a3, a4, a5⟩ := wn_fl (m' := m2) (y := m2) h (by decide) (by omega) (by omega) e2 (fun a ha _ => rfl) (fun a g1 g2 => e2.far a (by omega) (by omega) (by omega)) (fun f => by rw [e2.far 42 (by decide) (by decide) (by decide)]) g2'
    have ek : ∀ a, a < 42 → u' a = m2 a := fun a ha => a3 a (by omega)
    refine ⟨-9, m2, u', J', n', n, 1, nQ, fun Q hQ => ?_, fun a ha => e2.far a (by omega) (by omega) (by omega), by rw [if_pos rfl]; exact a1, Or.inl rfl, a2.cg (fun a _ ha => ek a ha), ?_⟩
    · have f2 : ZW 148 (0, 0, 0, 0) 10 [(0, .ref 0), (1, .int (nI t))] [.int 0] (SH, m2) Q := by
        refine zgo 20 [] ?_
        repeat' (first
          | (show vp_in _ _; simp (disch := first | omega | decide) only [zcn, zkpl, zki, zki1, zk8, zk16, zo32, zlt0, zle0, zeq0, zgt0, zLe0, nI_ltI, nI_leI, nI_eq, nI_add, nI_clamp, vp_in_nI, zup_s, zup_n, upd_s, upd_n, ne_eq, not_true_eq_false, not_false_eq_true]; done)
          | (intro hc; exfalso; simp (disch := first | omega | decide) only [zcn, zkpl, zki, zki1, zk8, zk16, zo32, zlt0, zle0, zeq0, zgt0, zLe0, nI_ltI, nI_leI, nI_eq, nI_add, nI_clamp, vp_in_nI, zup_s, zup_n, upd_s, upd_n, ne_eq, not_true_eq_false, not_false_eq_true] at hc <;> omega)
          | (intro hc; exact absurd rfl hc)
          | intro hc
          | apply And.intro
          | exact hQ
          | (show Q _ (SH, _); simp (disch := first | omega | decide) only [zcn, zkpl, zki, zki1, zk8, zk16, zo32, zlt0, zle0, zeq0, zgt0, zLe0, nI_ltI, nI_leI, nI_eq, nI_add, nI_clamp, vp_in_nI, zup_s, zup_n, upd_s, upd_n, ne_eq, not_true_eq_false, not_false_eq_true]; exact hQ)
          | exact Or.inl rfl
          | exact Or.inr rfl
          | (show (_ : Int32) = 0 ∨ _ = 1; simp (disch := first | omega | decide) only [zcn, zkpl, zki, zki1, zk8, zk16, zo32, zlt0, zle0, zeq0, zgt0, zLe0, nI_ltI, nI_leI, nI_eq, nI_add, nI_clamp, vp_in_nI, zup_s, zup_n, upd_s, upd_n, ne_eq, not_true_eq_false, not_false_eq_true, zeq1, true_or, or_true]; done))
      refine zgo 20 [] ?_
      exact e1.use f2
    · refine ⟨?_, ?_, ?_, ?_, ?_, ?_⟩
      · rw [ek 0 (by decide), e2.far 0 (by decide) (by decide) (by decide)]
      · rw [ek 9 (by decide), e2.far 9 (by decide) (by decide) (by decide)]
      · rw [ek 10 (by decide), e2.far 10 (by decide) (by decide) (by decide)]
      · rw [a3 43 (by omega), e2.far 43 (by decide) (by decide) (by decide)]
      · rw [a4, e2.far 42 (by decide) (by decide) (by decide)]
      · rw [a5, e2.far 42 (by decide) (by decide) (by decide)]
/-- hold's record -/
def dh (t x y z : Nat) : Nat → Nat := fun j => if j = 0 then 72 else if j = 2 then t else if j = 3 then x else if j = 4 then y else if j = 5 then z else 0
theorem dh_lt {t x y z : Nat} (h1 : t < 256) (h2 : x < 256) (h3 : y < 256) (h4 : z < 256) : ∀ j, j < 6 → dh t x y z j < 256 := by
  intro j hj
  obtain rfl | rfl | rfl | rfl | rfl | rfl : j = 0 ∨ j = 1 ∨ j = 2 ∨ j = 3 ∨ j = 4 ∨ j = 5 := by omega
  · show (72 : Nat) < 256
    decide
  · show (0 : Nat) < 256
    decide
  · exact h1
  · exact h2
  · exact h3
  · exact h4
def ch (m : zM) (t x y z : Nat) : zM := zup (zup (zup (zup (zup (zup (zup (zup (zup (zup (zup (zup (zup m 14 4 0) 16 0 (nI 72)) 14 4 (nI 1)) 16 1 0) 14 4 (nI 2)) 16 2 (nI t)) 14 4 (nI 3)) 16 3 (nI x)) 14 4 (nI 4)) 16 4 (nI y)) 14 4 (nI 5)) 16 5 (nI z)) 14 4 (nI 6)
def mh (m : zM) (t x y z : Nat) : zM := zup (zup (zup (zup (zup (zup (zup (zup (zup m 42 34 0) 57 0 (nI t)) 42 34 (nI 1)) 57 1 (nI x)) 42 34 (nI 2)) 57 2 (nI y)) 42 34 (nI 3)) 57 3 (nI z)) 42 34 (nI 4)
theorem mh_far {m : zM} {t x y z a : Nat} (h1 : a ≠ 42) (h2 : a ≠ 57) : mh m t x y z a = m a := by
  unfold mh
  simp (disch := first | omega | decide) only [zcn, zkpl, zki, zki1, zk8, zk16, zo32, zlt0, zle0, zeq0, zgt0, zLe0, nI_ltI, nI_leI, nI_eq, nI_add, nI_clamp, vp_in_nI, zup_s, zup_n, upd_s, upd_n, ne_eq, not_true_eq_false, not_false_eq_true]
theorem mh_42 {m : zM} {t x y z f : Nat} (h : f ≠ 34) : mh m t x y z 42 f = m 42 f := by
  unfold mh
  simp (disch := first | omega | decide) only [zcn, zkpl, zki, zki1, zk8, zk16, zo32, zlt0, zle0, zeq0, zgt0, zLe0, nI_ltI, nI_leI, nI_eq, nI_add, nI_clamp, vp_in_nI, zup_s, zup_n, upd_s, upd_n, ne_eq, not_true_eq_false, not_false_eq_true]
theorem zmask {x : Nat} (h : x < 16777216) : nI x &&& nI 16777215 = nI x := by
  rw [pk_andN (by omega) 24 (by decide), Nat.mod_eq_of_lt (by omega)]
theorem zm255 {x : Nat} (h : x < 16777216) : nI x &&& nI 255 = nI (x % 256) := by
  rw [pk_andN (by omega) 8 (by decide)]
theorem zs16 {x : Nat} (h : x < 16777216) : nI x >>> (nI 16 &&& 31) = nI (x / 65536) := by
  rw [pk_shrN (by omega) _ 16 (by decide)]
theorem zs8 {x : Nat} (h : x < 16777216) : nI x >>> (nI 8 &&& 31) = nI (x / 256) := by
  rw [pk_shrN (by omega) _ 8 (by decide)]
theorem op_hold {m : zM} {J : Nat → Nat} {n nT nQ nR nM t c : Nat} (h : IX m m J n n 0 nT nQ nR nM) (hn5 : n < 5000) (hq1 : 1 ≤ nQ) (ht : t < nT) (h0 : m 35 0 = nI t) (hcl : m 0 5 = nI c) (hc2 : c + 30 < 16777216) : ∃ r m1 u' J' n' W' d' nQ', Ev 147 [.ref 0, .int (nI t)] m (some (.int r)) m1 ∧ (∀ a, 42 ≤ a → m1 a = m a) ∧ Ev 190 [.ref 42, .int (nI 72)] (mh m1 t ((c + 30) / 65536) ((c + 30) / 256 % 256) ((c + 30) % 256)) (some (.int (if r = -9 then 0 else 1))) u' ∧ (r = -9 ∨ r = nI t) ∧ IX u' u' J' n' W' d' nT nQ' nR nM ∧ keep m u' := by
  obtain ⟨⟨t1, t2, t3⟩, ⟨q1, q2, q3⟩, -, -, hrow, -⟩ := id h.l
  obtain ⟨j1, j2, j3, j4, j5, j6⟩ := id h.j
  obtain ⟨s, dd, cc, aa, -, -, -, b4, b5, -, -, -, -⟩ := h.g.1.1 t ht
  have bx : (c + 30) / 65536 < 256 := by omega
  have by' : (c + 30) / 256 % 256 < 256 := by omega
  have bz : (c + 30) % 256 < 256 := by omega
  have bdl : ((c + 30) / 65536 * 256 + (c + 30) / 256 % 256) * 256 + (c + 30) % 256 = c + 30 := by omega
  generalize hX : (c + 30) / 65536 = x at *
  generalize hY : (c + 30) / 256 % 256 = y at *
  generalize hZ : (c + 30) % 256 = z at *
  have run : ∀ {r v : Int32} {m2 m' : zM}, Ev 61 [.ref 14] (ch m t x y z) (some (.int r)) m2 → (∀ Q : zQ, Q (some (.int v)) (SH, m') → ZW 147 (0, 0, 0, 0) 73 [(2, .int (nI (c + 30))), (0, .ref 0), (1, .int (nI t))] [.int r] (SH, m2) Q) → Ev 147 [.ref 0, .int (nI t)] m (some (.int v)) m' := by
    intro r v m2 m' hE hfin Q hQ
    have e24 : (nI c + nI 30) &&& nI 16777215 = nI (c + 30) := by rw [nI_add, zmask hc2]
    refine zgo 7 [] ?_
    show ZW 147 (0, 0, 0, 0) 11 [(2, .int ((m 0 5 + (Int8.ofInt 30).toInt32) &&& Int32.ofInt 16777215)), (0, .ref 0), (1, .int (nI t))] [] (SH, m) Q
    rw [hcl, show (Int8.ofInt 30).toInt32 = nI 30 by decide, show Int32.ofInt 16777215 = nI 16777215 by decide, e24]
    refine zgo 20 [] ?_
    refine (ev_begin (m := m) _).use ?_
    refine zgo 20 [] ?_
    refine (ev_add (d := 2) (nI t) (by simp (disch := first | omega | decide) only [zcn, zkpl, zki, zki1, zk8, zk16, zo32, zlt0, zle0, zeq0, zgt0, zLe0, nI_ltI, nI_leI, nI_eq, nI_add, nI_clamp, vp_in_nI, zup_s, zup_n, upd_s, upd_n, ne_eq, not_true_eq_false, not_false_eq_true]) (by decide)).use ?_
    refine zgo 20 [] ?_
    show ZM 59 0 0 [.ref 14, .int (nI (c + 30) >>> ((Int8.ofInt 16).toInt32 &&& 31))] (SH, _) _
    rw [show (Int8.ofInt 16).toInt32 = nI 16 by decide, zs16 hc2, hX]
    refine (ev_add (d := 3) (nI x) (by simp (disch := first | omega | decide) only [zcn, zkpl, zki, zki1, zk8, zk16, zo32, zlt0, zle0, zeq0, zgt0, zLe0, nI_ltI, nI_leI, nI_eq, nI_add, nI_clamp, vp_in_nI, zup_s, zup_n, upd_s, upd_n, ne_eq, not_true_eq_false, not_false_eq_true]) (by decide)).use ?_
    refine zgo 20 [] ?_
    show ZM 59 0 0 [.ref 14, .int (nI (c + 30) >>> ((Int8.ofInt 8).toInt32 &&& 31) &&& (Int16.ofInt 255).toInt32)] (SH, _) _
    rw [show (Int8.ofInt 8).toInt32 = nI 8 by decide, show (Int16.ofInt 255).toInt32 = nI 255 by decide, zs8 hc2, zm255 (by omega), hY]
    refine (ev_add (d := 4) (nI y) (by simp (disch := first | omega | decide) only [zcn, zkpl, zki, zki1, zk8, zk16, zo32, zlt0, zle0, zeq0, zgt0, zLe0, nI_ltI, nI_leI, nI_eq, nI_add, nI_clamp, vp_in_nI, zup_s, zup_n, upd_s, upd_n, ne_eq, not_true_eq_false, not_false_eq_true]) (by decide)).use ?_
    refine zgo 20 [] ?_
    show ZM 59 0 0 [.ref 14, .int (nI (c + 30) &&& (Int16.ofInt 255).toInt32)] (SH, _) _
    rw [show (Int16.ofInt 255).toInt32 = nI 255 by decide, zm255 (by omega), hZ]
    refine (ev_add (d := 5) (nI z) (by simp (disch := first | omega | decide) only [zcn, zkpl, zki, zki1, zk8, zk16, zo32, zlt0, zle0, zeq0, zgt0, zLe0, nI_ltI, nI_leI, nI_eq, nI_add, nI_clamp, vp_in_nI, zup_s, zup_n, upd_s, upd_n, ne_eq, not_true_eq_false, not_false_eq_true]) (by decide)).use ?_
    refine zgo 20 [] ?_
    exact zcm rfl (hE.use (hfin Q hQ))
  have hz : zPre (ch m t x y z) n 6 (dh t x y z) := by
    unfold ch
    refine ⟨by simp (disch := first | omega | decide) only [zcn, zkpl, zki, zki1, zk8, zk16, zo32, zlt0, zle0, zeq0, zgt0, zLe0, nI_ltI, nI_leI, nI_eq, nI_add, nI_clamp, vp_in_nI, zup_s, zup_n, upd_s, upd_n, ne_eq, not_true_eq_false, not_false_eq_true], by decide, by decide, fun j hj => ⟨dh_lt (by omega) bx by' bz j hj, ?_⟩, by simp (disch := first | omega | decide) only [j1, zcn, zkpl, zki, zki1, zk8, zk16, zo32, zlt0, zle0, zeq0, zgt0, zLe0, nI_ltI, nI_leI, nI_eq, nI_add, nI_clamp, vp_in_nI, zup_s, zup_n, upd_s, upd_n, ne_eq, not_true_eq_false, not_false_eq_true], by omega⟩
    obtain rfl | rfl | rfl | rfl | rfl | rfl : j = 0 ∨ j = 1 ∨ j = 2 ∨ j = 3 ∨ j = 4 ∨ j = 5 := by omega
    all_goals simp (disch := first | omega | decide) only [zcn, zkpl, zki, zki1, zk8, zk16, zo32, zlt0, zle0, zeq0, zgt0, zLe0, nI_ltI, nI_leI, nI_eq, nI_add, nI_clamp, vp_in_nI, zup_s, zup_n, upd_s, upd_n, ne_eq, not_true_eq_false, not_false_eq_true]
    all_goals rfl
  have mpre : ∀ m1 : zM, m1 42 36 = nI n → mPre (mh m1 t x y z) n 6 (dh t x y z) := by
    intro m1 h36
    refine ⟨by unfold mh; simp (disch := first | omega | decide) only [zcn, zkpl, zki, zki1, zk8, zk16, zo32, zlt0, zle0, zeq0, zgt0, zLe0, nI_ltI, nI_leI, nI_eq, nI_add, nI_clamp, vp_in_nI, zup_s, zup_n, upd_s, upd_n, ne_eq, not_true_eq_false, not_false_eq_true], by decide, by decide, dh_lt (by omega) bx by' bz, fun j g1 g2 => ?_, by rw [mh_42 (by decide), h36], by omega⟩
    obtain rfl | rfl | rfl | rfl : j = 2 ∨ j = 3 ∨ j = 4 ∨ j = 5 := by omega
    all_goals unfold mh
    all_goals simp (disch := first | omega | decide) only [zcn, zkpl, zki, zki1, zk8, zk16, zo32, zlt0, zle0, zeq0, zgt0, zLe0, nI_ltI, nI_leI, nI_eq, nI_add, nI_clamp, vp_in_nI, zup_s, zup_n, upd_s, upd_n, ne_eq, not_true_eq_false, not_false_eq_true]
    all_goals rfl
  rcases wr_c h (m1 := ch m t x y z) (fun a g1 g2 => by unfold ch; simp (disch := first | omega | decide) only [zcn, zkpl, zki, zki1, zk8, zk16, zo32, zlt0, zle0, zeq0, zgt0, zLe0, nI_ltI, nI_leI, nI_eq, nI_add, nI_clamp, vp_in_nI, zup_s, zup_n, upd_s, upd_n, ne_eq, not_true_eq_false, not_false_eq_true]) (fun f g => by unfold ch; simp (disch := first | omega | decide) only [zcn, zkpl, zki, zki1, zk8, zk16, zo32, zlt0, zle0, zeq0, zgt0, zLe0, nI_ltI, nI_leI, nI_eq, nI_add, nI_clamp, vp_in_nI, zup_s, zup_n, upd_s, upd_n, ne_eq, not_true_eq_false, not_false_eq_true]) hz with ⟨m2, e1, e2⟩ | ⟨m2, k, e1, e2⟩
  · have hl2 : lR m m2 nT nQ nR nM := lR_congr h.l (fun a g1 g2 _ => e2.far a (by omega) (by omega) (by omega)) (fun _ _ _ => rfl) (fun _ _ => rfl)
    have hg := gW_congr h.g (m' := m2) (fun a g1 g2 g3 => e2.far a (by omega) (by omega) (by omega))
    have e0 : m2 35 0 = nI t := by rw [e2.far 35 (by decide) (by decide) (by decide), h0]
    have hL := LR_hold (nI (c + 30)) ⟨hl2, hg.1⟩ ht hq1 e0 b5
    have far' : ∀ a, a ≠ 33 → a ≠ 35 → a ≠ 28 → a ≠ 34 → a ≠ 21 → clh m2 nQ t dd (nI (c + 30)) a = m2 a := fun a g1 g2 g3 g4 g5 => by
      unfold clh
      rw [zup_n _ g5, zup_n _ g4, zup_n _ g1, zdq_far g2 g3]
    have far2 : ∀ a, a < 14 ∨ (16 < a ∧ a < 20) ∨ (21 < a ∧ a < 28) ∨ 35 < a → clh m2 nQ t dd (nI (c + 30)) a = m a := fun a g => by rw [far' a (by omega) (by omega) (by omega) (by omega) (by omega), e2.far a (by omega) (by omega) (by omega)]
    have g1' : gW (clh m2 nQ t dd (nI (c + 30))) nT (nQ - 1) nR nM (n + (6 + 1)) := by
      refine ⟨hL.2, ⟨hg.2.1.1, fun a ha => ?_⟩, ?_, fun r g1 g2 => ?_, by unfold dN; rw [far' 29 (by decide) (by decide) (by decide) (by decide) (by decide)]; exact hg.2.2.2.2⟩
      · rw [far' 22 (by decide) (by decide) (by decide) (by decide) (by decide)]
        exact hg.2.1.2 a ha
      · unfold jB
        omega
      · rw [far' 39 (by decide) (by decide) (by decide) (by decide) (by decide)]
        exact hg.2.2.2.1 r g1 g2
    have hri : RI m2 (m 42 0) (jx J n (zrec (dh t x y z) 6)) n nT nQ nR nM := RI_congr h.ri (fun a g1 g2 _ => e2.far a (by omega) (by omega) (by omega)) (fun j hj => jx_lo hj)
    have hri2 : RI (clh m2 nQ t dd (nI (c + 30))) (m 42 0) (jx J n (zrec (dh t x y z) 6)) (n + (6 + 1)) nT (nQ - 1) nR nM := by
      refine RI_ext hri ?_ (by omega) ?_ (fun w hw hl => ?_)
      · rw [jx_hi]
        rfl
      · rw [jx_hi]
        show (4 : Nat) < 256
        decide
      · obtain ⟨s1, s2, s3⟩ := first_ne ⟨hl, hg.1⟩ ht hq1 e0
        have hdb : w 62 t = nI dd := by
          rw [(hl.2.2.2.2.1 t ht).2.1, e2.far 31 (by decide) (by decide) (by decide), b4]
        have w0 : w 58 n = nI 72 := by
          rw [hw n (by omega)]
          have := jx_hi (J := J) (n := n) (R := zrec (dh t x y z) 6) (j := 0)
          rw [Nat.add_zero] at this
          rw [this]
          rfl
        have w2 : w 58 (n + 2) = nI t := by rw [hw (n + 2) (by omega), jx_hi]; rfl
        have w3 : w 58 (n + 3) = nI x := by rw [hw (n + 3) (by omega), jx_hi]; rfl
        have w4 : w 58 (n + 4) = nI y := by rw [hw (n + 4) (by omega), jx_hi]; rfl
        have w5 : w 58 (n + 5) = nI z := by rw [hw (n + 5) (by omega), jx_hi]; rfl
        have hE := mr_hold (by omega) hq1 (by omega) (by omega) b5 hl.2.1.2.1 s1 s2 w0 w2 w3 w4 w5 hdb
        rw [bdl] at hE
        refine ⟨_, hE, ?_, (LR_hold (nI (c + 30)) ⟨hl, hg.1⟩ ht hq1 e0 b5).1⟩
        unfold mhd
        exact (mlv_mF.up (by decide) (by decide)).up (by decide) (by decide)
    have g2' : kR2 (clh m2 nQ t dd (nI (c + 30))) (mh (clh m2 nQ t dd (nI (c + 30))) t x y z) nR := by
      unfold kR2
      rw [mh_far (by decide) (by decide), far2 40 (by omega), far2 74 (by omega)]
      exact h.k
    obtain ⟨u', a1, a2, a3⟩ := wr_ok (m' := clh m2 nQ t dd (nI (c + 30))) (x := mh (clh m2 nQ t dd (nI (c + 30))) t x y z) h e2 (fun a ha => far' a (by omega) (by omega) (by omega) (by omega) (by omega)) (fun a g1 g2 g3 => by rw [mh_far (by omega) g2, far2 a (by omega)]) (fun f g => by rw [mh_42 g, far2 42 (by omega)]) (mpre _ (by rw [far2 42 (by omega)]; exact j2)) hri2 g1' g2' (by rw [far2 19 (by omega)])
    have ek : ∀ a, a < 42 → u' a = clh m2 nQ t dd (nI (c + 30)) a := fun a ha => by rw [a3.1 a (by omega), mh_far (by omega) (by omega)]
    have hr9 : ¬ nI t = -9 := fun e => by
      have := nI_pos (n := t) (by omega)
      rw [e] at this
      exact this (by decide)
    refine ⟨nI t, clh m2 nQ t dd (nI (c + 30)), u', _, _, _, 0, nQ - 1, run e1 (fun Q hQ => ?_), fun a ha => far2 a (by omega), by rw [if_neg hr9]; exact a1, Or.inr rfl, a2.cg (fun a _ ha => ek a ha), ?_⟩
    · have f1 : ZW 147 (0, 0, 0, 0) 88 [(2, .int (nI (c + 30))), (0, .ref 0), (1, .int (nI t))] [] (SH, clh m2 nQ t dd (nI (c + 30))) Q := by
        refine zgo 20 [] ?_
        exact hQ
      refine zgo 20 [] ?_
      repeat' (first
        | (exact (ev_hold (nI (c + 30)) t3 ht hq1 (by omega) b5 (by rw [e2.far 28 (by decide) (by decide) (by decide), t1]) (by rw [e2.far 28 (by decide) (by decide) (by decide), q1]) (by rw [e2.far 31 (by decide) (by decide) (by decide), b4])).use f1)
        | (show vp_in _ _; simp (disch := first | omega | decide) only [z10, zcn, zkpl, zki, zki1, zk8, zk16, zo32, zlt0, zle0, zeq0, zgt0, zLe0, nI_ltI, nI_leI, nI_eq, nI_add, nI_clamp, vp_in_nI, zup_s, zup_n, upd_s, upd_n, ne_eq, not_true_eq_false, not_false_eq_true]; done)
        | (intro hc; exfalso; simp (disch := first | omega | decide) only [z10, zcn, zkpl, zki, zki1, zk8, zk16, zo32, zlt0, zle0, zeq0, zgt0, zLe0, nI_ltI, nI_leI, nI_eq, nI_add, nI_clamp, vp_in_nI, zup_s, zup_n, upd_s, upd_n, ne_eq, not_true_eq_false, not_false_eq_true] at hc <;> omega)
        | (intro hc; exact absurd rfl hc)
        | intro hc
        | apply And.intro
        | exact Or.inl rfl
        | exact Or.inr rfl
        | (show (_ : Int32) = 0 ∨ _ = 1; simp (disch := first | omega | decide) only [z10, zcn, zkpl, zki, zki1, zk8, zk16, zo32, zlt0, zle0, zeq0, zgt0, zLe0, nI_ltI, nI_leI, nI_eq, nI_add, nI_clamp, vp_in_nI, zup_s, zup_n, upd_s, upd_n, ne_eq, not_true_eq_false, not_false_eq_true, zeq1, true_or, or_true]; done))
    · refine ⟨?_, ?_, ?_, ?_, ?_, ?_⟩
      · rw [ek 0 (by decide), far2 0 (by omega)]
      · rw [ek 9 (by decide), far2 9 (by omega)]
      · rw [ek 10 (by decide), far2 10 (by omega)]
      · rw [a3.1 43 (by omega), mh_far (by decide) (by decide), far2 43 (by omega)]
      · rw [a3.2 2 (by decide) (by decide) (by decide) (by decide) (by decide) (by decide) (by decide), mh_42 (by decide), far2 42 (by omega)]
      · rw [a3.2 7 (by decide) (by decide) (by decide) (by decide) (by decide) (by decide) (by decide), mh_42 (by decide), far2 42 (by omega)]
  · have far2 : ∀ a, a < 14 ∨ 16 < a → m2 a = m a := fun a g => e2.far a (by omega) (by omega) (by omega)
    have g2' : kR2 m2 (mh m2 t x y z) nR := by
      unfold kR2
      rw [mh_far (by decide) (by decide), far2 40 (by omega), far2 74 (by omega)]
      exact h.k
    obtain ⟨u', n', J', a1, a2, a3⟩ := wr_fl (m' := m2) (x := mh m2 t x y z) h e2 (fun a ha _ => rfl) (fun a g1 g2 g3 => by rw [mh_far (by omega) g2, far2 a (by omega)]) (fun f g => by rw [mh_42 g, far2 42 (by omega)]) (mpre _ (by rw [far2 42 (by omega)]; exact j2)) g2'
    have ek : ∀ a, a < 42 → u' a = m2 a := fun a ha => by rw [a3.1 a (by omega), mh_far (by omega) (by omega)]
    refine ⟨-9, m2, u', J', n', n, 1, nQ, run e1 (fun Q hQ => ?_), fun a ha => far2 a (by omega), by rw [if_pos rfl]; exact a1, Or.inl rfl, a2.cg (fun a _ ha => ek a ha), ?_⟩
    · refine zgo 20 [] ?_
      repeat' (first
        | (show vp_in _ _; simp (disch := first | omega | decide) only [zcn, zkpl, zki, zki1, zk8, zk16, zo32, zlt0, zle0, zeq0, zgt0, zLe0, nI_ltI, nI_leI, nI_eq, nI_add, nI_clamp, vp_in_nI, zup_s, zup_n, upd_s, upd_n, ne_eq, not_true_eq_false, not_false_eq_true]; done)
        | (intro hc; exfalso; simp (disch := first | omega | decide) only [zcn, zkpl, zki, zki1, zk8, zk16, zo32, zlt0, zle0, zeq0, zgt0, zLe0, nI_ltI, nI_leI, nI_eq, nI_add, nI_clamp, vp_in_nI, zup_s, zup_n, upd_s, upd_n, ne_eq, not_true_eq_false, not_false_eq_true] at hc <;> omega)
        | (intro hc; exact absurd rfl hc)
        | intro hc
        | apply And.intro
        | exact hQ
        | (show Q _ (SH, _); simp (disch := first | omega | decide) only [zcn, zkpl, zki, zki1, zk8, zk16, zo32, zlt0, zle0, zeq0, zgt0, zLe0, nI_ltI, nI_leI, nI_eq, nI_add, nI_clamp, vp_in_nI, zup_s, zup_n, upd_s, upd_n, ne_eq, not_true_eq_false, not_false_eq_true]; exact hQ)
        | exact Or.inl rfl
        | exact Or.inr rfl
        | (show (_ : Int32) = 0 ∨ _ = 1; simp (disch := first | omega | decide) only [zcn, zkpl, zki, zki1, zk8, zk16, zo32, zlt0, zle0, zeq0, zgt0, zLe0, nI_ltI, nI_leI, nI_eq, nI_add, nI_clamp, vp_in_nI, zup_s, zup_n, upd_s, upd_n, ne_eq, not_true_eq_false, not_false_eq_true, zeq1, true_or, or_true]; done))
    · refine ⟨?_, ?_, ?_, ?_, ?_, ?_⟩
      · rw [ek 0 (by decide), far2 0 (by omega)]
      · rw [ek 9 (by decide), far2 9 (by omega)]
      · rw [ek 10 (by decide), far2 10 (by omega)]
      · rw [a3.1 43 (by omega), mh_far (by decide) (by decide), far2 43 (by omega)]
      · rw [a3.2 2 (by decide) (by decide) (by decide) (by decide) (by decide) (by decide) (by decide), mh_42 (by decide), far2 42 (by omega)]
      · rw [a3.2 7 (by decide) (by decide) (by decide) (by decide) (by decide) (by decide) (by decide), mh_42 (by decide), far2 42 (by omega)]
theorem op_work {m : zM} {J : Nat → Nat} {n W d nT nQ nR nM c : Nat} (h : IX m m J n W d nT nQ nR nM) (hcl : m 0 5 = nI c) (hcm : m 42 2 = nI c) (hc2 : c + 30 < 16777216) : ∃ r m1 m2 J' n' W' d' nQ', Ev 134 [.ref 0] m (some (.int r)) m1 ∧ Ev 205 [.ref 42] m1 (some (.int r)) m2 ∧ IX m2 m2 J' n' W' d' nT nQ' nR nM ∧ keep m m2 := by
  obtain ⟨p1, p2, p3⟩ := id h.p
  obtain ⟨⟨t1, t2, t3⟩, ⟨q1, q2, q3⟩, -, -, hrow, hq, hac, -⟩ := id h.l
  obtain ⟨j1, j2, j3, -⟩ := id h.j
  have no : (∀ Q : zQ, Q (some (.int (-1))) (SH, m) → ZM 134 0 0 [.ref 0] (SH, m) Q) → (∀ Q : zQ, Q (some (.int (-1))) (SH, m) → ZM 205 0 0 [.ref 42] (SH, m) Q) → ∃ r m1 m2 J' n' W' d' nQ', Ev 134 [.ref 0] m (some (.int r)) m1 ∧ Ev 205 [.ref 42] m1 (some (.int r)) m2 ∧ IX m2 m2 J' n' W' d' nT nQ' nR nM ∧ keep m m2 := fun x y => ⟨-1, m, m, J, n, W, d, nQ, x, y, h, keep.rf m⟩
  obtain rfl | rfl : d = 0 ∨ d = 1 := by omega
  · obtain rfl := h.w rfl
    rcases Nat.eq_zero_or_pos nQ with rfl | hq1
    · refine no (fun Q hQ => ?_) (fun Q hQ => ?_)
      · refine zgo 40 [53, 99, 100, 54] ?_
        repeat' (first
          | (show vp_in _ _; simp (disch := first | omega | decide) only [p1, q1, zcn, zkpl, zki, zki1, zk8, zk16, zo32, zlt0, zle0, zeq0, zgt0, zLe0, nI_ltI, nI_leI, nI_eq, nI_add, nI_clamp, vp_in_nI, zup_s, zup_n, upd_s, upd_n, ne_eq, not_true_eq_false, not_false_eq_true]; done)
          | (intro hc; exfalso; simp (disch := first | omega | decide) only [p1, q1, zcn, zkpl, zki, zki1, zk8, zk16, zo32, zlt0, zle0, zeq0, zgt0, zLe0, nI_ltI, nI_leI, nI_eq, nI_add, nI_clamp, vp_in_nI, zup_s, zup_n, upd_s, upd_n, ne_eq, not_true_eq_false, not_false_eq_true] at hc <;> omega)
          | (intro hc; exact absurd rfl hc)
          | intro hc
          | apply And.intro
          | exact hQ
          | (show Q _ (SH, _); simp (disch := first | omega | decide) only [p1, q1, zcn, zkpl, zki, zki1, zk8, zk16, zo32, zlt0, zle0, zeq0, zgt0, zLe0, nI_ltI, nI_leI, nI_eq, nI_add, nI_clamp, vp_in_nI, zup_s, zup_n, upd_s, upd_n, ne_eq, not_true_eq_false, not_false_eq_true]; exact hQ)
          | exact Or.inl rfl
          | exact Or.inr rfl
          | (show (_ : Int32) = 0 ∨ _ = 1; simp (disch := first | omega | decide) only [p1, q1, zcn, zkpl, zki, zki1, zk8, zk16, zo32, zlt0, zle0, zeq0, zgt0, zLe0, nI_ltI, nI_leI, nI_eq, nI_add, nI_clamp, vp_in_nI, zup_s, zup_n, upd_s, upd_n, ne_eq, not_true_eq_false, not_false_eq_true, zeq1, true_or, or_true]; done))
      · refine zgo 40 [] ?_
        repeat' (first
          | (show vp_in _ _; simp (disch := first | omega | decide) only [p2, q2, zcn, zkpl, zki, zki1, zk8, zk16, zo32, zlt0, zle0, zeq0, zgt0, zLe0, nI_ltI, nI_leI, nI_eq, nI_add, nI_clamp, vp_in_nI, zup_s, zup_n, upd_s, upd_n, ne_eq, not_true_eq_false, not_false_eq_true]; done)
          | (intro hc; exfalso; simp (disch := first | omega | decide) only [p2, q2, zcn, zkpl, zki, zki1, zk8, zk16, zo32, zlt0, zle0, zeq0, zgt0, zLe0, nI_ltI, nI_leI, nI_eq, nI_add, nI_clamp, vp_in_nI, zup_s, zup_n, upd_s, upd_n, ne_eq, not_true_eq_false, not_false_eq_true] at hc <;> omega)
          | (intro hc; exact absurd rfl hc)
          | intro hc
          | apply And.intro
          | exact hQ
          | (show Q _ (SH, _); simp (disch := first | omega | decide) only [p2, q2, zcn, zkpl, zki, zki1, zk8, zk16, zo32, zlt0, zle0, zeq0, zgt0, zLe0, nI_ltI, nI_leI, nI_eq, nI_add, nI_clamp, vp_in_nI, zup_s, zup_n, upd_s, upd_n, ne_eq, not_true_eq_false, not_false_eq_true]; exact hQ)
          | exact Or.inl rfl
          | exact Or.inr rfl
          | (show (_ : Int32) = 0 ∨ _ = 1; simp (disch := first | omega | decide) only [p2, q2, zcn, zkpl, zki, zki1, zk8, zk16, zo32, zlt0, zle0, zeq0, zgt0, zLe0, nI_ltI, nI_leI, nI_eq, nI_add, nI_clamp, vp_in_nI, zup_s, zup_n, upd_s, upd_n, ne_eq, not_true_eq_false, not_false_eq_true, zeq1, true_or, or_true]; done))
    · obtain ⟨t, ht, h0, -⟩ := h.g.1.2.1.2.1 0 hq1
      have hne : (nI t = -1) = False := eq_false (fun e => by
        have := nI_pos (n := t) (by omega)
        rw [e] at this
        exact this (by decide))
      by_cases hb : 5000 ≤ W
      · refine no (fun Q hQ => ?_) (fun Q hQ => ?_)
        · refine zgo 40 [53, 99, 100, 54] ?_
          repeat' (first
            | (show vp_in _ _; simp (disch := first | omega | decide) only [p1, q1, h0, hne, j1, zcn, zkpl, zki, zki1, zk8, zk16, zo32, zlt0, zle0, zeq0, zgt0, zLe0, nI_ltI, nI_leI, nI_eq, nI_add, nI_clamp, vp_in_nI, zup_s, zup_n, upd_s, upd_n, ne_eq, not_true_eq_false, not_false_eq_true]; done)
            | (intro hc; exfalso; simp (disch := first | omega | decide) only [p1, q1, h0, hne, j1, zcn, zkpl, zki, zki1, zk8, zk16, zo32, zlt0, zle0, zeq0, zgt0, zLe0, nI_ltI, nI_leI, nI_eq, nI_add, nI_clamp, vp_in_nI, zup_s, zup_n, upd_s, upd_n, ne_eq, not_true_eq_false, not_false_eq_true] at hc <;> omega)
            | (intro hc; exact absurd rfl hc)
            | intro hc
            | apply And.intro
            | exact hQ
            | (show Q _ (SH, _); simp (disch := first | omega | decide) only [p1, q1, h0, hne, j1, zcn, zkpl, zki, zki1, zk8, zk16, zo32, zlt0, zle0, zeq0, zgt0, zLe0, nI_ltI, nI_leI, nI_eq, nI_add, nI_clamp, vp_in_nI, zup_s, zup_n, upd_s, upd_n, ne_eq, not_true_eq_false, not_false_eq_true]; exact hQ)
            | exact Or.inl rfl
            | exact Or.inr rfl
            | (show (_ : Int32) = 0 ∨ _ = 1; simp (disch := first | omega | decide) only [p1, q1, h0, hne, j1, zcn, zkpl, zki, zki1, zk8, zk16, zo32, zlt0, zle0, zeq0, zgt0, zLe0, nI_ltI, nI_leI, nI_eq, nI_add, nI_clamp, vp_in_nI, zup_s, zup_n, upd_s, upd_n, ne_eq, not_true_eq_false, not_false_eq_true, zeq1, true_or, or_true]; done))
        · refine zgo 40 [] ?_
          repeat' (first
            | (show vp_in _ _; simp (disch := first | omega | decide) only [p2, q2, j2, zcn, zkpl, zki, zki1, zk8, zk16, zo32, zlt0, zle0, zeq0, zgt0, zLe0, nI_ltI, nI_leI, nI_eq, nI_add, nI_clamp, vp_in_nI, zup_s, zup_n, upd_s, upd_n, ne_eq, not_true_eq_false, not_false_eq_true]; done)
            | (intro hc; exfalso; simp (disch := first | omega | decide) only [p2, q2, j2, zcn, zkpl, zki, zki1, zk8, zk16, zo32, zlt0, zle0, zeq0, zgt0, zLe0, nI_ltI, nI_leI, nI_eq, nI_add, nI_clamp, vp_in_nI, zup_s, zup_n, upd_s, upd_n, ne_eq, not_true_eq_false, not_false_eq_true] at hc <;> omega)
            | (intro hc; exact absurd rfl hc)
            | intro hc
            | apply And.intro
            | exact hQ
            | (show Q _ (SH, _); simp (disch := first | omega | decide) only [p2, q2, j2, zcn, zkpl, zki, zki1, zk8, zk16, zo32, zlt0, zle0, zeq0, zgt0, zLe0, nI_ltI, nI_leI, nI_eq, nI_add, nI_clamp, vp_in_nI, zup_s, zup_n, upd_s, upd_n, ne_eq, not_true_eq_false, not_false_eq_true]; exact hQ)
            | exact Or.inl rfl
            | exact Or.inr rfl
            | (show (_ : Int32) = 0 ∨ _ = 1; simp (disch := first | omega | decide) only [p2, q2, j2, zcn, zkpl, zki, zki1, zk8, zk16, zo32, zlt0, zle0, zeq0, zgt0, zLe0, nI_ltI, nI_leI, nI_eq, nI_add, nI_clamp, vp_in_nI, zup_s, zup_n, upd_s, upd_n, ne_eq, not_true_eq_false, not_false_eq_true, zeq1, true_or, or_true]; done))
      · obtain ⟨s, dd, cc, aa, -, -, -, b4, b5, -, -, -, -⟩ := h.g.1.1 t ht
        obtain ⟨x1, x2, x3, x4, x5, -⟩ := hrow t ht
        obtain ⟨y1, y2, y3⟩ := hac dd b5
        have h66 : m 66 0 = nI t := by rw [hq 0 hq1, h0]
        have h62 : m 62 t = nI dd := by rw [x2, b4]
        have ez : m 67 dd - m 68 dd + m 42 1 = m 20 dd - m 21 dd + m 19 0 := by rw [y1, y2, h.lim]
        by_cases hpay : m 20 dd - m 21 dd + m 19 0 < m 30 t
        · obtain ⟨r, m1, u', J', n', W', d', nQ', e1, e2, e3, e4, e5, e6⟩ := op_wait h (by omega) hq1 ht h0
          refine ⟨r, m1, u', J', n', W', d', nQ', fun Q hQ => ?_, fun Q hQ => ?_, e5, e6⟩
          · have f1 : ZW 134 (0, 0, 0, 0) 68 [(1, .int (nI t)), (0, .ref 0)] [.int r] (SH, m1) Q := by
              refine zgo 20 [] ?_
              exact hQ
            have f2 : ZW 134 (0, 0, 0, 0) 52 [(1, .int (nI t)), (0, .ref 0)] [.int 0] (SH, m) Q := by
              refine zgo 20 [] ?_
              repeat' (first
                | (exact e1.use f1)
                | (show vp_in _ _; simp (disch := first | omega | decide) only [zcn, zkpl, zki, zki1, zk8, zk16, zo32, zlt0, zle0, zeq0, zgt0, zLe0, nI_ltI, nI_leI, nI_eq, nI_add, nI_clamp, vp_in_nI, zup_s, zup_n, upd_s, upd_n, ne_eq, not_true_eq_false, not_false_eq_true]; done)
                | (intro hc; exfalso; simp (disch := first | omega | decide) only [zcn, zkpl, zki, zki1, zk8, zk16, zo32, zlt0, zle0, zeq0, zgt0, zLe0, nI_ltI, nI_leI, nI_eq, nI_add, nI_clamp, vp_in_nI, zup_s, zup_n, upd_s, upd_n, ne_eq, not_true_eq_false, not_false_eq_true] at hc <;> omega)
                | (intro hc; exact absurd rfl hc)
                | intro hc
                | apply And.intro
                | exact Or.inl rfl
                | exact Or.inr rfl
                | (show (_ : Int32) = 0 ∨ _ = 1; simp (disch := first | omega | decide) only [zcn, zkpl, zki, zki1, zk8, zk16, zo32, zlt0, zle0, zeq0, zgt0, zLe0, nI_ltI, nI_leI, nI_eq, nI_add, nI_clamp, vp_in_nI, zup_s, zup_n, upd_s, upd_n, ne_eq, not_true_eq_false, not_false_eq_true, zeq1, true_or, or_true]; done))
            have f3 : ZW 134 (0, 0, 0, 0) 36 [(1, .int (nI t)), (0, .ref 0)] [.int (nI W)] (SH, m) Q := by
              refine zgo 20 [] ?_
              repeat' (first
                | (exact (ev_pay t1 t3 ht b5 b4 (Or.inr ⟨rfl, hpay⟩)).use f2)
                | (show vp_in _ _; simp (disch := first | omega | decide) only [zcn, zkpl, zki, zki1, zk8, zk16, zo32, zlt0, zle0, zeq0, zgt0, zLe0, nI_ltI, nI_leI, nI_eq, nI_add, nI_clamp, vp_in_nI, zup_s, zup_n, upd_s, upd_n, ne_eq, not_true_eq_false, not_false_eq_true]; done)
                | (intro hc; exfalso; simp (disch := first | omega | decide) only [zcn, zkpl, zki, zki1, zk8, zk16, zo32, zlt0, zle0, zeq0, zgt0, zLe0, nI_ltI, nI_leI, nI_eq, nI_add, nI_clamp, vp_in_nI, zup_s, zup_n, upd_s, upd_n, ne_eq, not_true_eq_false, not_false_eq_true] at hc <;> omega)
                | (intro hc; exact absurd rfl hc)
                | intro hc
                | apply And.intro
                | exact Or.inl rfl
                | exact Or.inr rfl
                | (show (_ : Int32) = 0 ∨ _ = 1; simp (disch := first | omega | decide) only [zcn, zkpl, zki, zki1, zk8, zk16, zo32, zlt0, zle0, zeq0, zgt0, zLe0, nI_ltI, nI_leI, nI_eq, nI_add, nI_clamp, vp_in_nI, zup_s, zup_n, upd_s, upd_n, ne_eq, not_true_eq_false, not_false_eq_true, zeq1, true_or, or_true]; done))
            have f4 : ZW 134 (0, 0, 0, 0) 23 [(0, .ref 0)] [.int (nI t)] (SH, m) Q := by
              have g := ev_len (m := m)
              rw [j1] at g
              refine zgo 20 [] ?_
              repeat' (first
                | (exact g.use f3)
                | (show vp_in _ _; simp (disch := first | omega | decide) only [hne, zcn, zkpl, zki, zki1, zk8, zk16, zo32, zlt0, zle0, zeq0, zgt0, zLe0, nI_ltI, nI_leI, nI_eq, nI_add, nI_clamp, vp_in_nI, zup_s, zup_n, upd_s, upd_n, ne_eq, not_true_eq_false, not_false_eq_true]; done)
                | (intro hc; exfalso; simp (disch := first | omega | decide) only [hne, zcn, zkpl, zki, zki1, zk8, zk16, zo32, zlt0, zle0, zeq0, zgt0, zLe0, nI_ltI, nI_leI, nI_eq, nI_add, nI_clamp, vp_in_nI, zup_s, zup_n, upd_s, upd_n, ne_eq, not_true_eq_false, not_false_eq_true] at hc <;> omega)
                | (intro hc; exact absurd rfl hc)
                | intro hc
                | apply And.intro
                | exact Or.inl rfl
                | exact Or.inr rfl
                | (show (_ : Int32) = 0 ∨ _ = 1; simp (disch := first | omega | decide) only [hne, zcn, zkpl, zki, zki1, zk8, zk16, zo32, zlt0, zle0, zeq0, zgt0, zLe0, nI_ltI, nI_leI, nI_eq, nI_add, nI_clamp, vp_in_nI, zup_s, zup_n, upd_s, upd_n, ne_eq, not_true_eq_false, not_false_eq_true, zeq1, true_or, or_true]; done))
            have g := ev_fq q1 hq1 (by omega)
            rw [h0] at g
            refine zgo 20 [53] ?_
            repeat' (first
              | (exact g.use f4)
              | (show vp_in _ _; simp (disch := first | omega | decide) only [p1, zcn, zkpl, zki, zki1, zk8, zk16, zo32, zlt0, zle0, zeq0, zgt0, zLe0, nI_ltI, nI_leI, nI_eq, nI_add, nI_clamp, vp_in_nI, zup_s, zup_n, upd_s, upd_n, ne_eq, not_true_eq_false, not_false_eq_true]; done)
              | (intro hc; exfalso; simp (disch := first | omega | decide) only [p1, zcn, zkpl, zki, zki1, zk8, zk16, zo32, zlt0, zle0, zeq0, zgt0, zLe0, nI_ltI, nI_leI, nI_eq, nI_add, nI_clamp, vp_in_nI, zup_s, zup_n, upd_s, upd_n, ne_eq, not_true_eq_false, not_false_eq_true] at hc <;> omega)
              | (intro hc; exact absurd rfl hc)
              | intro hc
              | apply And.intro
              | exact Or.inl rfl
              | exact Or.inr rfl
              | (show (_ : Int32) = 0 ∨ _ = 1; simp (disch := first | omega | decide) only [p1, zcn, zkpl, zki, zki1, zk8, zk16, zo32, zlt0, zle0, zeq0, zgt0, zLe0, nI_ltI, nI_leI, nI_eq, nI_add, nI_clamp, vp_in_nI, zup_s, zup_n, upd_s, upd_n, ne_eq, not_true_eq_false, not_false_eq_true, zeq1, true_or, or_true]; done))
          · have f1 : ∀ b, b = (if r = -9 then 0 else 1 : Int32) → ZW 205 (0, 0, 0, 0) 77 [(2, .int (nI dd)), (1, .int (nI t)), (0, .ref 42)] [.int b] (SH, u') Q := by
              intro b hb
              rcases e4 with rfl | rfl
              · rw [if_pos rfl] at hb
                subst hb
                refine zgo 20 [] ?_
                repeat' (first
                  | (show vp_in _ _; simp (disch := first | omega | decide) only [zcn, zkpl, zki, zki1, zk8, zk16, zo32, zlt0, zle0, zeq0, zgt0, zLe0, nI_ltI, nI_leI, nI_eq, nI_add, nI_clamp, vp_in_nI, zup_s, zup_n, upd_s, upd_n, ne_eq, not_true_eq_false, not_false_eq_true]; done)
                  | (intro hc; exfalso; simp (disch := first | omega | decide) only [zcn, zkpl, zki, zki1, zk8, zk16, zo32, zlt0, zle0, zeq0, zgt0, zLe0, nI_ltI, nI_leI, nI_eq, nI_add, nI_clamp, vp_in_nI, zup_s, zup_n, upd_s, upd_n, ne_eq, not_true_eq_false, not_false_eq_true] at hc <;> omega)
                  | (intro hc; exact absurd rfl hc)
                  | intro hc
                  | apply And.intro
                  | exact hQ
                  | (show Q _ (SH, _); simp (disch := first | omega | decide) only [zcn, zkpl, zki, zki1, zk8, zk16, zo32, zlt0, zle0, zeq0, zgt0, zLe0, nI_ltI, nI_leI, nI_eq, nI_add, nI_clamp, vp_in_nI, zup_s, zup_n, upd_s, upd_n, ne_eq, not_true_eq_false, not_false_eq_true]; exact hQ)
                  | exact Or.inl rfl
                  | exact Or.inr rfl
                  | (show (_ : Int32) = 0 ∨ _ = 1; simp (disch := first | omega | decide) only [zcn, zkpl, zki, zki1, zk8, zk16, zo32, zlt0, zle0, zeq0, zgt0, zLe0, nI_ltI, nI_leI, nI_eq, nI_add, nI_clamp, vp_in_nI, zup_s, zup_n, upd_s, upd_n, ne_eq, not_true_eq_false, not_false_eq_true, zeq1, true_or, or_true]; done))
              · have hr9 : ¬ nI (100 + t) = -9 := fun e => by
                  have := nI_pos (n := 100 + t) (by omega)
                  rw [e] at this
                  exact this (by decide)
                rw [if_neg hr9] at hb
                subst hb
                refine zgo 20 [] ?_
                repeat' (first
                  | (show vp_in _ _; simp (disch := first | omega | decide) only [z10, zcn, zkpl, zki, zki1, zk8, zk16, zo32, zlt0, zle0, zeq0, zgt0, zLe0, nI_ltI, nI_leI, nI_eq, nI_add, nI_clamp, vp_in_nI, zup_s, zup_n, upd_s, upd_n, ne_eq, not_true_eq_false, not_false_eq_true]; done)
                  | (intro hc; exfalso; simp (disch := first | omega | decide) only [z10, zcn, zkpl, zki, zki1, zk8, zk16, zo32, zlt0, zle0, zeq0, zgt0, zLe0, nI_ltI, nI_leI, nI_eq, nI_add, nI_clamp, vp_in_nI, zup_s, zup_n, upd_s, upd_n, ne_eq, not_true_eq_false, not_false_eq_true] at hc <;> omega)
                  | (intro hc; exact absurd rfl hc)
                  | intro hc
                  | apply And.intro
                  | exact hQ
                  | (show Q _ (SH, _); simp (disch := first | omega | decide) only [z10, zcn, zkpl, zki, zki1, zk8, zk16, zo32, zlt0, zle0, zeq0, zgt0, zLe0, nI_ltI, nI_leI, nI_eq, nI_add, nI_clamp, vp_in_nI, zup_s, zup_n, upd_s, upd_n, ne_eq, not_true_eq_false, not_false_eq_true]; exact hQ)
                  | exact Or.inl rfl
                  | exact Or.inr rfl
                  | (show (_ : Int32) = 0 ∨ _ = 1; simp (disch := first | omega | decide) only [z10, zcn, zkpl, zki, zki1, zk8, zk16, zo32, zlt0, zle0, zeq0, zgt0, zLe0, nI_ltI, nI_leI, nI_eq, nI_add, nI_clamp, vp_in_nI, zup_s, zup_n, upd_s, upd_n, ne_eq, not_true_eq_false, not_false_eq_true, zeq1, true_or, or_true]; done))
            have f2 : ZW 205 (0, 0, 0, 0) 70 [(2, .int (nI dd)), (1, .int (nI t)), (0, .ref 42)] [] (SH, m1) Q := by
              refine zgo 20 [] ?_
              exact e3.use (f1 _ rfl)
            have f3 : ∀ x y, x = nI t → y = nI dd → ZW 205 (0, 0, 0, 0) 70 [(2, .int y), (1, .int x), (0, .ref 42)] [] (SH, m1) Q := by
              rintro x y rfl rfl
              exact f2
            have g42 := e2 42 (by decide)
            have g66 := e2 66 (by decide)
            have g62 := e2 62 (by decide)
            have g61 := e2 61 (by decide)
            have g67 := e2 67 (by decide)
            have g68 := e2 68 (by decide)
            have hp2 : (m 61 t ≤ m 67 dd - m 68 dd + m 42 1) = False := eq_false (by rw [ez, x1]; exact Int32.not_le.mpr hpay)
            refine zgo 37 [] ?_
            repeat' (first
              | (exact f3 _ _ (by simp (disch := first | omega | decide) only [g66, h66, zcn, zkpl, zki, zki1, zk8, zk16, zo32, zlt0, zle0, zeq0, zgt0, zLe0, nI_ltI, nI_leI, nI_eq, nI_add, nI_clamp, vp_in_nI, zup_s, zup_n, upd_s, upd_n, ne_eq, not_true_eq_false, not_false_eq_true]) (by simp (disch := first | omega | decide) only [g66, g62, h66, h62, zcn, zkpl, zki, zki1, zk8, zk16, zo32, zlt0, zle0, zeq0, zgt0, zLe0, nI_ltI, nI_leI, nI_eq, nI_add, nI_clamp, vp_in_nI, zup_s, zup_n, upd_s, upd_n, ne_eq, not_true_eq_false, not_false_eq_true]))
              | (show vp_in _ _; simp (disch := first | omega | decide) only [g42, g66, g62, g61, g67, g68, p2, q2, j2, h66, h62, hp2, zcn, zkpl, zki, zki1, zk8, zk16, zo32, zlt0, zle0, zeq0, zgt0, zLe0, nI_ltI, nI_leI, nI_eq, nI_add, nI_clamp, vp_in_nI, zup_s, zup_n, upd_s, upd_n, ne_eq, not_true_eq_false, not_false_eq_true]; done)
              | (intro hc; exfalso; simp (disch := first | omega | decide) only [g42, g66, g62, g61, g67, g68, p2, q2, j2, h66, h62, hp2, zcn, zkpl, zki, zki1, zk8, zk16, zo32, zlt0, zle0, zeq0, zgt0, zLe0, nI_ltI, nI_leI, nI_eq, nI_add, nI_clamp, vp_in_nI, zup_s, zup_n, upd_s, upd_n, ne_eq, not_true_eq_false, not_false_eq_true] at hc <;> omega)
              | (intro hc; exact absurd rfl hc)
              | intro hc
              | apply And.intro
              | exact Or.inl rfl
              | exact Or.inr rfl
              | (show (_ : Int32) = 0 ∨ _ = 1; simp (disch := first | omega | decide) only [g42, g66, g62, g61, g67, g68, p2, q2, j2, h66, h62, hp2, zcn, zkpl, zki, zki1, zk8, zk16, zo32, zlt0, zle0, zeq0, zgt0, zLe0, nI_ltI, nI_leI, nI_eq, nI_add, nI_clamp, vp_in_nI, zup_s, zup_n, upd_s, upd_n, ne_eq, not_true_eq_false, not_false_eq_true, zeq1, true_or, or_true]; done))
        · obtain ⟨r, m1, u', J', n', W', d', nQ', e1, e2, e3, e4, e5, e6⟩ := op_hold h (by omega) hq1 ht h0 hcl hc2
          refine ⟨r, m1, u', J', n', W', d', nQ', fun Q hQ => ?_, fun Q hQ => ?_, e5, e6⟩
          · have f1 : ZW 134 (0, 0, 0, 0) 60 [(1, .int (nI t)), (0, .ref 0)] [.int r] (SH, m1) Q := by
              refine zgo 20 [] ?_
              exact hQ
            have f2 : ZW 134 (0, 0, 0, 0) 52 [(1, .int (nI t)), (0, .ref 0)] [.int 1] (SH, m) Q := by
              refine zgo 20 [] ?_
              repeat' (first
                | (exact e1.use f1)
                | (show vp_in _ _; simp (disch := first | omega | decide) only [z10, zcn, zkpl, zki, zki1, zk8, zk16, zo32, zlt0, zle0, zeq0, zgt0, zLe0, nI_ltI, nI_leI, nI_eq, nI_add, nI_clamp, vp_in_nI, zup_s, zup_n, upd_s, upd_n, ne_eq, not_true_eq_false, not_false_eq_true]; done)
                | (intro hc; exfalso; simp (disch := first | omega | decide) only [z10, zcn, zkpl, zki, zki1, zk8, zk16, zo32, zlt0, zle0, zeq0, zgt0, zLe0, nI_ltI, nI_leI, nI_eq, nI_add, nI_clamp, vp_in_nI, zup_s, zup_n, upd_s, upd_n, ne_eq, not_true_eq_false, not_false_eq_true] at hc <;> omega)
                | (intro hc; exact absurd rfl hc)
                | intro hc
                | apply And.intro
                | exact Or.inl rfl
                | exact Or.inr rfl
                | (show (_ : Int32) = 0 ∨ _ = 1; simp (disch := first | omega | decide) only [z10, zcn, zkpl, zki, zki1, zk8, zk16, zo32, zlt0, zle0, zeq0, zgt0, zLe0, nI_ltI, nI_leI, nI_eq, nI_add, nI_clamp, vp_in_nI, zup_s, zup_n, upd_s, upd_n, ne_eq, not_true_eq_false, not_false_eq_true, zeq1, true_or, or_true]; done))
            have f3 : ZW 134 (0, 0, 0, 0) 36 [(1, .int (nI t)), (0, .ref 0)] [.int (nI W)] (SH, m) Q := by
              refine zgo 20 [] ?_
              repeat' (first
                | (exact (ev_pay t1 t3 ht b5 b4 (Or.inl ⟨rfl, hpay⟩)).use f2)
                | (show vp_in _ _; simp (disch := first | omega | decide) only [zcn, zkpl, zki, zki1, zk8, zk16, zo32, zlt0, zle0, zeq0, zgt0, zLe0, nI_ltI, nI_leI, nI_eq, nI_add, nI_clamp, vp_in_nI, zup_s, zup_n, upd_s, upd_n, ne_eq, not_true_eq_false, not_false_eq_true]; done)
                | (intro hc; exfalso; simp (disch := first | omega | decide) only [zcn, zkpl, zki, zki1, zk8, zk16, zo32, zlt0, zle0, zeq0, zgt0, zLe0, nI_ltI, nI_leI, nI_eq, nI_add, nI_clamp, vp_in_nI, zup_s, zup_n, upd_s, upd_n, ne_eq, not_true_eq_false, not_false_eq_true] at hc <;> omega)
                | (intro hc; exact absurd rfl hc)
                | intro hc
                | apply And.intro
                | exact Or.inl rfl
                | exact Or.inr rfl
                | (show (_ : Int32) = 0 ∨ _ = 1; simp (disch := first | omega | decide) only [zcn, zkpl, zki, zki1, zk8, zk16, zo32, zlt0, zle0, zeq0, zgt0, zLe0, nI_ltI, nI_leI, nI_eq, nI_add, nI_clamp, vp_in_nI, zup_s, zup_n, upd_s, upd_n, ne_eq, not_true_eq_false, not_false_eq_true, zeq1, true_or, or_true]; done))
            have f4 : ZW 134 (0, 0, 0, 0) 23 [(0, .ref 0)] [.int (nI t)] (SH, m) Q := by
              have g := ev_len (m := m)
              rw [j1] at g
              refine zgo 20 [] ?_
              repeat' (first
                | (exact g.use f3)
                | (show vp_in _ _; simp (disch := first | omega | decide) only [hne, zcn, zkpl, zki, zki1, zk8, zk16, zo32, zlt0, zle0, zeq0, zgt0, zLe0, nI_ltI, nI_leI, nI_eq, nI_add, nI_clamp, vp_in_nI, zup_s, zup_n, upd_s, upd_n, ne_eq, not_true_eq_false, not_false_eq_true]; done)
                | (intro hc; exfalso; simp (disch := first | omega | decide) only [hne, zcn, zkpl, zki, zki1, zk8, zk16, zo32, zlt0, zle0, zeq0, zgt0, zLe0, nI_ltI, nI_leI, nI_eq, nI_add, nI_clamp, vp_in_nI, zup_s, zup_n, upd_s, upd_n, ne_eq, not_true_eq_false, not_false_eq_true] at hc <;> omega)
                | (intro hc; exact absurd rfl hc)
                | intro hc
                | apply And.intro
                | exact Or.inl rfl
                | exact Or.inr rfl
                | (show (_ : Int32) = 0 ∨ _ = 1; simp (disch := first | omega | decide) only [hne, zcn, zkpl, zki, zki1, zk8, zk16, zo32, zlt0, zle0, zeq0, zgt0, zLe0, nI_ltI, nI_leI, nI_eq, nI_add, nI_clamp, vp_in_nI, zup_s, zup_n, upd_s, upd_n, ne_eq, not_true_eq_false, not_false_eq_true, zeq1, true_or, or_true]; done))
            have g := ev_fq q1 hq1 (by omega)
            rw [h0] at g
            refine zgo 20 [53] ?_
            repeat' (first
              | (exact g.use f4)
              | (show vp_in _ _; simp (disch := first | omega | decide) only [p1, zcn, zkpl, zki, zki1, zk8, zk16, zo32, zlt0, zle0, zeq0, zgt0, zLe0, nI_ltI, nI_leI, nI_eq, nI_add, nI_clamp, vp_in_nI, zup_s, zup_n, upd_s, upd_n, ne_eq, not_true_eq_false, not_false_eq_true]; done)
              | (intro hc; exfalso; simp (disch := first | omega | decide) only [p1, zcn, zkpl, zki, zki1, zk8, zk16, zo32, zlt0, zle0, zeq0, zgt0, zLe0, nI_ltI, nI_leI, nI_eq, nI_add, nI_clamp, vp_in_nI, zup_s, zup_n, upd_s, upd_n, ne_eq, not_true_eq_false, not_false_eq_true] at hc <;> omega)
              | (intro hc; exact absurd rfl hc)
              | intro hc
              | apply And.intro
              | exact Or.inl rfl
              | exact Or.inr rfl
              | (show (_ : Int32) = 0 ∨ _ = 1; simp (disch := first | omega | decide) only [p1, zcn, zkpl, zki, zki1, zk8, zk16, zo32, zlt0, zle0, zeq0, zgt0, zLe0, nI_ltI, nI_leI, nI_eq, nI_add, nI_clamp, vp_in_nI, zup_s, zup_n, upd_s, upd_n, ne_eq, not_true_eq_false, not_false_eq_true, zeq1, true_or, or_true]; done))
          · have f1 : ∀ b, b = (if r = -9 then 0 else 1 : Int32) → ZW 205 (0, 0, 0, 0) 145 [(3, .int (nI (c + 30))), (2, .int (nI dd)), (1, .int (nI t)), (0, .ref 42)] [.int b] (SH, u') Q := by
              intro b hb
              rcases e4 with rfl | rfl
              · rw [if_pos rfl] at hb
                subst hb
                refine zgo 20 [] ?_
                repeat' (first
                  | (show vp_in _ _; simp (disch := first | omega | decide) only [zcn, zkpl, zki, zki1, zk8, zk16, zo32, zlt0, zle0, zeq0, zgt0, zLe0, nI_ltI, nI_leI, nI_eq, nI_add, nI_clamp, vp_in_nI, zup_s, zup_n, upd_s, upd_n, ne_eq, not_true_eq_false, not_false_eq_true]; done)
                  | (intro hc; exfalso; simp (disch := first | omega | decide) only [zcn, zkpl, zki, zki1, zk8, zk16, zo32, zlt0, zle0, zeq0, zgt0, zLe0, nI_ltI, nI_leI, nI_eq, nI_add, nI_clamp, vp_in_nI, zup_s, zup_n, upd_s, upd_n, ne_eq, not_true_eq_false, not_false_eq_true] at hc <;> omega)
                  | (intro hc; exact absurd rfl hc)
                  | intro hc
                  | apply And.intro
                  | exact hQ
                  | (show Q _ (SH, _); simp (disch := first | omega | decide) only [zcn, zkpl, zki, zki1, zk8, zk16, zo32, zlt0, zle0, zeq0, zgt0, zLe0, nI_ltI, nI_leI, nI_eq, nI_add, nI_clamp, vp_in_nI, zup_s, zup_n, upd_s, upd_n, ne_eq, not_true_eq_false, not_false_eq_true]; exact hQ)
                  | exact Or.inl rfl
                  | exact Or.inr rfl
                  | (show (_ : Int32) = 0 ∨ _ = 1; simp (disch := first | omega | decide) only [zcn, zkpl, zki, zki1, zk8, zk16, zo32, zlt0, zle0, zeq0, zgt0, zLe0, nI_ltI, nI_leI, nI_eq, nI_add, nI_clamp, vp_in_nI, zup_s, zup_n, upd_s, upd_n, ne_eq, not_true_eq_false, not_false_eq_true, zeq1, true_or, or_true]; done))
              · have hr9 : ¬ nI t = -9 := fun e => by
                  have := nI_pos (n := t) (by omega)
                  rw [e] at this
                  exact this (by decide)
                rw [if_neg hr9] at hb
                subst hb
                refine zgo 20 [] ?_
                repeat' (first
                  | (show vp_in _ _; simp (disch := first | omega | decide) only [z10, zcn, zkpl, zki, zki1, zk8, zk16, zo32, zlt0, zle0, zeq0, zgt0, zLe0, nI_ltI, nI_leI, nI_eq, nI_add, nI_clamp, vp_in_nI, zup_s, zup_n, upd_s, upd_n, ne_eq, not_true_eq_false, not_false_eq_true]; done)
                  | (intro hc; exfalso; simp (disch := first | omega | decide) only [z10, zcn, zkpl, zki, zki1, zk8, zk16, zo32, zlt0, zle0, zeq0, zgt0, zLe0, nI_ltI, nI_leI, nI_eq, nI_add, nI_clamp, vp_in_nI, zup_s, zup_n, upd_s, upd_n, ne_eq, not_true_eq_false, not_false_eq_true] at hc <;> omega)
                  | (intro hc; exact absurd rfl hc)
                  | intro hc
                  | apply And.intro
                  | exact hQ
                  | (show Q _ (SH, _); simp (disch := first | omega | decide) only [z10, zcn, zkpl, zki, zki1, zk8, zk16, zo32, zlt0, zle0, zeq0, zgt0, zLe0, nI_ltI, nI_leI, nI_eq, nI_add, nI_clamp, vp_in_nI, zup_s, zup_n, upd_s, upd_n, ne_eq, not_true_eq_false, not_false_eq_true]; exact hQ)
                  | exact Or.inl rfl
                  | exact Or.inr rfl
                  | (show (_ : Int32) = 0 ∨ _ = 1; simp (disch := first | omega | decide) only [z10, zcn, zkpl, zki, zki1, zk8, zk16, zo32, zlt0, zle0, zeq0, zgt0, zLe0, nI_ltI, nI_leI, nI_eq, nI_add, nI_clamp, vp_in_nI, zup_s, zup_n, upd_s, upd_n, ne_eq, not_true_eq_false, not_false_eq_true, zeq1, true_or, or_true]; done))
            have k1 : nI (c + 30) / nI 65536 = nI ((c + 30) / 65536) := pk_div (by omega) (by decide) (by decide)
            have k2 : nI ((c + 30) / 256) - nI ((c + 30) / 256) / nI 256 * nI 256 = nI ((c + 30) / 256 % 256) := pk_rem (by omega) (by decide) (by decide)
            have k3 : nI (c + 30) - nI (c + 30) / nI 256 * nI 256 = nI ((c + 30) % 256) := pk_rem (by omega) (by decide) (by decide)
            have k4 : nI (c + 30) / nI 256 = nI ((c + 30) / 256) := pk_div (by omega) (by decide) (by decide)
            rw [k4] at k3
            have f2 : ZW 205 (0, 0, 0, 0) 98 [(3, .int (nI (c + 30))), (2, .int (nI dd)), (1, .int (nI t)), (0, .ref 42)] [] (SH, m1) Q := by
              refine zgo 20 [] ?_
              refine (ev_bo (s := 0) (nI t) (by simp (disch := first | omega | decide) only [zcn, zkpl, zki, zki1, zk8, zk16, zo32, zlt0, zle0, zeq0, zgt0, zLe0, nI_ltI, nI_leI, nI_eq, nI_add, nI_clamp, vp_in_nI, zup_s, zup_n, upd_s, upd_n, ne_eq, not_true_eq_false, not_false_eq_true]) (by decide)).use ?_
              refine zgo 20 [] ?_
              refine ⟨by decide, ?_⟩
              show ZM 185 0 0 [.ref 42, .int (nI (c + 30) / Int32.ofInt 65536)] (SH, _) _
              rw [zki, k1]
              refine (ev_bo (s := 1) _ (by simp (disch := first | omega | decide) only [zcn, zkpl, zki, zki1, zk8, zk16, zo32, zlt0, zle0, zeq0, zgt0, zLe0, nI_ltI, nI_leI, nI_eq, nI_add, nI_clamp, vp_in_nI, zup_s, zup_n, upd_s, upd_n, ne_eq, not_true_eq_false, not_false_eq_true]) (by decide)).use ?_
              refine zgo 20 [] ?_
              refine ⟨by decide, by decide, ?_⟩
              show ZM 185 0 0 [.ref 42, .int (nI (c + 30) / (Int16.ofInt 256).toInt32 - nI (c + 30) / (Int16.ofInt 256).toInt32 / (Int16.ofInt 256).toInt32 * (Int16.ofInt 256).toInt32)] (SH, _) _
              rw [show (Int16.ofInt 256).toInt32 = nI 256 by decide, k4, k2]
              refine (ev_bo (s := 2) _ (by simp (disch := first | omega | decide) only [zcn, zkpl, zki, zki1, zk8, zk16, zo32, zlt0, zle0, zeq0, zgt0, zLe0, nI_ltI, nI_leI, nI_eq, nI_add, nI_clamp, vp_in_nI, zup_s, zup_n, upd_s, upd_n, ne_eq, not_true_eq_false, not_false_eq_true]) (by decide)).use ?_
              refine zgo 20 [] ?_
              refine ⟨by decide, ?_⟩
              show ZM 185 0 0 [.ref 42, .int (nI (c + 30) - nI (c + 30) / (Int16.ofInt 256).toInt32 * (Int16.ofInt 256).toInt32)] (SH, _) _
              rw [show (Int16.ofInt 256).toInt32 = nI 256 by decide, k4, k3]
              refine (ev_bo (s := 3) _ (by simp (disch := first | omega | decide) only [zcn, zkpl, zki, zki1, zk8, zk16, zo32, zlt0, zle0, zeq0, zgt0, zLe0, nI_ltI, nI_leI, nI_eq, nI_add, nI_clamp, vp_in_nI, zup_s, zup_n, upd_s, upd_n, ne_eq, not_true_eq_false, not_false_eq_true]) (by decide)).use ?_
              refine zgo 20 [] ?_
              exact e3.use (f1 _ rfl)
            have f3 : ∀ x y z, x = nI t → y = nI dd → z = nI (c + 30) → ZW 205 (0, 0, 0, 0) 98 [(3, .int z), (2, .int y), (1, .int x), (0, .ref 42)] [] (SH, m1) Q := by
              rintro x y z rfl rfl rfl
              exact f2
            have g42 := e2 42 (by decide)
            have g66 := e2 66 (by decide)
            have g62 := e2 62 (by decide)
            have g61 := e2 61 (by decide)
            have g67 := e2 67 (by decide)
            have g68 := e2 68 (by decide)
            have hp2 : (m 61 t ≤ m 67 dd - m 68 dd + m 42 1) = True := eq_true (by rw [ez, x1]; exact Int32.not_lt.mp hpay)
            refine zgo 42 [] ?_
            repeat' (first
              | (exact f3 _ _ _ (by simp (disch := first | omega | decide) only [g66, h66, zcn, zkpl, zki, zki1, zk8, zk16, zo32, zlt0, zle0, zeq0, zgt0, zLe0, nI_ltI, nI_leI, nI_eq, nI_add, nI_clamp, vp_in_nI, zup_s, zup_n, upd_s, upd_n, ne_eq, not_true_eq_false, not_false_eq_true]) (by simp (disch := first | omega | decide) only [g66, g62, h66, h62, zcn, zkpl, zki, zki1, zk8, zk16, zo32, zlt0, zle0, zeq0, zgt0, zLe0, nI_ltI, nI_leI, nI_eq, nI_add, nI_clamp, vp_in_nI, zup_s, zup_n, upd_s, upd_n, ne_eq, not_true_eq_false, not_false_eq_true]) (by simp (disch := first | omega | decide) only [g42, hcm, zcn, zkpl, zki, zki1, zk8, zk16, zo32, zlt0, zle0, zeq0, zgt0, zLe0, nI_ltI, nI_leI, nI_eq, nI_add, nI_clamp, vp_in_nI, zup_s, zup_n, upd_s, upd_n, ne_eq, not_true_eq_false, not_false_eq_true]))
              | (show vp_in _ _; simp (disch := first | omega | decide) only [g42, g66, g62, g61, g67, g68, p2, q2, j2, h66, h62, hp2, zcn, zkpl, zki, zki1, zk8, zk16, zo32, zlt0, zle0, zeq0, zgt0, zLe0, nI_ltI, nI_leI, nI_eq, nI_add, nI_clamp, vp_in_nI, zup_s, zup_n, upd_s, upd_n, ne_eq, not_true_eq_false, not_false_eq_true]; done)
              | (intro hc; exfalso; simp (disch := first | omega | decide) only [g42, g66, g62, g61, g67, g68, p2, q2, j2, h66, h62, hp2, zcn, zkpl, zki, zki1, zk8, zk16, zo32, zlt0, zle0, zeq0, zgt0, zLe0, nI_ltI, nI_leI, nI_eq, nI_add, nI_clamp, vp_in_nI, zup_s, zup_n, upd_s, upd_n, ne_eq, not_true_eq_false, not_false_eq_true] at hc <;> omega)
              | (intro hc; exact absurd rfl hc)
              | intro hc
              | apply And.intro
              | exact Or.inl rfl
              | exact Or.inr rfl
              | (show (_ : Int32) = 0 ∨ _ = 1; simp (disch := first | omega | decide) only [g42, g66, g62, g61, g67, g68, p2, q2, j2, h66, h62, hp2, zcn, zkpl, zki, zki1, zk8, zk16, zo32, zlt0, zle0, zeq0, zgt0, zLe0, nI_ltI, nI_leI, nI_eq, nI_add, nI_clamp, vp_in_nI, zup_s, zup_n, upd_s, upd_n, ne_eq, not_true_eq_false, not_false_eq_true, zeq1, true_or, or_true]; done))
  · refine ⟨-9, m, m, J, n, W, 1, nQ, fun Q hQ => ?_, fun Q hQ => ?_, h, keep.rf m⟩
    · refine zgo 20 [53] ?_
      repeat' (first
        | (show vp_in _ _; simp (disch := first | omega | decide) only [p1, zcn, zkpl, zki, zki1, zk8, zk16, zo32, zlt0, zle0, zeq0, zgt0, zLe0, nI_ltI, nI_leI, nI_eq, nI_add, nI_clamp, vp_in_nI, zup_s, zup_n, upd_s, upd_n, ne_eq, not_true_eq_false, not_false_eq_true]; done)
        | (intro hc; exfalso; simp (disch := first | omega | decide) only [p1, zcn, zkpl, zki, zki1, zk8, zk16, zo32, zlt0, zle0, zeq0, zgt0, zLe0, nI_ltI, nI_leI, nI_eq, nI_add, nI_clamp, vp_in_nI, zup_s, zup_n, upd_s, upd_n, ne_eq, not_true_eq_false, not_false_eq_true] at hc <;> omega)
        | (intro hc; exact absurd rfl hc)
        | intro hc
        | apply And.intro
        | exact hQ
        | (show Q _ (SH, _); simp (disch := first | omega | decide) only [p1, zcn, zkpl, zki, zki1, zk8, zk16, zo32, zlt0, zle0, zeq0, zgt0, zLe0, nI_ltI, nI_leI, nI_eq, nI_add, nI_clamp, vp_in_nI, zup_s, zup_n, upd_s, upd_n, ne_eq, not_true_eq_false, not_false_eq_true]; exact hQ)
        | exact Or.inl rfl
        | exact Or.inr rfl
        | (show (_ : Int32) = 0 ∨ _ = 1; simp (disch := first | omega | decide) only [p1, zcn, zkpl, zki, zki1, zk8, zk16, zo32, zlt0, zle0, zeq0, zgt0, zLe0, nI_ltI, nI_leI, nI_eq, nI_add, nI_clamp, vp_in_nI, zup_s, zup_n, upd_s, upd_n, ne_eq, not_true_eq_false, not_false_eq_true, zeq1, true_or, or_true]; done))
    · refine zgo 20 [] ?_
      repeat' (first
        | (show vp_in _ _; simp (disch := first | omega | decide) only [p2, zcn, zkpl, zki, zki1, zk8, zk16, zo32, zlt0, zle0, zeq0, zgt0, zLe0, nI_ltI, nI_leI, nI_eq, nI_add, nI_clamp, vp_in_nI, zup_s, zup_n, upd_s, upd_n, ne_eq, not_true_eq_false, not_false_eq_true]; done)
        | (intro hc; exfalso; simp (disch := first | omega | decide) only [p2, zcn, zkpl, zki, zki1, zk8, zk16, zo32, zlt0, zle0, zeq0, zgt0, zLe0, nI_ltI, nI_leI, nI_eq, nI_add, nI_clamp, vp_in_nI, zup_s, zup_n, upd_s, upd_n, ne_eq, not_true_eq_false, not_false_eq_true] at hc <;> omega)
        | (intro hc; exact absurd rfl hc)
        | intro hc
        | apply And.intro
        | exact hQ
        | (show Q _ (SH, _); simp (disch := first | omega | decide) only [p2, zcn, zkpl, zki, zki1, zk8, zk16, zo32, zlt0, zle0, zeq0, zgt0, zLe0, nI_ltI, nI_leI, nI_eq, nI_add, nI_clamp, vp_in_nI, zup_s, zup_n, upd_s, upd_n, ne_eq, not_true_eq_false, not_false_eq_true]; exact hQ)
        | exact Or.inl rfl
        | exact Or.inr rfl
        | (show (_ : Int32) = 0 ∨ _ = 1; simp (disch := first | omega | decide) only [p2, zcn, zkpl, zki, zki1, zk8, zk16, zo32, zlt0, zle0, zeq0, zgt0, zLe0, nI_ltI, nI_leI, nI_eq, nI_add, nI_clamp, vp_in_nI, zup_s, zup_n, upd_s, upd_n, ne_eq, not_true_eq_false, not_false_eq_true, zeq1, true_or, or_true]; done))
