/-! isValid -/
def cr (s : pS) (k : Nat) : Nat := if k = 0 then 73 else if k = 1 then (if s 2 0 = 80 then 78 else 79) else if s 2 0 = 80 then 83 else if s 2 0 = 81 then 86 else 65
def pF (s : pS) (u : zM) (t : Nat) : Prop := ∀ t', t' < t → (4 + 5 * t' < s 0 1 ∧ s 9 (4 + 5 * t') = 0 ∧ kc (s 9) 0 (4 + 5 * t') = 3 + t' ∧ PT s (4 + 5 * t')) ∧ vT u s t' (4 + 5 * t') ∧ ∀ i, i < 4 → tr1 u s (4 + 5 * t' + 1 + i)
theorem LF_lf {s : pS} (h : lay s) {c1 c2 c3 : Nat} (h1 : LF s 1 c1) (h2 : LF s 2 c2) (h3 : LF s 3 c3) : lfO s 0 0 c1 1 ∧ lfO s 0 1 c2 2 ∧ lfO s 0 2 c3 3 := by
  obtain ⟨k1, k2, k3, k4⟩ := LF_kc h h1 h2 h3
  exact ⟨⟨ch_is (by omega) h1.1 h1.2.1 k1, h1.2.2.1, h1.2.2.2.1⟩, ⟨ch_is (by omega) h2.1 h2.2.1 k2, h2.2.2.1, h2.2.2.2.1⟩, ⟨ch_is (by omega) h3.1 h3.2.1 k3, h3.2.2.1, h3.2.2.2.1⟩⟩
theorem lf_LF {s : pS} {k c : Nat} (hl : lfO s 0 k c (0 + 1 + k)) (hg : gV s (k + 1)) : LF s (k + 1) c := by
  obtain ⟨a1, a2, a3, a4⟩ := ch_some hl.1
  rw [show 0 + 1 + k = k + 1 by omega] at *
  exact ⟨a2, a3, hl.2.1, hl.2.2, hg⟩
theorem cl_lf {s : pS} (h : lay s) (hv : clV s) : s 6 0 = 0 ∧ (s 2 0 = 80 ∨ s 2 0 = 81 ∨ s 2 0 = 82) ∧ ∀ k, k < 3 → LF s (k + 1) (cr s k) ∧ lfO s 0 k (cr s k) (k + 1) := by
  have fin : ∀ c2 c3, LF s 1 73 → LF s 2 c2 → LF s 3 c3 → cr s 1 = c2 → cr s 2 = c3 → ∀ k, k < 3 → LF s (k + 1) (cr s k) ∧ lfO s 0 k (cr s k) (k + 1) := by
    intro c2 c3 h1 h2 h3 e2 e3 k hk
    obtain ⟨a1, a2, a3⟩ := LF_lf h h1 h2 h3
    rcases (show k = 0 ∨ k = 1 ∨ k = 2 by omega) with rfl | rfl | rfl
    · exact ⟨h1, a1⟩
    · rw [e2]
      exact ⟨h2, a2⟩
    · rw [e3]
      exact ⟨h3, a3⟩
  have hv' := hv
  rcases hv with ⟨k0, _⟩ | ⟨k0, _⟩ | ⟨k0, _⟩
  · obtain ⟨n, _, _, _, v1, v2, ⟨v3, v4, v5⟩, v6⟩ := cl_VP h k0 hv'
    exact ⟨v1, Or.inl k0, fin _ _ v3 v4 v5 (by unfold cr; rw [if_neg (by decide), if_pos rfl, if_pos k0]) (by unfold cr; rw [if_neg (by decide), if_neg (by decide), if_pos k0])⟩
  · obtain ⟨_, v1, v2, v3, v4, v5⟩ := cl_VQ h (Or.inl ⟨k0, rfl⟩) hv'
    exact ⟨v1, Or.inr (Or.inl k0), fin _ _ v3 v4 v5 (by unfold cr; rw [if_neg (by decide), if_pos rfl, if_neg (by omega)]) (by unfold cr; rw [if_neg (by decide), if_neg (by decide), if_neg (by omega), if_pos k0])⟩
  · obtain ⟨_, v1, v2, v3, v4, v5⟩ := cl_VQ h (Or.inr ⟨k0, rfl⟩) hv'
    exact ⟨v1, Or.inr (Or.inr k0), fin _ _ v3 v4 v5 (by unfold cr; rw [if_neg (by decide), if_pos rfl, if_neg (by omega)]) (by unfold cr; rw [if_neg (by decide), if_neg (by decide), if_neg (by omega), if_neg (by omega)])⟩
theorem vT_o {s : pS} {u u' : zM} {t t' e : Nat} (h : vT u s t' e) (ho : oth t u u') (hne : t' ≠ t) : vT u' s t' e := by
  obtain ⟨o1, o2, o3⟩ := ho
  obtain ⟨a1, a2, a3, a4⟩ := o1 t' hne
  unfold vT
  rw [a1, a2, a3, a4, o2 (2 * t') (by omega) (by omega), o2 (2 * t' + 1) (by omega) (by omega)]
  exact h
def vlR (x3 x2 x1 x0 : Value) (t : Nat) (b : Int32) : zLs := [(6, .int (nI t)), (5, .int b), (4, x3), (3, x2), (2, x1), (1, x0), (0, .ref 42)]
theorem vl_ex {u : zM} {n t : Nat} {y3 y2 y1 y0 : Int32} (hu : u 42 30 = nI n) (hn : n ≤ 3) (ht : t ≤ 3) {b : Int32} (hb : b = 0 ∨ (b = 1 ∧ n ≤ t)) {Q : zQ} (hQ : Q (some (.int b)) (SH, u)) : ZW 179 (0, 0, 0, 0) 194 (vlR (.int y3) (.int y2) (.int y1) (.int y0) t b) [] (SH, u) Q := by
  unfold vlR
  rcases hb with rfl | ⟨rfl, hb⟩
  · have f : ZW 179 (0, 0, 0, 0) 222 [(6, .int (nI t)), (5, .int 0), (4, .int y3), (3, .int y2), (2, .int y1), (1, .int y0), (0, .ref 42)] [] (SH, u) Q := by
      refine zgo 5 [] ?_
      repeat' (first
        | (show vp_in _ _; simp (disch := first | omega | decide) only [zcn, zkpl, zki, zki1, zk8, zk16, zo32, zlt0, zle0, zeq0, zgt0, zLe0, nI_ltI, nI_leI, nI_eq, nI_add, nI_clamp, vp_in_nI, zup_s, zup_n, upd_s, upd_n, ne_eq, not_true_eq_false, not_false_eq_true]; done)
        | (intro hc; exfalso; simp (disch := first | omega | decide) only [zcn, zkpl, zki, zki1, zk8, zk16, zo32, zlt0, zle0, zeq0, zgt0, zLe0, nI_ltI, nI_leI, nI_eq, nI_add, nI_clamp, vp_in_nI, zup_s, zup_n, upd_s, upd_n, ne_eq, not_true_eq_false, not_false_eq_true] at hc <;> omega)
        | (intro hc; exact absurd rfl hc)
        | intro hc
        | apply And.intro
        | exact hQ
        | (show Q _ (SH, _); simp (disch := first | omega | decide) only [zcn, zkpl, zki, zki1, zk8, zk16, zo32, zlt0, zle0, zeq0, zgt0, zLe0, nI_ltI, nI_leI, nI_eq, nI_add, nI_clamp, vp_in_nI, zup_s, zup_n, upd_s, upd_n, ne_eq, not_true_eq_false, not_false_eq_true]; exact hQ)
        | exact Or.inl rfl
        | exact Or.inr rfl
        | (show (_ : Int32) = 0 ∨ _ = 1; simp (disch := first | omega | decide) only [zcn, zkpl, zki, zki1, zk8, zk16, zo32, zlt0, zle0, zeq0, zgt0, zLe0, nI_ltI, nI_leI, nI_eq, nI_add, nI_clamp, vp_in_nI, zup_s, zup_n, upd_s, upd_n, ne_eq, not_true_eq_false, not_false_eq_true, zeq1, true_or, or_true]; done))
    by_cases e : t < n
    · refine zgo 6 [] ?_
      repeat' (first
        | (exact f)
        | (show vp_in _ _; simp (disch := first | omega | decide) only [hu, zcn, zkpl, zki, zki1, zk8, zk16, zo32, zlt0, zle0, zeq0, zgt0, zLe0, nI_ltI, nI_leI, nI_eq, nI_add, nI_clamp, vp_in_nI, zup_s, zup_n, upd_s, upd_n, ne_eq, not_true_eq_false, not_false_eq_true]; done)
        | (intro hc; exfalso; simp (disch := first | omega | decide) only [hu, zcn, zkpl, zki, zki1, zk8, zk16, zo32, zlt0, zle0, zeq0, zgt0, zLe0, nI_ltI, nI_leI, nI_eq, nI_add, nI_clamp, vp_in_nI, zup_s, zup_n, upd_s, upd_n, ne_eq, not_true_eq_false, not_false_eq_true] at hc <;> omega)
        | (intro hc; exact absurd rfl hc)
        | intro hc
        | apply And.intro
        | exact Or.inl rfl
        | exact Or.inr rfl
        | (show (_ : Int32) = 0 ∨ _ = 1; simp (disch := first | omega | decide) only [hu, zcn, zkpl, zki, zki1, zk8, zk16, zo32, zlt0, zle0, zeq0, zgt0, zLe0, nI_ltI, nI_leI, nI_eq, nI_add, nI_clamp, vp_in_nI, zup_s, zup_n, upd_s, upd_n, ne_eq, not_true_eq_false, not_false_eq_true, zeq1, true_or, or_true]; done))
    · refine zgo 4 [] ?_
      repeat' (first
        | (exact f)
        | (show vp_in _ _; simp (disch := first | omega | decide) only [hu, zcn, zkpl, zki, zki1, zk8, zk16, zo32, zlt0, zle0, zeq0, zgt0, zLe0, nI_ltI, nI_leI, nI_eq, nI_add, nI_clamp, vp_in_nI, zup_s, zup_n, upd_s, upd_n, ne_eq, not_true_eq_false, not_false_eq_true]; done)
        | (intro hc; exfalso; simp (disch := first | omega | decide) only [hu, zcn, zkpl, zki, zki1, zk8, zk16, zo32, zlt0, zle0, zeq0, zgt0, zLe0, nI_ltI, nI_leI, nI_eq, nI_add, nI_clamp, vp_in_nI, zup_s, zup_n, upd_s, upd_n, ne_eq, not_true_eq_false, not_false_eq_true] at hc <;> omega)
        | (intro hc; exact absurd rfl hc)
        | intro hc
        | apply And.intro
        | exact Or.inl rfl
        | exact Or.inr rfl
        | (show (_ : Int32) = 0 ∨ _ = 1; simp (disch := first | omega | decide) only [hu, zcn, zkpl, zki, zki1, zk8, zk16, zo32, zlt0, zle0, zeq0, zgt0, zLe0, nI_ltI, nI_leI, nI_eq, nI_add, nI_clamp, vp_in_nI, zup_s, zup_n, upd_s, upd_n, ne_eq, not_true_eq_false, not_false_eq_true, zeq1, true_or, or_true]; done))
  · have f : ZW 179 (0, 0, 0, 0) 222 [(6, .int (nI t)), (5, .int 1), (4, .int y3), (3, .int y2), (2, .int y1), (1, .int y0), (0, .ref 42)] [] (SH, u) Q := by
      refine zgo 5 [] ?_
      repeat' (first
        | (show vp_in _ _; simp (disch := first | omega | decide) only [zcn, zkpl, zki, zki1, zk8, zk16, zo32, zlt0, zle0, zeq0, zgt0, zLe0, nI_ltI, nI_leI, nI_eq, nI_add, nI_clamp, vp_in_nI, zup_s, zup_n, upd_s, upd_n, ne_eq, not_true_eq_false, not_false_eq_true]; done)
        | (intro hc; exfalso; simp (disch := first | omega | decide) only [zcn, zkpl, zki, zki1, zk8, zk16, zo32, zlt0, zle0, zeq0, zgt0, zLe0, nI_ltI, nI_leI, nI_eq, nI_add, nI_clamp, vp_in_nI, zup_s, zup_n, upd_s, upd_n, ne_eq, not_true_eq_false, not_false_eq_true] at hc <;> omega)
        | (intro hc; exact absurd rfl hc)
        | intro hc
        | apply And.intro
        | exact hQ
        | (show Q _ (SH, _); simp (disch := first | omega | decide) only [zcn, zkpl, zki, zki1, zk8, zk16, zo32, zlt0, zle0, zeq0, zgt0, zLe0, nI_ltI, nI_leI, nI_eq, nI_add, nI_clamp, vp_in_nI, zup_s, zup_n, upd_s, upd_n, ne_eq, not_true_eq_false, not_false_eq_true]; exact hQ)
        | exact Or.inl rfl
        | exact Or.inr rfl
        | (show (_ : Int32) = 0 ∨ _ = 1; simp (disch := first | omega | decide) only [zcn, zkpl, zki, zki1, zk8, zk16, zo32, zlt0, zle0, zeq0, zgt0, zLe0, nI_ltI, nI_leI, nI_eq, nI_add, nI_clamp, vp_in_nI, zup_s, zup_n, upd_s, upd_n, ne_eq, not_true_eq_false, not_false_eq_true, zeq1, true_or, or_true]; done))
    refine zgo 4 [] ?_
    repeat' (first
      | (exact f)
      | (show vp_in _ _; simp (disch := first | omega | decide) only [hu, zcn, zkpl, zki, zki1, zk8, zk16, zo32, zlt0, zle0, zeq0, zgt0, zLe0, nI_ltI, nI_leI, nI_eq, nI_add, nI_clamp, vp_in_nI, zup_s, zup_n, upd_s, upd_n, ne_eq, not_true_eq_false, not_false_eq_true]; done)
      | (intro hc; exfalso; simp (disch := first | omega | decide) only [hu, zcn, zkpl, zki, zki1, zk8, zk16, zo32, zlt0, zle0, zeq0, zgt0, zLe0, nI_ltI, nI_leI, nI_eq, nI_add, nI_clamp, vp_in_nI, zup_s, zup_n, upd_s, upd_n, ne_eq, not_true_eq_false, not_false_eq_true] at hc <;> omega)
      | (intro hc; exact absurd rfl hc)
      | intro hc
      | apply And.intro
      | exact Or.inl rfl
      | exact Or.inr rfl
      | (show (_ : Int32) = 0 ∨ _ = 1; simp (disch := first | omega | decide) only [hu, zcn, zkpl, zki, zki1, zk8, zk16, zo32, zlt0, zle0, zeq0, zgt0, zLe0, nI_ltI, nI_leI, nI_eq, nI_add, nI_clamp, vp_in_nI, zup_s, zup_n, upd_s, upd_n, ne_eq, not_true_eq_false, not_false_eq_true, zeq1, true_or, or_true]; done))
theorem vl_loop {s : pS} (hs : mdy s) (h : lay s) (k80 : s 2 0 = 80) {n : Nat} (n1 : 1 ≤ n) (n3 : n ≤ 3) (hK : kc (s 9) 0 (s 0 1) = 3 + n) (hl3 : LF s 3 83) (hk3 : kc (s 9) 0 3 = 2) {y3 y2 y1 y0 : Int32} (Q : zQ) : ∀ (r t : Nat) (u : zM), t + r = n → mS u s → u 42 30 = nI n → pF s u t → (∀ u', mgo s u u' → pF s u' n → u' 42 = u 42 → Q (some (.int 1)) (SH, u')) → (∀ u', mgo s u u' → ¬ clV s → Q (some (.int 0)) (SH, u')) → ZW 179 (0, 0, 0, 0) 194 (vlR (.int y3) (.int y2) (.int y1) (.int y0) t 1) [] (SH, u) Q := by
  intro r
  induction r with
  | zero =>
    intro t u ht hm hu hp hQ1 _
    obtain rfl : t = n := by omega
    exact vl_ex hu n3 n3 (Or.inr ⟨rfl, Nat.le_refl _⟩) (hQ1 u (mgo_r hm) hp rfl)
  | succ r ih =>
    intro t u ht hm hu hp hQ1 hQ2
    have hch : chF (s 9) 0 (s 0 1) 0 (3 + t) = some (4 + 5 * t) := by
      cases ho : chF (s 9) 0 (s 0 1) 0 (3 + t) with
      | none =>
        have := ch_none ho
        omega
      | some c =>
        congr 1
        rcases Nat.eq_zero_or_pos t with rfl | t0
        · exact ch_next h (by omega) hl3.1 hl3.2.1 hk3 (x := 4) (by omega) (fun j h1 h2 => by omega) (fun g => leaf_d h hl3.2.2.2.1 g) ho
        · obtain ⟨⟨q1, q2, q3, q4⟩, _⟩ := hp (t - 1) (by omega)
          obtain ⟨o1, o2⟩ := PT_out h (by omega) q1 q4
          have := ch_next h (by omega) q1 q2 q3 (x := 4 + 5 * (t - 1) + 5) (by omega) o1 o2 (by rw [show 3 + (t - 1) + 1 = 3 + t by omega]; exact ho)
          omega
    obtain ⟨e0, eN, ef, ek⟩ := ch_some hch
    have e3 : nI t + Int32.ofInt 1 = nI (t + 1) := by rw [zki, nI_add]
    have f214 : ∀ (b : Int32) u', (b = 0 ∨ b = 1) → ZW 179 (0, 0, 0, 0) 194 (vlR (.int y3) (.int y2) (.int y1) (.int y0) (t + 1) b) [] (SH, u') Q → ZW 179 (0, 0, 0, 0) 214 [(6, .int (nI t)), (5, .int 1), (4, .int y3), (3, .int y2), (2, .int y1), (1, .int y0), (0, .ref 42)] [.int b] (SH, u') Q := by
      intro b u' hb W
      unfold vlR at W
      rw [← e3] at W
      refine zgo 10 [] ?_
      exact W
    have hpart := es_part hs h hm (t := t) (by omega) hch (fun r h => ZW 179 (0, 0, 0, 0) 214 [(6, .int (nI t)), (5, .int 1), (4, .int y3), (3, .int y2), (2, .int y1), (1, .int y0), (0, .ref 42)] (r.toList ++ []) h Q) (fun u' w1 w2 w3 w4 w5 => f214 1 u' (Or.inr rfl) (ih (t + 1) u' (by omega) w1.2.1 (by rw [w2.2.2]; exact hu) (fun t' ht' => by
        by_cases e : t' = t
        · subst e
          exact ⟨⟨eN, ef, ek, w3⟩, w5, w4⟩
        · obtain ⟨q1, q2, q3⟩ := hp t' (by omega)
          exact ⟨q1, vT_o q2 w2 e, fun i hi => w1.2.2 _ (q1.2.2.2.2.2.2 i hi).1 (q3 i hi)⟩) (fun u'' v1 v2 v3 => hQ1 u'' (w1.tr v1) v2 (v3.trans w2.2.2)) (fun u'' v1 v2 => hQ2 u'' (w1.tr v1) v2))) (fun u' w1 w2 => f214 0 u' (Or.inl rfl) (by
        have hu' : u' 42 30 = nI n ∨ True := Or.inr trivial
        have hq := hQ2 u' w1 (fun g => by
          obtain ⟨n', g1, g2, g3, g4⟩ := cl_VP h k80 g
          have := g4.2.1
          exact w2 (g4.2.2.2 t (by omega)).2.2.2)
        have f222 : ZW 179 (0, 0, 0, 0) 222 [(6, .int (nI (t + 1))), (5, .int 0), (4, .int y3), (3, .int y2), (2, .int y1), (1, .int y0), (0, .ref 42)] [] (SH, u') Q := by
          have hQ := hq
          refine zgo 5 [] ?_
          repeat' (first
            | (show vp_in _ _; simp (disch := first | omega | decide) only [zcn, zkpl, zki, zki1, zk8, zk16, zo32, zlt0, zle0, zeq0, zgt0, zLe0, nI_ltI, nI_leI, nI_eq, nI_add, nI_clamp, vp_in_nI, zup_s, zup_n, upd_s, upd_n, ne_eq, not_true_eq_false, not_false_eq_true]; done)
            | (intro hc; exfalso; simp (disch := first | omega | decide) only [zcn, zkpl, zki, zki1, zk8, zk16, zo32, zlt0, zle0, zeq0, zgt0, zLe0, nI_ltI, nI_leI, nI_eq, nI_add, nI_clamp, vp_in_nI, zup_s, zup_n, upd_s, upd_n, ne_eq, not_true_eq_false, not_false_eq_true] at hc <;> omega)
            | (intro hc; exact absurd rfl hc)
            | intro hc
            | apply And.intro
            | exact hQ
            | (show Q _ (SH, _); simp (disch := first | omega | decide) only [zcn, zkpl, zki, zki1, zk8, zk16, zo32, zlt0, zle0, zeq0, zgt0, zLe0, nI_ltI, nI_leI, nI_eq, nI_add, nI_clamp, vp_in_nI, zup_s, zup_n, upd_s, upd_n, ne_eq, not_true_eq_false, not_false_eq_true]; exact hQ)
            | exact Or.inl rfl
            | exact Or.inr rfl
            | (show (_ : Int32) = 0 ∨ _ = 1; simp (disch := first | omega | decide) only [zcn, zkpl, zki, zki1, zk8, zk16, zo32, zlt0, zle0, zeq0, zgt0, zLe0, nI_ltI, nI_leI, nI_eq, nI_add, nI_clamp, vp_in_nI, zup_s, zup_n, upd_s, upd_n, ne_eq, not_true_eq_false, not_false_eq_true, zeq1, true_or, or_true]; done))
        have f203 : ZW 179 (0, 0, 0, 0) 203 [(6, .int (nI (t + 1))), (5, .int 0), (4, .int y3), (3, .int y2), (2, .int y1), (1, .int y0), (0, .ref 42)] [] (SH, u') Q := by
          refine zgo 2 [] ?_
          repeat' (first
            | (exact f222)
            | (show vp_in _ _; simp (disch := first | omega | decide) only [zcn, zkpl, zki, zki1, zk8, zk16, zo32, zlt0, zle0, zeq0, zgt0, zLe0, nI_ltI, nI_leI, nI_eq, nI_add, nI_clamp, vp_in_nI, zup_s, zup_n, upd_s, upd_n, ne_eq, not_true_eq_false, not_false_eq_true]; done)
            | (intro hc; exfalso; simp (disch := first | omega | decide) only [zcn, zkpl, zki, zki1, zk8, zk16, zo32, zlt0, zle0, zeq0, zgt0, zLe0, nI_ltI, nI_leI, nI_eq, nI_add, nI_clamp, vp_in_nI, zup_s, zup_n, upd_s, upd_n, ne_eq, not_true_eq_false, not_false_eq_true] at hc <;> omega)
            | (intro hc; exact absurd rfl hc)
            | intro hc
            | apply And.intro
            | exact Or.inl rfl
            | exact Or.inr rfl
            | (show (_ : Int32) = 0 ∨ _ = 1; simp (disch := first | omega | decide) only [zcn, zkpl, zki, zki1, zk8, zk16, zo32, zlt0, zle0, zeq0, zgt0, zLe0, nI_ltI, nI_leI, nI_eq, nI_add, nI_clamp, vp_in_nI, zup_s, zup_n, upd_s, upd_n, ne_eq, not_true_eq_false, not_false_eq_true, zeq1, true_or, or_true]; done))
        unfold vlR
        refine zgo 4 [] ?_
        refine ⟨fun _ => ?_, fun _ => ?_⟩
        · exact f222
        · exact f203))
    unfold vlR
    refine zgo 20 [] ?_
    repeat' (first
      | (exact hpart)
      | (show vp_in _ _; simp (disch := first | omega | decide) only [hu, z10, zcn, zkpl, zki, zki1, zk8, zk16, zo32, zlt0, zle0, zeq0, zgt0, zLe0, nI_ltI, nI_leI, nI_eq, nI_add, nI_clamp, vp_in_nI, zup_s, zup_n, upd_s, upd_n, ne_eq, not_true_eq_false, not_false_eq_true]; done)
      | (intro hc; exfalso; simp (disch := first | omega | decide) only [hu, z10, zcn, zkpl, zki, zki1, zk8, zk16, zo32, zlt0, zle0, zeq0, zgt0, zLe0, nI_ltI, nI_leI, nI_eq, nI_add, nI_clamp, vp_in_nI, zup_s, zup_n, upd_s, upd_n, ne_eq, not_true_eq_false, not_false_eq_true] at hc <;> omega)
      | (intro hc; exact absurd rfl hc)
      | intro hc
      | apply And.intro
      | exact Or.inl rfl
      | exact Or.inr rfl
      | (show (_ : Int32) = 0 ∨ _ = 1; simp (disch := first | omega | decide) only [hu, z10, zcn, zkpl, zki, zki1, zk8, zk16, zo32, zlt0, zle0, zeq0, zgt0, zLe0, nI_ltI, nI_leI, nI_eq, nI_add, nI_clamp, vp_in_nI, zup_s, zup_n, upd_s, upd_n, ne_eq, not_true_eq_false, not_false_eq_true, zeq1, true_or, or_true]; done))
