/-! the model's canonical form as a whole: the same bytes -/
theorem itx_r {s : pS} {e : Nat} (hP : PT s e) (X : Nat → List Nat) : [60, 84, 62] ++ (itx s X e 4 0 ++ [60, 47, 84, 62]) = rtx 1 X 5 0 ++ [60, 47, 84, 62] := by
  have a0 : s 2 (e + 1 + 0) = 69 := (hP.2.2.2 0 (by omega)).2.2.1
  have a1 : s 2 (e + 1 + 1) = 68 := (hP.2.2.2 1 (by omega)).2.2.1
  have a2 : s 2 (e + 1 + 2) = 67 := (hP.2.2.2 2 (by omega)).2.2.1
  have a3 : s 2 (e + 1 + 3) = 65 := (hP.2.2.2 3 (by omega)).2.2.1
  have e1 : itx s X e 4 0 = lfx (s 2 (e + 1 + 0)) (X 1) ++ (lfx (s 2 (e + 1 + 1)) (X 2) ++ (lfx (s 2 (e + 1 + 2)) (X 3) ++ (lfx (s 2 (e + 1 + 3)) (X 4) ++ []))) := rfl
  have e2 : rtx 1 X 5 0 = ([60, 84, 62] ++ []) ++ (lfx 69 (X 1) ++ (lfx 68 (X 2) ++ (lfx 67 (X 3) ++ (lfx 65 (X 4) ++ [])))) := rfl
  rw [e1, e2, a0, a1, a2, a3]
  simp only [List.append_assoc, List.append_nil]
theorem gd_34 {u : zM} {s : pS} (h : gd u s) (x : Int32) : gd (zup u 42 34 x) s := by
  refine ⟨h.1.cg (by rw [zup_s, upd_n _ (by decide)]) (fun a ha => zup_n _ (by omega)), fun e h1 h2 h3 => ?_⟩
  unfold tr1
  rw [zup_n _ (by decide), zup_n _ (by decide)]
  exact h.2 e h1 h2 h3
theorem lfT_nm {s : pS} {e : Nat} {cs : List Nat} (h1 : s 2 e = 73 ∨ s 2 e = 69 ∨ s 2 e = 79) (h2 : txt s e = cs) (h3 : nmOk cs) : lfT s e cs := by
  have hl : vlen s e = cs.length := by
    rw [← h2]
    exact (seg_len _ _).symm
  have := h3.2.1
  exact Or.inr (Or.inr ⟨by omega, by omega, by omega, by omega, h2.symm⟩)
theorem lfT_ac {s : pS} {e p d : Nat} (h1 : s 2 e = 68 ∨ s 2 e = 67) (h2 : txt s e = [65 + p, 48 + d / 10, 48 + d % 10]) : lfT s e (acT p d) := by
  have hl : vlen s e = 3 := by
    have : (txt s e).length = 3 := by rw [h2]; rfl
    rw [← this]
    exact (seg_len _ _).symm
  exact Or.inr (Or.inr ⟨by omega, by omega, by omega, by omega, h2.symm⟩)
theorem cn_end {u : zM} {s : pS} {K c N : Nat} (h14 : u 42 14 = nI N) (hN : N ≤ 75) (h44 : u 44 0 = nI K) (hc : u 42 34 = nI c) (hc' : c + 4 ≤ 300) (Q : zQ) (hQ : Q none (SH, uA u c [60, 47, K, 62])) : ∀ R, cnL N R → ZW 189 (0, 0, 0, 0) 18 R [] (SH, u) Q := by
  have e44 : u 44 (Int32.ofInt 0).toNatClampNeg = nI K := by
    simp (disch := first | omega | decide) only [h44, zcn, zkpl, zki, zki1, zk8, zk16, zo32, zlt0, zle0, zeq0, zgt0, zLe0, nI_ltI, nI_leI, nI_eq, nI_add, nI_clamp, vp_in_nI, zup_s, zup_n, upd_s, upd_n, ne_eq, not_true_eq_false, not_false_eq_true]
  have s1 := es_tE (l := K) hc hc'
  rw [← e44] at s1
  intro R hR
  rcases hR with rfl | ⟨x, y, rfl⟩
  · have f108 : ZW 189 (0, 0, 0, 0) 108 [(1, .int (nI N)), (0, .ref 42)] [] (SH, uA u c [60, 47, K, 62]) Q := by
      refine zgo 2 [] ?_
      exact hQ
    refine zgo 20 [] ?_
    repeat' (first
      | (exact s1.use f108)
      | (show vp_in _ _; simp (disch := first | omega | decide) only [h14, zcn, zkpl, zki, zki1, zk8, zk16, zo32, zlt0, zle0, zeq0, zgt0, zLe0, nI_ltI, nI_leI, nI_eq, nI_add, nI_clamp, vp_in_nI, zup_s, zup_n, upd_s, upd_n, ne_eq, not_true_eq_false, not_false_eq_true]; done)
      | (intro hc; exfalso; simp (disch := first | omega | decide) only [h14, zcn, zkpl, zki, zki1, zk8, zk16, zo32, zlt0, zle0, zeq0, zgt0, zLe0, nI_ltI, nI_leI, nI_eq, nI_add, nI_clamp, vp_in_nI, zup_s, zup_n, upd_s, upd_n, ne_eq, not_true_eq_false, not_false_eq_true] at hc <;> omega)
      | (intro hc; exact absurd rfl hc)
      | intro hc
      | apply And.intro
      | exact Or.inl rfl
      | exact Or.inr rfl
      | (show (_ : Int32) = 0 ∨ _ = 1; simp (disch := first | omega | decide) only [h14, zcn, zkpl, zki, zki1, zk8, zk16, zo32, zlt0, zle0, zeq0, zgt0, zLe0, nI_ltI, nI_leI, nI_eq, nI_add, nI_clamp, vp_in_nI, zup_s, zup_n, upd_s, upd_n, ne_eq, not_true_eq_false, not_false_eq_true, zeq1, true_or, or_true]; done))
  · have f108 : ZW 189 (0, 0, 0, 0) 108 [(1, .int (nI N)), (2, .int x), (3, .int y), (0, .ref 42)] [] (SH, uA u c [60, 47, K, 62]) Q := by
      refine zgo 2 [] ?_
      exact hQ
    refine zgo 20 [] ?_
    repeat' (first
      | (exact s1.use f108)
      | (show vp_in _ _; simp (disch := first | omega | decide) only [h14, zcn, zkpl, zki, zki1, zk8, zk16, zo32, zlt0, zle0, zeq0, zgt0, zLe0, nI_ltI, nI_leI, nI_eq, nI_add, nI_clamp, vp_in_nI, zup_s, zup_n, upd_s, upd_n, ne_eq, not_true_eq_false, not_false_eq_true]; done)
      | (intro hc; exfalso; simp (disch := first | omega | decide) only [h14, zcn, zkpl, zki, zki1, zk8, zk16, zo32, zlt0, zle0, zeq0, zgt0, zLe0, nI_ltI, nI_leI, nI_eq, nI_add, nI_clamp, vp_in_nI, zup_s, zup_n, upd_s, upd_n, ne_eq, not_true_eq_false, not_false_eq_true] at hc <;> omega)
      | (intro hc; exact absurd rfl hc)
      | intro hc
      | apply And.intro
      | exact Or.inl rfl
      | exact Or.inr rfl
      | (show (_ : Int32) = 0 ∨ _ = 1; simp (disch := first | omega | decide) only [h14, zcn, zkpl, zki, zki1, zk8, zk16, zo32, zlt0, zle0, zeq0, zgt0, zLe0, nI_ltI, nI_leI, nI_eq, nI_add, nI_clamp, vp_in_nI, zup_s, zup_n, upd_s, upd_n, ne_eq, not_true_eq_false, not_false_eq_true, zeq1, true_or, or_true]; done))
theorem XT_lf {s : pS} {K n : Nat} {nm : Nat → List Nat} {vl pl dg : Nat → Nat} (ho : okM K n nm vl pl dg) (hD : dM s K n nm vl pl dg) {t : Nat} (ht : t < n) (hP : PT s (4 + 5 * t)) : ∀ k, k < 4 → lfT s (4 + 5 * t + 1 + k) (XT nm vl pl dg t (k + 1)) ∧ (XT nm vl pl dg t (k + 1)).length ≤ 9 := by
  obtain ⟨d1, d2, d3, d4⟩ := hD.2.2.2.2.2.2 t ht
  have on := (ho.2.2.2.2.2.2 t ht).1
  intro k hk
  have hlet := (hP.2.2.2 k hk).2.2.1
  rcases (show k = 0 ∨ k = 1 ∨ k = 2 ∨ k = 3 by omega) with rfl | rfl | rfl | rfl
  · rw [show 4 + 5 * t + 1 + 0 = 5 + 5 * t by omega] at hlet ⊢
    exact ⟨lfT_nm (Or.inr (Or.inl hlet)) d1 on, by have := on.2.1; show (nm (5 + 5 * t)).length ≤ 9; omega⟩
  · rw [show 4 + 5 * t + 1 + 1 = 6 + 5 * t by omega] at hlet ⊢
    exact ⟨lfT_ac (Or.inl hlet) d2, show 3 ≤ 9 by omega⟩
  · rw [show 4 + 5 * t + 1 + 2 = 7 + 5 * t by omega] at hlet ⊢
    exact ⟨lfT_ac (Or.inr hlet) d3, show 3 ≤ 9 by omega⟩
  · rw [show 4 + 5 * t + 1 + 3 = 8 + 5 * t by omega] at hlet ⊢
    exact ⟨Or.inl ⟨Or.inr hlet, _, d4, rfl⟩, amT_len _⟩
theorem cn_parts {s : pS} (hs : mdy s) (hl : lay s) {K n : Nat} {nm : Nat → List Nat} {vl pl dg : Nat → Nat} (ho : okM K n nm vl pl dg) (hD : dM s K n nm vl pl dg) (hPT : ∀ t, t < n → PT s (4 + 5 * t)) (Q : zQ) : ∀ (k t : Nat) (u : zM) (c : Nat), t + k = n → gd u s → u 44 0 = nI K → u 42 34 = nI c → c + 54 * k ≤ 210 → Q none (SH, uA u c (ptx nm vl pl dg k t ++ [60, 47, K, 62])) → ∀ R, cnL (4 + 5 * t) R → ZW 189 (0, 0, 0, 0) 18 R [] (SH, u) Q := by
  have hN := hs.1.2.1
  have hNn := hD.1.2
  intro k
  induction k with
  | zero =>
    intro t u c ht hg h44 hc hc' hQ R hR
    obtain rfl : t = n := by omega
    have h14 := hg.1.1
    rw [hNn] at h14 hN
    exact cn_end (s := s) h14 hN h44 hc (by omega) Q hQ R hR
  | succ k ih =>
    intro t u c ht hg h44 hc hc' hQ R hR
    have hP := hPT t (by omega)
    have hX := XT_lf ho hD (t := t) (by omega) hP
    have eN : 4 + 5 * t < s 0 1 := by omega
    rw [ptx, ← List.append_assoc, List.append_assoc (rtx 1 (XT nm vl pl dg t) 5 0 ++ [60, 47, 84, 62]), ← itx_r hP, ← uA_app] at hQ
    have hlen : ([60, 84, 62] ++ (itx s (XT nm vl pl dg t) (4 + 5 * t) 4 0 ++ [60, 47, 84, 62])).length ≤ 54 := by
      rw [itx_r hP, List.length_append, rtx5]
      have a1 := (ho.2.2.2.2.2.2 t (by omega)).1.2.1
      have a4 := amT_len (vl (8 + 5 * t))
      show 31 + (nm (5 + 5 * t)).length + 3 + 3 + (amT (vl (8 + 5 * t))).length + 4 ≤ 54
      omega
    refine cn_T hs hl (by omega) eN hP hX hg hc (by omega) Q (fun R hR => ?_) R hR
    have hg1 := gd_A hg c ([60, 84, 62] ++ (itx s (XT nm vl pl dg t) (4 + 5 * t) 4 0 ++ [60, 47, 84, 62]))
    have hc1 := uA_cnt hc ([60, 84, 62] ++ (itx s (XT nm vl pl dg t) (4 + 5 * t) 4 0 ++ [60, 47, 84, 62]))
    have h441 : uA u c ([60, 84, 62] ++ (itx s (XT nm vl pl dg t) (4 + 5 * t) 4 0 ++ [60, 47, 84, 62])) 44 0 = nI K := by
      rw [uA_far (by decide) (by decide)]
      exact h44
    have W := ih (t + 1) _ _ (by omega) hg1 h441 hc1 (by omega) hQ
    have sk : ∀ i, i < 4 → (∀ R, cnL (4 + 5 * t + 1 + i + 1) R → ZW 189 (0, 0, 0, 0) 18 R [] (SH, uA u c ([60, 84, 62] ++ (itx s (XT nm vl pl dg t) (4 + 5 * t) 4 0 ++ [60, 47, 84, 62]))) Q) → ∀ R, cnL (4 + 5 * t + 1 + i) R → ZW 189 (0, 0, 0, 0) 18 R [] (SH, uA u c ([60, 84, 62] ++ (itx s (XT nm vl pl dg t) (4 + 5 * t) 4 0 ++ [60, 47, 84, 62]))) Q := fun i hi w => by
      obtain ⟨q1, q2, q3, q4, q5⟩ := hP.2.2.2 i hi
      exact cn_skip hs hg1 (by omega) q1 q4 (by omega) Q w
    exact sk 0 (by omega) (sk 1 (by omega) (sk 2 (by omega) (sk 3 (by omega) (by
      rw [show 4 + 5 * t + 1 + 3 + 1 = 4 + 5 * (t + 1) by omega]
      exact W)))) R hR
theorem es_can {s : pS} (hs : mdy s) (hl : lay s) (hv : clV s) {K n : Nat} {nm : Nat → List Nat} {vl pl dg : Nat → Nat} (ho : okM K n nm vl pl dg) (hD : dM s K n nm vl pl dg) {u : zM} (hg : gd u s) : Ev 189 [.ref 42] u none (uA (zup u 42 34 (nI 0)) 0 (mtx K n nm vl pl dg)) := by
  obtain ⟨⟨hK, hNn⟩, d1, d2, d3, d4, d5, d6⟩ := id hD
  have hN := hs.1.2.1
  have h44 : u 44 0 = nI K := by
    rw [hg.1.2.1.1 0 hl.1, hK]
  have hl1 := htx_len ho
  have hn : n ≤ 3 := by have := ho.1; omega
  -- the three first leaves
  obtain ⟨_, hroot, hlf⟩ := cl_lf hl hv
  obtain ⟨F1, _⟩ := hlf 0 (by omega)
  obtain ⟨F2, _⟩ := hlf 1 (by omega)
  obtain ⟨F3, _⟩ := hlf 2 (by omega)
  have hPT : ∀ t, t < n → PT s (4 + 5 * t) := by
    intro t ht
    have k80 : s 2 0 = 80 := by have := ho.1; omega
    obtain ⟨n', z1, z2, z3, z4⟩ := cl_VP hl k80 hv
    exact (z4.2.2.2 t (by omega)).2.2.2
  obtain ⟨X, hh, x1, x2, x3⟩ : ∃ X : Nat → List Nat, htx K nm vl = [60, K, 62] ++ (lfx (s 2 1) (X 1) ++ (lfx (s 2 2) (X 2) ++ (lfx (s 2 3) (X 3) ++ []))) ∧ lfT s 1 (X 1) ∧ lfT s 2 (X 2) ∧ lfT s 3 (X 3) := by
    have L1 : s 2 1 = 73 := F1.2.2.1
    have L2 := F2.2.2.1
    have L3 := F3.2.2.1
    rcases ho.1 with ⟨rfl, _⟩ | ⟨rfl, _⟩ | ⟨rfl, _⟩
    · have e2 : s 2 2 = 78 := by rw [L2]; unfold cr; rw [if_neg (by decide), if_pos rfl, if_pos hK]
      have e3 : s 2 3 = 83 := by rw [L3]; unfold cr; rw [if_neg (by decide), if_neg (by decide), if_pos hK]
      obtain ⟨q1, q2, q3⟩ := d2 rfl
      refine ⟨XP nm vl, ?_, lfT_nm (Or.inl L1) d1 ho.2.1, Or.inr (Or.inl ⟨e2, q1, by rw [q2]; rfl⟩), Or.inl ⟨Or.inl e3, _, q3, rfl⟩⟩
      rw [L1, e2, e3]
      rfl
    · have e2 : s 2 2 = 79 := by rw [L2]; unfold cr; rw [if_neg (by decide), if_pos rfl, if_neg (by omega)]
      have e3 : s 2 3 = 86 := by rw [L3]; unfold cr; rw [if_neg (by decide), if_neg (by decide), if_neg (by omega), if_pos hK]
      have hv3 : vlen s 3 = 1 := by
        have : (txt s 3).length = 1 := by rw [d4 rfl]; rfl
        rw [← this]
        exact (seg_len _ _).symm
      refine ⟨XQ nm vl, ?_, lfT_nm (Or.inl L1) d1 ho.2.1, lfT_nm (Or.inr (Or.inr e2)) (d3 (by decide)) (ho.2.2.1 (by decide)), Or.inr (Or.inr ⟨by omega, by omega, by omega, by omega, (d4 rfl).symm⟩)⟩
      rw [L1, e2, e3]
      rfl
    · have e2 : s 2 2 = 79 := by rw [L2]; unfold cr; rw [if_neg (by decide), if_pos rfl, if_neg (by omega)]
      have e3 : s 2 3 = 65 := by rw [L3]; unfold cr; rw [if_neg (by decide), if_neg (by decide), if_neg (by omega), if_neg (by omega)]
      refine ⟨XR nm vl, ?_, lfT_nm (Or.inl L1) d1 ho.2.1, lfT_nm (Or.inr (Or.inr e2)) (d3 (by decide)) (ho.2.2.1 (by decide)), Or.inl ⟨Or.inr e3, _, d5 rfl, rfl⟩⟩
      rw [L1, e2, e3]
      rfl
  intro Q hQ
  rw [mtx, hh, List.append_nil] at hQ
  rw [hh, List.append_nil] at hl1
  simp only [List.length_append] at hl1
  rw [List.append_assoc, List.append_assoc, List.append_assoc, ← uA_app, ← uA_app, ← uA_app, ← uA_app] at hQ
  have g0 := gd_34 hg (nI 0)
  have c0 : zup u 42 34 (nI 0) 42 34 = nI 0 := rfl
  have k0 : zup u 42 34 (nI 0) 44 0 = nI K := h44
  have s0 := es_tB (l := K) c0 (by omega)
  have e44 : zup u 42 34 (nI 0) 44 (Int32.ofInt 0).toNatClampNeg = nI K := by
    simp (disch := first | omega | decide) only [h44, zcn, zkpl, zki, zki1, zk8, zk16, zo32, zlt0, zle0, zeq0, zgt0, zLe0, nI_ltI, nI_leI, nI_eq, nI_add, nI_clamp, vp_in_nI, zup_s, zup_n, upd_s, upd_n, ne_eq, not_true_eq_false, not_false_eq_true]
  rw [← e44] at s0
  have l3 : ([60, K, 62] : List Nat).length = 3 := rfl
  have g1 := gd_A g0 0 [60, K, 62]
  have c1 := uA_cnt c0 [60, K, 62]
  have g2 := gd_A g1 (0 + [60, K, 62].length) (lfx (s 2 1) (X 1))
  have c2 := uA_cnt c1 (lfx (s 2 1) (X 1))
  have g3 := gd_A g2 (0 + [60, K, 62].length + (lfx (s 2 1) (X 1)).length) (lfx (s 2 2) (X 2))
  have c3 := uA_cnt c2 (lfx (s 2 2) (X 2))
  have g4 := gd_A g3 (0 + [60, K, 62].length + (lfx (s 2 1) (X 1)).length + (lfx (s 2 2) (X 2)).length) (lfx (s 2 3) (X 3))
  have c4 := uA_cnt c3 (lfx (s 2 3) (X 3))
  have W4 := cn_parts hs hl ho hD hPT Q n 0 _ _ (by omega) g4 (by rw [uA_far (by decide) (by decide), uA_far (by decide) (by decide), uA_far (by decide) (by decide), uA_far (by decide) (by decide)]; exact h44) c4 (by omega) hQ
  have W3 := cn_leaf hs g3 (e := 3) (by omega) F3.1 F3.2.2.2.1 F3.2.1 c3 (by omega) x3 Q W4
  have W2 := cn_leaf hs g2 (e := 2) (by omega) F2.1 F2.2.2.2.1 F2.2.1 c2 (by omega) x2 Q W3
  have W1 := cn_leaf hs g1 (e := 1) (by omega) F1.1 F1.2.2.2.1 F1.2.1 c1 (by omega) x1 Q W2
  have f16 : ZW 189 (0, 0, 0, 0) 16 [(0, .ref 42)] [] (SH, uA (zup u 42 34 (nI 0)) 0 [60, K, 62]) Q := by
    have W := W1 _ (Or.inl rfl)
    refine zgo 5 [] ?_
    exact W
  refine zgo 20 [] ?_
  repeat' (first
    | (exact s0.use f16)
    | (show vp_in _ _; simp (disch := first | omega | decide) only [zcn, zkpl, zki, zki1, zk8, zk16, zo32, zlt0, zle0, zeq0, zgt0, zLe0, nI_ltI, nI_leI, nI_eq, nI_add, nI_clamp, vp_in_nI, zup_s, zup_n, upd_s, upd_n, ne_eq, not_true_eq_false, not_false_eq_true]; done)
    | (intro hc; exfalso; simp (disch := first | omega | decide) only [zcn, zkpl, zki, zki1, zk8, zk16, zo32, zlt0, zle0, zeq0, zgt0, zLe0, nI_ltI, nI_leI, nI_eq, nI_add, nI_clamp, vp_in_nI, zup_s, zup_n, upd_s, upd_n, ne_eq, not_true_eq_false, not_false_eq_true] at hc <;> omega)
    | (intro hc; exact absurd rfl hc)
    | intro hc
    | apply And.intro
    | exact Or.inl rfl
    | exact Or.inr rfl
    | (show (_ : Int32) = 0 ∨ _ = 1; simp (disch := first | omega | decide) only [zcn, zkpl, zki, zki1, zk8, zk16, zo32, zlt0, zle0, zeq0, zgt0, zLe0, nI_ltI, nI_leI, nI_eq, nI_add, nI_clamp, vp_in_nI, zup_s, zup_n, upd_s, upd_n, ne_eq, not_true_eq_false, not_false_eq_true, zeq1, true_or, or_true]; done))
