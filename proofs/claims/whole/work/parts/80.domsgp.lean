/-! doMessage: a payment -/
theorem tx_mF {u u' : zM} {p : Nat} {ys : List Nat} (h : tx u p ys) (hF : mF u u') : tx u' p ys := by
  intro i hi
  rw [hF.1 58 (by omega)]
  exact h i hi
theorem pay_parts {n nb E0 p q0 : Nat} {nm : Nat → List Nat} {vl pl dg : Nat → Nat} {Z zs : List Nat} {kE : Nat} {y4 y2 : Int32} (ho : okT2 n nm vl pl dg) (hcd : ∀ t, t < n → pl (6 + 5 * t) ≠ pl (7 + 5 * t)) (hn : n ≤ 3) (hnb : nb ≤ 6000) (hby : ∀ j t, t + j < n → ∀ c ∈ sE nm vl pl dg Z j t, c < 256) (hzs : ∀ c ∈ zs, c < 256) (hfE : fst1 69 zs kE) (hE0 : q0 + kE + 3 = E0) (hlq : q0 + zs.length < nb) (hlE : E0 + (sE nm vl pl dg Z (n - 1) 0).length < nb) {nR nM : Nat} : ∀ (r k : Nat) (u m : zM) (T q : Nat), k + r = n → LR u m T q nR nM → T + r ≤ 20 → u 42 36 = nI nb → tx u q0 zs → tx u E0 (sE nm vl pl dg Z (n - 1) 0) → ∃ u', (∀ Q : zQ, Q none (SH, u') → ZW 200 (0, 0, 0, 0) 71 [(6, .int (nI k)), (5, .int (nI n)), (4, .int y4), (3, .int (nI q0)), (2, .int y2), (0, .ref 42), (1, .int (nI p))] [] (SH, u) Q) ∧ mF u u' ∧ LR u' (rcv nm vl pl r k m T q) (T + r) (q + r) nR nM := by
  intro r
  induction r with
  | zero =>
    intro k u m T q hk hL hT h36 hz hE
    obtain rfl : k = n := by omega
    refine ⟨u, fun Q hQ => ?_, mF.rf u, hL⟩
    refine zgo 10 [] ?_
    repeat' (first
      | (show vp_in _ _; simp (disch := first | omega | decide) only [zcn, zkpl, zki, zki1, zk8, zk16, zo32, zlt0, zle0, zeq0, zgt0, zLe0, nI_ltI, nI_leI, nI_eq, nI_add, nI_clamp, vp_in_nI, zup_s, zup_n, upd_s, upd_n, ne_eq, not_true_eq_false, not_false_eq_true]; done)
      | (intro hc; exfalso; simp (disch := first | omega | decide) only [zcn, zkpl, zki, zki1, zk8, zk16, zo32, zlt0, zle0, zeq0, zgt0, zLe0, nI_ltI, nI_leI, nI_eq, nI_add, nI_clamp, vp_in_nI, zup_s, zup_n, upd_s, upd_n, ne_eq, not_true_eq_false, not_false_eq_true] at hc <;> omega)
      | (intro hc; exact absurd rfl hc)
      | intro hc
      | apply And.intro
      | exact hQ
      | (show Q _ (SH, _); simp (disch := first | omega | decide) only [zcn, zkpl, zki, zki1, zk8, zk16, zo32, zlt0, zle0, zeq0, zgt0, zLe0, nI_ltI, nI_leI, nI_eq, nI_add, nI_clamp, vp_in_nI, zup_s, zup_n, upd_s, upd_n, ne_eq, not_true_eq_false, not_false_eq_true]; exact hQ)
      | exact Or.inl rfl
      | exact Or.inr rfl
      | (show (_ : Int32) = 0 ∨ _ = 1; simp (disch := first | omega | decide) only [zcn, zkpl, zki, zki1, zk8, zk16, zo32, zlt0, zle0, zeq0, zgt0, zLe0, nI_ltI, nI_leI, nI_eq, nI_add, nI_clamp, vp_in_nI, zup_s, zup_n, upd_s, upd_n, ne_eq, not_true_eq_false, not_false_eq_true, zeq1, true_or, or_true]; done))
  | succ r ih =>
    intro k u m T q hk hL hT h36 hz hE
    obtain ⟨o1, o2, o3, o4⟩ := ho k (by omega)
    have e3 : nI k + Int32.ofInt 1 = nI (k + 1) := by rw [zki, nI_add]
    obtain ⟨⟨l1, l2, l3⟩, ⟨l5, l6, l7⟩, _⟩ := hL.1
    have sX := es_next (y := (Int8.ofInt 69).toInt32) hz hzs hlq hnb h36 (by decide) hfE (by decide)
    rw [hE0] at sX
    have sP := es_201 ho (k := k) (by omega) hn hnb h36 hby hE hlE l2 (by omega) l6 l7
    have hF := mrc_mF (u := u) (T := T) (q := q) (nm := nI (n37 (nm (5 + 5 * k)))) (am := nI (vl (8 + 5 * k))) (db := nI (pl (6 + 5 * k))) (cr := nI (pl (7 + 5 * k)))
    have hL2 := LR_recv (nm := nI (n8 (nm (5 + 5 * k)))) (nm' := nI (n37 (nm (5 + 5 * k)))) hL (by omega) ⟨_, o1, rfl, rfl⟩ ⟨o4.1, by omega⟩ (show pl (6 + 5 * k) < 4 by omega) (show pl (7 + 5 * k) < 4 by omega) (fun g => hcd k (by omega) g.symm)
    obtain ⟨u', w1, w2, w3⟩ := ih (k + 1) _ _ (T + 1) (q + 1) (by omega) hL2 (by omega) (by rw [hF.2 36 (by decide) (by decide) (by decide) (by decide)]; exact h36) (tx_mF hz hF) (tx_mF hE hF)
    refine ⟨u', fun Q hQ => ?_, hF.tr w2, ?_⟩
    · have W := w1 Q hQ
      rw [← e3] at W
      generalize mrc u T q (nI (n37 (nm (5 + 5 * k)))) (nI (vl (8 + 5 * k))) (nI (pl (6 + 5 * k))) (nI (pl (7 + 5 * k))) = u1 at *
      have f91 : ZW 200 (0, 0, 0, 0) 91 [(6, .int (nI k)), (5, .int (nI n)), (4, .int y4), (3, .int (nI q0)), (2, .int y2), (0, .ref 42), (1, .int (nI p))] [] (SH, u1) Q := by
        refine zgo 5 [] ?_
        exact W
      have f86 : ZW 200 (0, 0, 0, 0) 86 [(6, .int (nI k)), (5, .int (nI n)), (4, .int y4), (3, .int (nI q0)), (2, .int y2), (0, .ref 42), (1, .int (nI p))] [.int (nI E0), .ref 42] (SH, u) Q := by
        refine zgo 5 [] ?_
        repeat' (first
          | (exact sP.use f91)
          | (show vp_in _ _; simp (disch := first | omega | decide) only [zcn, zkpl, zki, zki1, zk8, zk16, zo32, zlt0, zle0, zeq0, zgt0, zLe0, nI_ltI, nI_leI, nI_eq, nI_add, nI_clamp, vp_in_nI, zup_s, zup_n, upd_s, upd_n, ne_eq, not_true_eq_false, not_false_eq_true]; done)
          | (intro hc; exfalso; simp (disch := first | omega | decide) only [zcn, zkpl, zki, zki1, zk8, zk16, zo32, zlt0, zle0, zeq0, zgt0, zLe0, nI_ltI, nI_leI, nI_eq, nI_add, nI_clamp, vp_in_nI, zup_s, zup_n, upd_s, upd_n, ne_eq, not_true_eq_false, not_false_eq_true] at hc <;> omega)
          | (intro hc; exact absurd rfl hc)
          | intro hc
          | apply And.intro
          | exact Or.inl rfl
          | exact Or.inr rfl
          | (show (_ : Int32) = 0 ∨ _ = 1; simp (disch := first | omega | decide) only [zcn, zkpl, zki, zki1, zk8, zk16, zo32, zlt0, zle0, zeq0, zgt0, zLe0, nI_ltI, nI_leI, nI_eq, nI_add, nI_clamp, vp_in_nI, zup_s, zup_n, upd_s, upd_n, ne_eq, not_true_eq_false, not_false_eq_true, zeq1, true_or, or_true]; done))
      refine zgo 10 [] ?_
      repeat' (first
        | (exact sX.use f86)
        | (show vp_in _ _; simp (disch := first | omega | decide) only [zcn, zkpl, zki, zki1, zk8, zk16, zo32, zlt0, zle0, zeq0, zgt0, zLe0, nI_ltI, nI_leI, nI_eq, nI_add, nI_clamp, vp_in_nI, zup_s, zup_n, upd_s, upd_n, ne_eq, not_true_eq_false, not_false_eq_true]; done)
        | (intro hc; exfalso; simp (disch := first | omega | decide) only [zcn, zkpl, zki, zki1, zk8, zk16, zo32, zlt0, zle0, zeq0, zgt0, zLe0, nI_ltI, nI_leI, nI_eq, nI_add, nI_clamp, vp_in_nI, zup_s, zup_n, upd_s, upd_n, ne_eq, not_true_eq_false, not_false_eq_true] at hc <;> omega)
        | (intro hc; exact absurd rfl hc)
        | intro hc
        | apply And.intro
        | exact Or.inl rfl
        | exact Or.inr rfl
        | (show (_ : Int32) = 0 ∨ _ = 1; simp (disch := first | omega | decide) only [zcn, zkpl, zki, zki1, zk8, zk16, zo32, zlt0, zle0, zeq0, zgt0, zLe0, nI_ltI, nI_leI, nI_eq, nI_add, nI_clamp, vp_in_nI, zup_s, zup_n, upd_s, upd_n, ne_eq, not_true_eq_false, not_false_eq_true, zeq1, true_or, or_true]; done))
    · rw [rcv, show T + (r + 1) = T + 1 + r by omega, show q + (r + 1) = q + 1 + r by omega]
      exact w3
/-- up to the name -/
theorem dm_pre {u : zM} {p nb K nM : Nat} {cs rest : List Nat} (hnb : nb ≤ 6000) (h36 : u 42 36 = nI nb) (h38 : u 42 38 = nI nM) (hM : nM < 60) (hK : K < 256) (hK2 : K ≠ 73 ∧ K ≠ 60) (hc : nmOk cs) (ht : tx u p ([60, K, 62] ++ ([60, 73, 62] ++ (cs ++ 60 :: rest)))) (hb : ∀ c ∈ [60, K, 62] ++ ([60, 73, 62] ++ (cs ++ 60 :: rest)), c < 256) (hl : p + ([60, K, 62] ++ ([60, 73, 62] ++ (cs ++ 60 :: rest))).length < nb) (Q : zQ) (W : ZW 200 (0, 0, 0, 0) 41 [(3, .int (nI (p + 6))), (2, .int (nI K)), (0, .ref 42), (1, .int (nI p))] [] (SH, zup (zup u 59 nM (nI (n37 cs))) 42 38 (nI (nM + 1))) Q) : ZM 200 0 0 [.ref 42, .int (nI p)] (SH, u) Q := by
  have hlen : ([60, K, 62] ++ ([60, 73, 62] ++ (cs ++ 60 :: rest))).length = 6 + cs.length + 1 + rest.length := by
    simp only [List.length_append, List.length_cons, List.length_nil]
    omega
  have g1 : u 58 (p + 1) = nI K := ht 1 (by omega)
  have sI' := es_next (y := (Int8.ofInt 73).toInt32) ht hb hl hnb h36 (by decide) (fst_b hK2.1 hK2.2 fst_h) (by decide)
  have ht2 := tx_drop (tx_drop ht)
  have sN := es_nameAt hnb h36 hc ht2 (by simp only [List.length_cons, List.length_nil]; omega)
  rw [show p + (3 + 0) + 3 = p + 6 by omega] at sI'
  rw [show p + [60, K, 62].length + [60, 73, 62].length = p + 6 from rfl] at sN
  rw [hlen] at hl
  have e58 : u 58 (nI p + Int32.ofInt 1).toNatClampNeg = nI K := by
    simp (disch := first | omega | decide) only [g1, zcn, zkpl, zki, zki1, zk8, zk16, zo32, zlt0, zle0, zeq0, zgt0, zLe0, nI_ltI, nI_leI, nI_eq, nI_add, nI_clamp, vp_in_nI, zup_s, zup_n, upd_s, upd_n, ne_eq, not_true_eq_false, not_false_eq_true]
  have f30 : ZW 200 (0, 0, 0, 0) 30 [(3, .int (nI (p + 6))), (2, .int (nI K)), (0, .ref 42), (1, .int (nI p))] [.int (nI (n37 cs)), .int (u 42 38), .ref 59] (SH, u) Q := by
    refine zgo 7 [] ?_
    repeat' (first
      | (exact zcg (by simp (disch := first | omega | decide) only [h38, zcn, zkpl, zki, zki1, zk8, zk16, zo32, zlt0, zle0, zeq0, zgt0, zLe0, nI_ltI, nI_leI, nI_eq, nI_add, nI_clamp, vp_in_nI, zup_s, zup_n, upd_s, upd_n, ne_eq, not_true_eq_false, not_false_eq_true]) W)
      | (show vp_in _ _; simp (disch := first | omega | decide) only [h38, zcn, zkpl, zki, zki1, zk8, zk16, zo32, zlt0, zle0, zeq0, zgt0, zLe0, nI_ltI, nI_leI, nI_eq, nI_add, nI_clamp, vp_in_nI, zup_s, zup_n, upd_s, upd_n, ne_eq, not_true_eq_false, not_false_eq_true]; done)
      | (intro hc; exfalso; simp (disch := first | omega | decide) only [h38, zcn, zkpl, zki, zki1, zk8, zk16, zo32, zlt0, zle0, zeq0, zgt0, zLe0, nI_ltI, nI_leI, nI_eq, nI_add, nI_clamp, vp_in_nI, zup_s, zup_n, upd_s, upd_n, ne_eq, not_true_eq_false, not_false_eq_true] at hc <;> omega)
      | (intro hc; exact absurd rfl hc)
      | intro hc
      | apply And.intro
      | exact Or.inl rfl
      | exact Or.inr rfl
      | (show (_ : Int32) = 0 ∨ _ = 1; simp (disch := first | omega | decide) only [h38, zcn, zkpl, zki, zki1, zk8, zk16, zo32, zlt0, zle0, zeq0, zgt0, zLe0, nI_ltI, nI_leI, nI_eq, nI_add, nI_clamp, vp_in_nI, zup_s, zup_n, upd_s, upd_n, ne_eq, not_true_eq_false, not_false_eq_true, zeq1, true_or, or_true]; done))
  have f16 : ZW 200 (0, 0, 0, 0) 16 [(2, .int (nI K)), (0, .ref 42), (1, .int (nI p))] [.int (nI (p + 6))] (SH, u) Q := by
    refine zgo 20 [] ?_
    repeat' (first
      | (exact sN.use f30)
      | (show vp_in _ _; simp (disch := first | omega | decide) only [zcn, zkpl, zki, zki1, zk8, zk16, zo32, zlt0, zle0, zeq0, zgt0, zLe0, nI_ltI, nI_leI, nI_eq, nI_add, nI_clamp, vp_in_nI, zup_s, zup_n, upd_s, upd_n, ne_eq, not_true_eq_false, not_false_eq_true]; done)
      | (intro hc; exfalso; simp (disch := first | omega | decide) only [zcn, zkpl, zki, zki1, zk8, zk16, zo32, zlt0, zle0, zeq0, zgt0, zLe0, nI_ltI, nI_leI, nI_eq, nI_add, nI_clamp, vp_in_nI, zup_s, zup_n, upd_s, upd_n, ne_eq, not_true_eq_false, not_false_eq_true] at hc <;> omega)
      | (intro hc; exact absurd rfl hc)
      | intro hc
      | apply And.intro
      | exact Or.inl rfl
      | exact Or.inr rfl
      | (show (_ : Int32) = 0 ∨ _ = 1; simp (disch := first | omega | decide) only [zcn, zkpl, zki, zki1, zk8, zk16, zo32, zlt0, zle0, zeq0, zgt0, zLe0, nI_ltI, nI_leI, nI_eq, nI_add, nI_clamp, vp_in_nI, zup_s, zup_n, upd_s, upd_n, ne_eq, not_true_eq_false, not_false_eq_true, zeq1, true_or, or_true]; done))
  rw [← e58] at f16
  refine zgo 20 [] ?_
  repeat' (first
    | (exact sI'.use f16)
    | (show vp_in _ _; simp (disch := first | omega | decide) only [zcn, zkpl, zki, zki1, zk8, zk16, zo32, zlt0, zle0, zeq0, zgt0, zLe0, nI_ltI, nI_leI, nI_eq, nI_add, nI_clamp, vp_in_nI, zup_s, zup_n, upd_s, upd_n, ne_eq, not_true_eq_false, not_false_eq_true]; done)
    | (intro hc; exfalso; simp (disch := first | omega | decide) only [zcn, zkpl, zki, zki1, zk8, zk16, zo32, zlt0, zle0, zeq0, zgt0, zLe0, nI_ltI, nI_leI, nI_eq, nI_add, nI_clamp, vp_in_nI, zup_s, zup_n, upd_s, upd_n, ne_eq, not_true_eq_false, not_false_eq_true] at hc <;> omega)
    | (intro hc; exact absurd rfl hc)
    | intro hc
    | apply And.intro
    | exact Or.inl rfl
    | exact Or.inr rfl
    | (show (_ : Int32) = 0 ∨ _ = 1; simp (disch := first | omega | decide) only [zcn, zkpl, zki, zki1, zk8, zk16, zo32, zlt0, zle0, zeq0, zgt0, zLe0, nI_ltI, nI_leI, nI_eq, nI_add, nI_clamp, vp_in_nI, zup_s, zup_n, upd_s, upd_n, ne_eq, not_true_eq_false, not_false_eq_true, zeq1, true_or, or_true]; done))
