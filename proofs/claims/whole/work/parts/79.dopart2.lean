/-! doPart as a whole -/
theorem sE_ch {nm : Nat → List Nat} {vl pl dg : Nat → Nat} {Z : List Nat} {j t e : Nat} {u : zM} (h : tx u e (sE nm vl pl dg Z j t)) : u 58 (e + ((nm (5 + 5 * t)).length + (4 + 0)) + 3) = nI (65 + pl (6 + 5 * t)) ∧ u 58 (e + ((nm (5 + 5 * t)).length + (4 + (10 + 0))) + 3) = nI (65 + pl (7 + 5 * t)) ∧ tx u (e + ((nm (5 + 5 * t)).length + (4 + (10 + (10 + 0)))) + 3) (amT (vl (8 + 5 * t)) ++ 60 :: (47 :: 65 :: 62 :: ([60, 47, 84, 62] ++ (ptx nm vl pl dg j (t + 1) ++ Z)))) ∧ tx u e (nm (5 + 5 * t) ++ 60 :: (47 :: 69 :: 62 :: (lfx 68 (acT (pl (6 + 5 * t)) (dg (6 + 5 * t))) ++ (lfx 67 (acT (pl (7 + 5 * t)) (dg (7 + 5 * t))) ++ (lfx 65 (amT (vl (8 + 5 * t))) ++ ([60, 47, 84, 62] ++ (ptx nm vl pl dg j (t + 1) ++ Z))))))) := by
  unfold sE at h
  have h2 := tx_drop (tx_drop h)
  have h3 := tx_drop h2
  have h4 := tx_drop h3
  have l1 : [60, 47, 69, 62].length = 4 := rfl
  have l2 : ∀ p d, (lfx 68 (acT p d)).length = 10 := fun p d => rfl
  have l3 : ∀ p d, (lfx 67 (acT p d)).length = 10 := fun p d => rfl
  rw [l1] at h2 h3 h4
  rw [l2] at h3 h4
  rw [l3] at h4
  refine ⟨?_, ?_, ?_, h⟩
  · have := h2 3 (by unfold lfx acT two; simp only [List.length_append, List.length_cons, List.length_nil]; omega)
    rw [show e + ((nm (5 + 5 * t)).length + (4 + 0)) + 3 = e + (nm (5 + 5 * t)).length + 4 + 3 by omega, this]
    rfl
  · have := h3 3 (by unfold lfx acT two; simp only [List.length_append, List.length_cons, List.length_nil]; omega)
    rw [show e + ((nm (5 + 5 * t)).length + (4 + (10 + 0))) + 3 = e + (nm (5 + 5 * t)).length + 4 + 10 + 3 by omega, this]
    rfl
  · rw [show lfx 65 (amT (vl (8 + 5 * t))) = [60, 65, 62] ++ (amT (vl (8 + 5 * t)) ++ [60, 47, 65, 62]) from rfl, List.append_assoc] at h4
    have h5 := tx_drop h4
    rw [List.append_assoc] at h5
    rw [show e + ((nm (5 + 5 * t)).length + (4 + (10 + (10 + 0)))) + 3 = e + (nm (5 + 5 * t)).length + 4 + 10 + 10 + [60, 65, 62].length by
      simp only [List.length_cons, List.length_nil]
      omega]
    exact h5
set_option maxRecDepth 4000 in
theorem es_201 {u : zM} {n nb E0 k T q : Nat} {nm : Nat → List Nat} {vl pl dg : Nat → Nat} {Z : List Nat} (ho : okT2 n nm vl pl dg) (hk : k < n) (hn : n ≤ 3) (hnb : nb ≤ 6000) (h36 : u 42 36 = nI nb) (hby : ∀ j t, t + j < n → ∀ c ∈ sE nm vl pl dg Z j t, c < 256) (ht : tx u E0 (sE nm vl pl dg Z (n - 1) 0)) (hl : E0 + (sE nm vl pl dg Z (n - 1) 0).length < nb) (hT : u 42 45 = nI T) (hT2 : T < 20) (hq : u 42 47 = nI q) (hq2 : q ≤ T) : Ev 201 [.ref 42, .int (nI E0), .int (nI k)] u none (mrc u T q (nI (n37 (nm (5 + 5 * k)))) (nI (vl (8 + 5 * k))) (nI (pl (6 + 5 * k))) (nI (pl (7 + 5 * k)))) := by
  obtain ⟨o1, o2, o3, o4⟩ := ho k hk
  intro Q hQ
  have W := dp_loop (E0 := E0) (R := [(0, .ref 42), (1, .int (nI E0)), (2, .int (nI k))]) ho hk hn hnb h36 hby rfl Q (fun htx hlx => ?_) k 0 (by omega) (by rw [Nat.sub_zero]; exact ht) (by rw [Nat.sub_zero]; exact hl)
  · refine zgo 5 [] ?_
    exact W
  have sD := es_next (y := (Int8.ofInt 68).toInt32) htx (hby _ _ (by omega)) hlx hnb h36 (by decide) (sE_D o1) (by decide)
  have sC := es_next (y := (Int8.ofInt 67).toInt32) htx (hby _ _ (by omega)) hlx hnb h36 (by decide) (sE_C o1 o2) (by decide)
  have sA := es_next (y := (Int8.ofInt 65).toInt32) htx (hby _ _ (by omega)) hlx hnb h36 (by decide) (sE_A o1 o2 o3) (by decide)
  obtain ⟨g1, g2, g3, g4⟩ := sE_ch htx
  have hlen : (sE nm vl pl dg Z (n - 1 - k) k).length ≥ (nm (5 + 5 * k)).length + 24 + (lfx 65 (amT (vl (8 + 5 * k)))).length + 4 := by
    unfold sE lfx acT two
    simp only [List.length_append, List.length_cons, List.length_nil]
    omega
  have hlA : (lfx 65 (amT (vl (8 + 5 * k)))).length = (amT (vl (8 + 5 * k))).length + 7 := by
    unfold lfx
    simp only [List.length_append, List.length_cons, List.length_nil]
    omega
  have sN := es_nameAt hnb h36 o1 g4 (by omega)
  generalize pE nm vl E0 k = e at *
  generalize hDd : e + ((nm (5 + 5 * k)).length + (4 + 0)) + 3 = d at *
  generalize hCc : e + ((nm (5 + 5 * k)).length + (4 + (10 + 0))) + 3 = c at *
  generalize hAa : e + ((nm (5 + 5 * k)).length + (4 + (10 + (10 + 0)))) + 3 = a at *
  have bd : d < 6000 := by omega
  have bc : c < 6000 := by omega
  have b60 := mrc_mF (u := u) (T := T) (q := q) (nm := nI (n37 (nm (5 + 5 * k)))) (am := nI (vl (8 + 5 * k))) (db := nI (pl (6 + 5 * k))) (cr := nI (pl (7 + 5 * k)))
  -- behind the name
  have h36' : zup (zup (zup u 60 T (nI (n37 (nm (5 + 5 * k))))) 62 T (nI (pl (6 + 5 * k)))) 63 T (nI (pl (7 + 5 * k))) 42 36 = nI nb := h36
  have sM := es_amountAt (u := zup (zup (zup u 60 T (nI (n37 (nm (5 + 5 * k))))) 62 T (nI (pl (6 + 5 * k)))) 63 T (nI (pl (7 + 5 * k)))) hnb h36' amT_ch (show tx _ a _ from g3) (by omega)
  rw [amF_amT o4.2] at sM
  have p1 : nI (65 + pl (6 + 5 * k)) - nI 65 = nI (pl (6 + 5 * k)) := by rw [pk_sub (by omega), Nat.add_sub_cancel_left]
  have p2 : nI (65 + pl (7 + 5 * k)) - nI 65 = nI (pl (7 + 5 * k)) := by rw [pk_sub (by omega), Nat.add_sub_cancel_left]
  clear htx hlx ht hl hby g3 g4 b60 h36'
  unfold mrc at hQ
  generalize nI (n37 (nm (5 + 5 * k))) = xn at *
  generalize nI (vl (8 + 5 * k)) = xa at *
  generalize pl (6 + 5 * k) = pd at *
  generalize pl (7 + 5 * k) = pc at *
  have f116 : ZW 201 (0, 0, 0, 0) 116 [(7, .int (u 42 45)), (6, .int (nI a)), (5, .int (nI c)), (4, .int (nI d)), (3, .int (nI e)), (0, .ref 42), (1, .int (nI E0)), (2, .int (nI k))] [.int xa, .int (u 42 45), .ref 61] (SH, zup (zup (zup u 60 T xn) 62 T (nI pd)) 63 T (nI pc)) Q := by
    refine zgo 60 [] ?_
    repeat' (first
      | (show vp_in _ _; simp (disch := first | omega | decide) only [hT, hq, zcn, zkpl, zki, zki1, zk8, zk16, zo32, zlt0, zle0, zeq0, zgt0, zLe0, nI_ltI, nI_leI, nI_eq, nI_add, nI_clamp, vp_in_nI, zup_s, zup_n, upd_s, upd_n, ne_eq, not_true_eq_false, not_false_eq_true]; done)
      | (intro hc; exfalso; simp (disch := first | omega | decide) only [hT, hq, zcn, zkpl, zki, zki1, zk8, zk16, zo32, zlt0, zle0, zeq0, zgt0, zLe0, nI_ltI, nI_leI, nI_eq, nI_add, nI_clamp, vp_in_nI, zup_s, zup_n, upd_s, upd_n, ne_eq, not_true_eq_false, not_false_eq_true] at hc <;> omega)
      | (intro hc; exact absurd rfl hc)
      | intro hc
      | apply And.intro
      | exact hQ
      | (show Q _ (SH, _); simp (disch := first | omega | decide) only [hT, hq, zcn, zkpl, zki, zki1, zk8, zk16, zo32, zlt0, zle0, zeq0, zgt0, zLe0, nI_ltI, nI_leI, nI_eq, nI_add, nI_clamp, vp_in_nI, zup_s, zup_n, upd_s, upd_n, ne_eq, not_true_eq_false, not_false_eq_true]; exact hQ)
      | exact Or.inl rfl
      | exact Or.inr rfl
      | (show (_ : Int32) = 0 ∨ _ = 1; simp (disch := first | omega | decide) only [hT, hq, zcn, zkpl, zki, zki1, zk8, zk16, zo32, zlt0, zle0, zeq0, zgt0, zLe0, nI_ltI, nI_leI, nI_eq, nI_add, nI_clamp, vp_in_nI, zup_s, zup_n, upd_s, upd_n, ne_eq, not_true_eq_false, not_false_eq_true, zeq1, true_or, or_true]; done))
  have f70 : ZW 201 (0, 0, 0, 0) 70 [(7, .int (u 42 45)), (6, .int (nI a)), (5, .int (nI c)), (4, .int (nI d)), (3, .int (nI e)), (0, .ref 42), (1, .int (nI E0)), (2, .int (nI k))] [] (SH, zup u 60 T xn) Q := by
    refine zgo 60 [] ?_
    repeat' (first
      | (exact zcm (by simp (disch := first | omega | decide) only [hT, g1, g2, p1, p2, zcn, zkpl, zki, zki1, zk8, zk16, zo32, zlt0, zle0, zeq0, zgt0, zLe0, nI_ltI, nI_leI, nI_eq, nI_add, nI_clamp, vp_in_nI, zup_s, zup_n, upd_s, upd_n, ne_eq, not_true_eq_false, not_false_eq_true]) (sM.use f116))
      | (show vp_in _ _; simp (disch := first | omega | decide) only [hT, g1, g2, p1, p2, zcn, zkpl, zki, zki1, zk8, zk16, zo32, zlt0, zle0, zeq0, zgt0, zLe0, nI_ltI, nI_leI, nI_eq, nI_add, nI_clamp, vp_in_nI, zup_s, zup_n, upd_s, upd_n, ne_eq, not_true_eq_false, not_false_eq_true]; done)
      | (intro hc; exfalso; simp (disch := first | omega | decide) only [hT, g1, g2, p1, p2, zcn, zkpl, zki, zki1, zk8, zk16, zo32, zlt0, zle0, zeq0, zgt0, zLe0, nI_ltI, nI_leI, nI_eq, nI_add, nI_clamp, vp_in_nI, zup_s, zup_n, upd_s, upd_n, ne_eq, not_true_eq_false, not_false_eq_true] at hc <;> omega)
      | (intro hc; exact absurd rfl hc)
      | intro hc
      | apply And.intro
      | exact Or.inl rfl
      | exact Or.inr rfl
      | (show (_ : Int32) = 0 ∨ _ = 1; simp (disch := first | omega | decide) only [hT, g1, g2, p1, p2, zcn, zkpl, zki, zki1, zk8, zk16, zo32, zlt0, zle0, zeq0, zgt0, zLe0, nI_ltI, nI_leI, nI_eq, nI_add, nI_clamp, vp_in_nI, zup_s, zup_n, upd_s, upd_n, ne_eq, not_true_eq_false, not_false_eq_true, zeq1, true_or, or_true]; done))
  have f69 : ZW 201 (0, 0, 0, 0) 69 [(7, .int (u 42 45)), (6, .int (nI a)), (5, .int (nI c)), (4, .int (nI d)), (3, .int (nI e)), (0, .ref 42), (1, .int (nI E0)), (2, .int (nI k))] [.int xn, .int (u 42 45), .ref 60] (SH, u) Q := by
    refine zgo 1 [] ?_
    repeat' (first
      | (exact zcg (by simp (disch := first | omega | decide) only [hT, zcn, zkpl, zki, zki1, zk8, zk16, zo32, zlt0, zle0, zeq0, zgt0, zLe0, nI_ltI, nI_leI, nI_eq, nI_add, nI_clamp, vp_in_nI, zup_s, zup_n, upd_s, upd_n, ne_eq, not_true_eq_false, not_false_eq_true]) f70)
      | (show vp_in _ _; simp (disch := first | omega | decide) only [hT, zcn, zkpl, zki, zki1, zk8, zk16, zo32, zlt0, zle0, zeq0, zgt0, zLe0, nI_ltI, nI_leI, nI_eq, nI_add, nI_clamp, vp_in_nI, zup_s, zup_n, upd_s, upd_n, ne_eq, not_true_eq_false, not_false_eq_true]; done)
      | (intro hc; exfalso; simp (disch := first | omega | decide) only [hT, zcn, zkpl, zki, zki1, zk8, zk16, zo32, zlt0, zle0, zeq0, zgt0, zLe0, nI_ltI, nI_leI, nI_eq, nI_add, nI_clamp, vp_in_nI, zup_s, zup_n, upd_s, upd_n, ne_eq, not_true_eq_false, not_false_eq_true] at hc <;> omega)
      | (intro hc; exact absurd rfl hc)
      | intro hc
      | apply And.intro
      | exact Or.inl rfl
      | exact Or.inr rfl
      | (show (_ : Int32) = 0 ∨ _ = 1; simp (disch := first | omega | decide) only [hT, zcn, zkpl, zki, zki1, zk8, zk16, zo32, zlt0, zle0, zeq0, zgt0, zLe0, nI_ltI, nI_leI, nI_eq, nI_add, nI_clamp, vp_in_nI, zup_s, zup_n, upd_s, upd_n, ne_eq, not_true_eq_false, not_false_eq_true, zeq1, true_or, or_true]; done))
  have f50 : ZW 201 (0, 0, 0, 0) 50 [(5, .int (nI c)), (4, .int (nI d)), (3, .int (nI e)), (0, .ref 42), (1, .int (nI E0)), (2, .int (nI k))] [.int (nI a)] (SH, u) Q := by
    refine zgo 20 [] ?_
    repeat' (first
      | (exact sN.use f69)
      | (show vp_in _ _; simp (disch := first | omega | decide) only [zcn, zkpl, zki, zki1, zk8, zk16, zo32, zlt0, zle0, zeq0, zgt0, zLe0, nI_ltI, nI_leI, nI_eq, nI_add, nI_clamp, vp_in_nI, zup_s, zup_n, upd_s, upd_n, ne_eq, not_true_eq_false, not_false_eq_true]; done)
      | (intro hc; exfalso; simp (disch := first | omega | decide) only [zcn, zkpl, zki, zki1, zk8, zk16, zo32, zlt0, zle0, zeq0, zgt0, zLe0, nI_ltI, nI_leI, nI_eq, nI_add, nI_clamp, vp_in_nI, zup_s, zup_n, upd_s, upd_n, ne_eq, not_true_eq_false, not_false_eq_true] at hc <;> omega)
      | (intro hc; exact absurd rfl hc)
      | intro hc
      | apply And.intro
      | exact Or.inl rfl
      | exact Or.inr rfl
      | (show (_ : Int32) = 0 ∨ _ = 1; simp (disch := first | omega | decide) only [zcn, zkpl, zki, zki1, zk8, zk16, zo32, zlt0, zle0, zeq0, zgt0, zLe0, nI_ltI, nI_leI, nI_eq, nI_add, nI_clamp, vp_in_nI, zup_s, zup_n, upd_s, upd_n, ne_eq, not_true_eq_false, not_false_eq_true, zeq1, true_or, or_true]; done))
  have f41 : ZW 201 (0, 0, 0, 0) 41 [(4, .int (nI d)), (3, .int (nI e)), (0, .ref 42), (1, .int (nI E0)), (2, .int (nI k))] [.int (nI c)] (SH, u) Q := by
    refine zgo 10 [] ?_
    repeat' (first
      | (exact sA.use f50)
      | (show vp_in _ _; simp (disch := first | omega | decide) only [zcn, zkpl, zki, zki1, zk8, zk16, zo32, zlt0, zle0, zeq0, zgt0, zLe0, nI_ltI, nI_leI, nI_eq, nI_add, nI_clamp, vp_in_nI, zup_s, zup_n, upd_s, upd_n, ne_eq, not_true_eq_false, not_false_eq_true]; done)
      | (intro hc; exfalso; simp (disch := first | omega | decide) only [zcn, zkpl, zki, zki1, zk8, zk16, zo32, zlt0, zle0, zeq0, zgt0, zLe0, nI_ltI, nI_leI, nI_eq, nI_add, nI_clamp, vp_in_nI, zup_s, zup_n, upd_s, upd_n, ne_eq, not_true_eq_false, not_false_eq_true] at hc <;> omega)
      | (intro hc; exact absurd rfl hc)
      | intro hc
      | apply And.intro
      | exact Or.inl rfl
      | exact Or.inr rfl
      | (show (_ : Int32) = 0 ∨ _ = 1; simp (disch := first | omega | decide) only [zcn, zkpl, zki, zki1, zk8, zk16, zo32, zlt0, zle0, zeq0, zgt0, zLe0, nI_ltI, nI_leI, nI_eq, nI_add, nI_clamp, vp_in_nI, zup_s, zup_n, upd_s, upd_n, ne_eq, not_true_eq_false, not_false_eq_true, zeq1, true_or, or_true]; done))
  have f32 : ZW 201 (0, 0, 0, 0) 32 [(4, .int (nI k)), (3, .int (nI e)), (0, .ref 42), (1, .int (nI E0)), (2, .int (nI k))] [.int (nI d)] (SH, u) Q := by
    refine zgo 10 [] ?_
    repeat' (first
      | (exact sC.use f41)
      | (show vp_in _ _; simp (disch := first | omega | decide) only [zcn, zkpl, zki, zki1, zk8, zk16, zo32, zlt0, zle0, zeq0, zgt0, zLe0, nI_ltI, nI_leI, nI_eq, nI_add, nI_clamp, vp_in_nI, zup_s, zup_n, upd_s, upd_n, ne_eq, not_true_eq_false, not_false_eq_true]; done)
      | (intro hc; exfalso; simp (disch := first | omega | decide) only [zcn, zkpl, zki, zki1, zk8, zk16, zo32, zlt0, zle0, zeq0, zgt0, zLe0, nI_ltI, nI_leI, nI_eq, nI_add, nI_clamp, vp_in_nI, zup_s, zup_n, upd_s, upd_n, ne_eq, not_true_eq_false, not_false_eq_true] at hc <;> omega)
      | (intro hc; exact absurd rfl hc)
      | intro hc
      | apply And.intro
      | exact Or.inl rfl
      | exact Or.inr rfl
      | (show (_ : Int32) = 0 ∨ _ = 1; simp (disch := first | omega | decide) only [zcn, zkpl, zki, zki1, zk8, zk16, zo32, zlt0, zle0, zeq0, zgt0, zLe0, nI_ltI, nI_leI, nI_eq, nI_add, nI_clamp, vp_in_nI, zup_s, zup_n, upd_s, upd_n, ne_eq, not_true_eq_false, not_false_eq_true, zeq1, true_or, or_true]; done))
  refine zgo 10 [] ?_
  repeat' (first
    | (exact sD.use f32)
    | (show vp_in _ _; simp (disch := first | omega | decide) only [zcn, zkpl, zki, zki1, zk8, zk16, zo32, zlt0, zle0, zeq0, zgt0, zLe0, nI_ltI, nI_leI, nI_eq, nI_add, nI_clamp, vp_in_nI, zup_s, zup_n, upd_s, upd_n, ne_eq, not_true_eq_false, not_false_eq_true]; done)
    | (intro hc; exfalso; simp (disch := first | omega | decide) only [zcn, zkpl, zki, zki1, zk8, zk16, zo32, zlt0, zle0, zeq0, zgt0, zLe0, nI_ltI, nI_leI, nI_eq, nI_add, nI_clamp, vp_in_nI, zup_s, zup_n, upd_s, upd_n, ne_eq, not_true_eq_false, not_false_eq_true] at hc <;> omega)
    | (intro hc; exact absurd rfl hc)
    | intro hc
    | apply And.intro
    | exact Or.inl rfl
    | exact Or.inr rfl
    | (show (_ : Int32) = 0 ∨ _ = 1; simp (disch := first | omega | decide) only [zcn, zkpl, zki, zki1, zk8, zk16, zo32, zlt0, zle0, zeq0, zgt0, zLe0, nI_ltI, nI_leI, nI_eq, nI_add, nI_clamp, vp_in_nI, zup_s, zup_n, upd_s, upd_n, ne_eq, not_true_eq_false, not_false_eq_true, zeq1, true_or, or_true]; done))
