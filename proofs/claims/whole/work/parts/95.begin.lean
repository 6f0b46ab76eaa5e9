/-! the law from its entry to its loop -/
theorem es_218 {S : zS} {m : zM} {q L : Nat} {Q : zQ} (hq2 : q < 100) (hL5 : L ≤ 2050) (hL : m 1000001 0 = nI L) (hq : Q (some (.int (if q < L then m 1000000 q else 0))) (S, m)) : ZM 218 0 0 [.ref 1000000, .int (nI q)] (S, m) Q := by
  refine zgo 12 [] ?_
  refine ⟨fun hc => ?_, fun hc => ⟨?_, ?_⟩⟩
  · have hn : ¬ q < L := by
      replace hc : m 1000001 0 ≤ nI q := hc
      rw [hL] at hc
      have hd := Int32.le_iff_toInt_le.mp hc
      rw [show (nI L).toInt = (L : Int) from Int32.toInt_ofNat_of_lt (by omega), show (nI q).toInt = (q : Int) from Int32.toInt_ofNat_of_lt (by omega)] at hd
      omega
    rw [if_neg hn] at hq
    exact hq
  · replace hc : ¬ m 1000001 0 ≤ nI q := hc
    show vp_in (nI q) (m 1000001 0).toNatClampNeg
    rw [hL] at hc ⊢
    have hn : q < L := by
      apply Decidable.byContradiction
      intro hn
      apply hc
      apply Int32.le_iff_toInt_le.mpr
      rw [show (nI L).toInt = (L : Int) from Int32.toInt_ofNat_of_lt (by omega), show (nI q).toInt = (q : Int) from Int32.toInt_ofNat_of_lt (by omega)]
      omega
    simp (disch := first | omega | decide) only [zcn, zkpl, zki, zki1, zk8, zk16, zo32, zlt0, zle0, zeq0, zgt0, zLe0, nI_ltI, nI_leI, nI_eq, nI_add, nI_clamp, vp_in_nI, zup_s, zup_n, upd_s, upd_n, ne_eq, not_true_eq_false, not_false_eq_true]
  · replace hc : ¬ m 1000001 0 ≤ nI q := hc
    rw [hL] at hc
    have hn : q < L := by
      apply Decidable.byContradiction
      intro hn
      apply hc
      apply Int32.le_iff_toInt_le.mpr
      rw [show (nI L).toInt = (L : Int) from Int32.toInt_ofNat_of_lt (by omega), show (nI q).toInt = (q : Int) from Int32.toInt_ofNat_of_lt (by omega)]
      omega
    rw [if_pos hn] at hq
    show Q (some (.int (m 1000000 (nI q).toNatClampNeg))) (S, m)
    rw [show (nI q).toNatClampNeg = q from by simp (disch := first | omega | decide) only [zcn, zkpl, zki, zki1, zk8, zk16, zo32, zlt0, zle0, zeq0, zgt0, zLe0, nI_ltI, nI_leI, nI_eq, nI_add, nI_clamp, vp_in_nI, zup_s, zup_n, upd_s, upd_n, ne_eq, not_true_eq_false, not_false_eq_true]]
    exact hq
theorem cls0_YY (m : zM) (op li : Int32) : cls0 (YY (clM op) (clM li) m 0 42) op li := by
  intro b j hb
  simp only [YY, Zr]
  rw [if_pos (show 0 ≤ b ∧ b < 42 by omega)]
set_option maxRecDepth 6000 in
theorem law_all {m : zM} {L : Nat} (hL5 : L ≤ 2050) (hL : m 1000001 0 = nI L) : ZW 219 (600000, 7302250, 0, 0) 0 [(0, .ref 1000000)] [] ([], m) (fun r _ => r = some (.int 1)) := by
  generalize hQ : (fun (r : Option Value) (_ : zH) => r = some (Value.int 1)) = Q
  have hQ1 : ∀ h, Q (some (.int 1)) h := by
    intro h
    rw [← hQ]
  generalize ho : (if 0 < L then m 1000000 0 else 0) = op
  generalize hl : (if 1 < L then m 1000000 1 else 0) = li
  have m1 : zz m 0 1000001 0 = nI L := by rw [zz_far (by decide)]; exact hL
  have m0 : zz m 0 1000000 = m 1000000 := zz_far (by decide)
  have g1 : YY (clM op) (clM li) m 0 42 1000001 0 = nI L := by
    simp only [YY, Zr]
    rw [if_neg (by omega), if_neg (by omega), if_neg (by omega)]
    exact hL
  have g0 : YY (clM op) (clM li) m 0 42 1000000 = m 1000000 := by
    funext j
    simp only [YY, Zr]
    rw [if_neg (by omega), if_neg (by omega), if_neg (by omega)]
  have cl := cls0_YY m op li
  have s2 : ZW 219 (600000, 7302250, 42, 7101) 17 [(0, .ref 1000000)] [.ref 0] (q_51, YY (clM op) (clM li) m 0 42) Q := by
    generalize YY (clM op) (clM li) m 0 42 = M at *
    have n1 : zz M 42 1000001 0 = nI L := by rw [zz_far (by decide)]; exact g1
    have n0 : zz M 42 1000000 = m 1000000 := by rw [zz_far (by decide)]; exact g0
    have s3 : ZM 160 32 9614 [.ref 42, .int op, .int li] (q_52, zz M 42) (fun r h => ZW 219 (600000, 7302250, 75, 16772) 35 [(1, .ref 0), (0, .ref 1000000)] (r.toList ++ [.ref 42]) h Q) := by
      rw [show zz M 42 = Zr M 42 43 from by (funext b j; simp only [zz_at, zup_at, Zr, YY]; (repeat' split) <;> first | rfl | omega)] at n1 n0 ⊢
      refine ZW.kp ?_
      refine k_160 ⟨cl, fun u hu y1 y2 => ?_⟩
      show ZW 219 GL 35 [(1, .ref 0), (0, .ref 1000000)] [.ref 42] (SH, u) Q
      refine zgo 3 [] ?_
      show ZW 219 GL 38 [(3, .int (Int32.ofInt 2)), (2, .ref 42), (1, .ref 0), (0, .ref 1000000)] [] (SH, u) Q
      rw [show Int32.ofInt 2 = nI (2 + 4 * 0) from rfl]
      exact law_loop (xs := m 1000000) hL5 hQ1 600 0 u (by omega) hu (y1.trans n0) (y2.trans n1) (by omega)
    refine zgo 30 [] ?_
    show ZM 218 0 0 [.ref 1000000, .int (nI 0)] (q_52, zz M 42) _
    refine es_218 (by decide) hL5 n1 ?_
    rw [n0, ho]
    show ZW 219 (600000, 7302250, 43, 7158) 27 [(1, .ref 0), (0, .ref 1000000)] [.int op, .ref 42, .ref 42] (q_52, zz M 42) Q
    refine zgo 30 [] ?_
    show ZM 218 0 0 [.ref 1000000, .int (nI 1)] (q_52, zz M 42) _
    refine es_218 (by decide) hL5 n1 ?_
    rw [n0, hl]
    show ZW 219 (600000, 7302250, 43, 7158) 32 [(1, .ref 0), (0, .ref 1000000)] [.int li, .int op, .ref 42, .ref 42] (q_52, zz M 42) Q
    refine zgo 30 [] ?_
    exact s3
  refine zgo 30 [] ?_
  show ZM 218 0 0 [.ref 1000000, .int (nI 0)] (q_0, zz m 0) _
  refine es_218 (by decide) hL5 m1 ?_
  rw [m0, ho]
  show ZW 219 (600000, 7302250, 1, 6) 9 [(0, .ref 1000000)] [.int op, .ref 0, .ref 0] (q_0, zz m 0) Q
  refine zgo 30 [] ?_
  show ZM 218 0 0 [.ref 1000000, .int (nI 1)] (q_0, zz m 0) _
  refine es_218 (by decide) hL5 m1 ?_
  rw [m0, hl]
  show ZW 219 (600000, 7302250, 1, 6) 14 [(0, .ref 1000000)] [.int li, .int op, .ref 0, .ref 0] (q_0, zz m 0) Q
  refine zgo 30 [] ?_
  show ZM 131 41 7095 [.ref 0, .int op, .int li] (q_0, zz m 0) _
  rw [show zz m 0 = Zr m 0 1 from by (funext b j; simp only [zz_at, zup_at, Zr, YY]; (repeat' split) <;> first | rfl | omega)]
  refine k_131 ?_
  exact s2
