/-! doMessage: a payment, whole -/
theorem LR_nm {u m : zM} {nT nQ nR nM : Nat} (h : LR u m nT nQ nR nM) (hM : nM < 60) {x y : Int32} (hn : nmR x y) : LR (zup (zup u 59 nM y) 42 38 (nI (nM + 1))) (cnm m nM x) nT nQ nR (nM + 1) := by
  refine ⟨lR_nm h.1 hM hn, ?_⟩
  obtain ⟨w1, w2, w3⟩ := h.2
  have cf : ∀ a, a ≠ 41 → a ≠ 18 → cnm m nM x a = m a := fun a g1 g2 => cnm_far g1 g2
  refine ⟨fun t ht => tx_same (w1 t ht) (by rw [cf 33 (by decide) (by decide)]) (cf 31 (by decide) (by decide)) (cf 32 (by decide) (by decide)) (cf 30 (by decide) (by decide)), qW_congr w2 (cf 33 (by decide) (by decide)) (cf 35 (by decide) (by decide)) (by rw [cf 28 (by decide) (by decide)]), ?_⟩
  rw [cf 33 (by decide) (by decide)]
  exact w3
theorem m80 (n : Nat) (nm : Nat → List Nat) (vl pl dg : Nat → Nat) : mtx 80 n nm vl pl dg = [60, 80, 62] ++ ([60, 73, 62] ++ (nm 1 ++ ([60, 47, 73, 62] ++ (lfx 78 (nda (vl 2) 5) ++ (lfx 83 (amT (vl 3)) ++ (ptx nm vl pl dg n 0 ++ [60, 47, 80, 62])))))) := by
  have e : htx 80 nm vl = ([60, 80, 62] ++ []) ++ (lfx 73 (nm 1) ++ (lfx 78 (nda (vl 2) 5) ++ (lfx 83 (amT (vl 3)) ++ []))) := rfl
  unfold mtx
  rw [e, show lfx 73 (nm 1) = [60, 73, 62] ++ (nm 1 ++ [60, 47, 73, 62]) from rfl]
  simp only [List.append_assoc, List.append_nil]
theorem lt_app {xs ys : List Nat} (h1 : ∀ c ∈ xs, c < 256) (h2 : ∀ c ∈ ys, c < 256) : ∀ c ∈ xs ++ ys, c < 256 := by
  intro c hc'
  rcases List.mem_append.1 hc' with g | g
  · exact h1 c g
  · exact h2 c g
theorem lt_lf {l : Nat} {xs : List Nat} (hl : l < 256) (h : ∀ c ∈ xs, c < 256) : ∀ c ∈ lfx l xs, c < 256 := by
  unfold lfx
  refine lt_app ?_ (lt_app h ?_)
  · intro c hc'
    simp only [List.mem_cons, List.not_mem_nil, or_false] at hc'
    omega
  · intro c hc'
    simp only [List.mem_cons, List.not_mem_nil, or_false] at hc'
    omega
theorem lt_e {l : Nat} (hl : l < 256) : ∀ c ∈ [60, 47, l, 62], c < 256 := by
  intro c hc'
  simp only [List.mem_cons, List.not_mem_nil, or_false] at hc'
  omega
theorem lt_b {l : Nat} (hl : l < 256) : ∀ c ∈ [60, l, 62], c < 256 := by
  intro c hc'
  simp only [List.mem_cons, List.not_mem_nil, or_false] at hc'
  omega
theorem lt_ptx {n : Nat} {nm : Nat → List Nat} {vl pl dg : Nat → Nat} (ho : okT2 n nm vl pl dg) : ∀ k t, t + k ≤ n → ∀ c ∈ ptx nm vl pl dg k t, c < 256 := by
  intro k
  induction k with
  | zero => intro t _ c hc'; exact absurd hc' List.not_mem_nil
  | succ k ih =>
    intro t ht
    obtain ⟨o1, o2, o3, o4⟩ := ho t (by omega)
    have e := ptx_sE nm vl pl dg [] k t
    rw [List.append_nil] at e
    rw [e]
    unfold sE
    rw [List.append_nil]
    exact lt_app (lt_b (by decide)) (lt_app (lt_b (by decide)) (lt_app (fun c hc' => (nm_ch o1 c hc').2) (lt_app (lt_e (by decide)) (lt_app (lt_lf (by decide) (fun c hc' => (acT_ch o2.1 o2.2 c hc').2)) (lt_app (lt_lf (by decide) (fun c hc' => (acT_ch o3.1 o3.2 c hc').2)) (lt_app (lt_lf (by decide) (fun c hc' => (amT_ch2 c hc').2)) (lt_app (lt_e (by decide)) (ih (t + 1) (by omega)))))))))
theorem RI_ext2 {m m' : zM} {op : Int32} {J : Nat → Nat} {W len nT nQ nR nM nT' nQ' nR' nM' : Nat} (hRI : RI m op J W nT nQ nR nM) (hlen : 3 + J (W + 1) = len) (h6 : W + len ≤ 6000) (hJ : J (W + 1) < 256)
    (hstep : ∀ (u : zM) (b : Nat), (∀ j, j < W + len → u 58 j = nI (J j)) → u 42 36 = nI b → W + len ≤ b → b ≤ 6000 → lR u m nT nQ nR nM → ∃ u', Ev 202 [.ref 42, .int (nI W)] u none u' ∧ mF u u' ∧ lR u' m' nT' nQ' nR' nM') : RI m' op J (W + len) nT' nQ' nR' nM' := by
  intro u b hj hb hWb hb6 hop
  obtain ⟨u1, hF, hl, hrun⟩ := hRI u b (fun j h => hj j (by omega)) hb (by omega) hb6 hop
  have h58 : u1 58 = u 58 := hF.1 58 (by omega)
  have h36 : u1 42 36 = nI b := by rw [hF.2 36 (by decide) (by decide) (by decide) (by decide), hb]
  obtain ⟨u2, hE, hF2, hl2⟩ := hstep u1 b (fun j h => by rw [h58]; exact hj j h) h36 hWb hb6 hl
  have h58' : u2 58 = u 58 := (hF2.1 58 (by omega)).trans h58
  have hJ1 : u 58 (W + 1) = nI (J (W + 1)) := hj (W + 1) (by omega)
  refine ⟨u2, hF.tr hF2, hl2, fun Q w => hrun Q ?_⟩
  have fin : ZW 203 (0, 0, 0, 0) 93 [(1, .int (nI W)), (0, .ref 42)] [] (SH, u2) Q := by
    refine zgo 20 [] ?_
    refine ⟨by show vp_in _ _; simp (disch := first | omega | decide) only [zcn, zkpl, zki, zki1, zk8, zk16, zo32, zlt0, zle0, zeq0, zgt0, zLe0, nI_ltI, nI_leI, nI_eq, nI_add, nI_clamp, vp_in_nI, zup_s, zup_n, upd_s, upd_n, ne_eq, not_true_eq_false, not_false_eq_true], ?_⟩
    show ZW 203 (0, 0, 0, 0) 59 [(1, .int (nI W + (Int32.ofInt 3 + u2 58 (nI W + Int32.ofInt 1).toNatClampNeg))), (0, .ref 42)] [] (SH, u2) Q
    have e : nI W + (Int32.ofInt 3 + u2 58 (nI W + Int32.ofInt 1).toNatClampNeg) = nI (W + len) := by
      rw [h58']
      simp (disch := first | omega | decide) only [hJ1, zcn, zkpl, zki, zki1, zk8, zk16, zo32, zlt0, zle0, zeq0, zgt0, zLe0, nI_ltI, nI_leI, nI_eq, nI_add, nI_clamp, vp_in_nI, zup_s, zup_n, upd_s, upd_n, ne_eq, not_true_eq_false, not_false_eq_true]
      rw [hlen]
    rw [e]
    exact w
  refine zgo 40 [] ?_
  repeat' (first
    | (exact hE.use fin)
    | (show vp_in _ _; simp (disch := first | omega | decide) only [h36, h58, hJ1, zcn, zkpl, zki, zki1, zk8, zk16, zo32, zlt0, zle0, zeq0, zgt0, zLe0, nI_ltI, nI_leI, nI_eq, nI_add, nI_clamp, vp_in_nI, zup_s, zup_n, upd_s, upd_n, ne_eq, not_true_eq_false, not_false_eq_true]; done)
    | (intro hc; exfalso; simp (disch := first | omega | decide) only [h36, h58, hJ1, zcn, zkpl, zki, zki1, zk8, zk16, zo32, zlt0, zle0, zeq0, zgt0, zLe0, nI_ltI, nI_leI, nI_eq, nI_add, nI_clamp, vp_in_nI, zup_s, zup_n, upd_s, upd_n, ne_eq, not_true_eq_false, not_false_eq_true] at hc <;> omega)
    | (intro hc; exact absurd rfl hc)
    | intro hc
    | apply And.intro
    | exact Or.inl rfl
    | exact Or.inr rfl
    | (show (_ : Int32) = 0 ∨ _ = 1; simp (disch := first | omega | decide) only [h36, h58, hJ1, zcn, zkpl, zki, zki1, zk8, zk16, zo32, zlt0, zle0, zeq0, zgt0, zLe0, nI_ltI, nI_leI, nI_eq, nI_add, nI_clamp, vp_in_nI, zup_s, zup_n, upd_s, upd_n, ne_eq, not_true_eq_false, not_false_eq_true, zeq1, true_or, or_true]; done))
/-- a payment -/
theorem es_200P {u m : zM} {n nb p nT nQ nR nM : Nat} {nm : Nat → List Nat} {vl pl dg : Nat → Nat} (ho : okM 80 n nm vl pl dg) (hv2 : vl 2 = n) (hcd : ∀ t, t < n → pl (6 + 5 * t) ≠ pl (7 + 5 * t)) (hL : LR u m nT nQ nR nM) (hnb : nb ≤ 6000) (h36 : u 42 36 = nI nb) (ht : tx u p (mtx 80 n nm vl pl dg)) (hl : p + (mtx 80 n nm vl pl dg).length < nb) (hT : nT + n ≤ 20) (hM : nM < 60) : ∃ u', Ev 200 [.ref 42, .int (nI p)] u none u' ∧ mF u u' ∧ LR u' (rcv nm vl pl n 0 (cnm m nM (nI (n8 (nm 1)))) nT nQ) (nT + n) (nQ + n) nR (nM + 1) := by
  obtain ⟨o1, o2, o3, o4, o5, o6, o7⟩ := ho
  have hn : 1 ≤ n ∧ n ≤ 3 := by omega
  obtain ⟨n', rfl⟩ : ∃ n', n = n' + 1 := ⟨n - 1, by omega⟩
  have o7' : okT2 (n' + 1) nm vl pl dg := o7
  have h38 : u 42 38 = nI nM := hL.1.2.2.2.1.2.1
  have hnd : nda (vl 2) 5 = [48 + (n' + 1)] := by
    rw [hv2, nda_2 (by omega)]
    show (if 10 ^ 1 ≤ n' + 1 then _ else []) ++ [48 + (n' + 1) / 1 % 10] = _
    rw [if_neg (by omega), List.nil_append, Nat.div_one, Nat.mod_eq_of_lt (by omega)]
  rw [m80, hnd, ptx_sE] at ht hl
  generalize hZ : ([60, 47, 80, 62] : List Nat) = Z at *
  have hZb : ∀ c ∈ Z, c < 256 := by rw [← hZ]; exact lt_e (by decide)
  have hby : ∀ j t, t + j < n' + 1 → ∀ c ∈ sE nm vl pl dg Z j t, c < 256 := by
    intro j t hj
    obtain ⟨q1, q2, q3, q4⟩ := o7 t (by omega)
    unfold sE
    exact (lt_app (fun c hc' => (nm_ch q1 c hc').2) (lt_app (lt_e (by decide)) (lt_app (lt_lf (by decide) (fun c hc' => (acT_ch q2.1 q2.2 c hc').2)) (lt_app (lt_lf (by decide) (fun c hc' => (acT_ch q3.1 q3.2 c hc').2)) (lt_app (lt_lf (by decide) (fun c hc' => (amT_ch2 c hc').2)) (lt_app (lt_e (by decide)) (lt_app (lt_ptx o7' j (t + 1) (by omega)) hZb)))))))
  have hbA : ∀ c ∈ sE nm vl pl dg Z n' 0, c < 256 := hby n' 0 (by omega)
  generalize hA : sE nm vl pl dg Z n' 0 = A at *
  have b3 : ∀ c ∈ lfx 78 [48 + (n' + 1)], c < 256 := lt_lf (by decide) (fun c hc' => by
    simp only [List.mem_cons, List.not_mem_nil, or_false] at hc'
    omega)
  have b4 : ∀ c ∈ lfx 83 (amT (vl 3)), c < 256 := lt_lf (by decide) (fun c hc' => (amT_ch2 c hc').2)
  have bz : ∀ c ∈ nm 1 ++ ([60, 47, 73, 62] ++ (lfx 78 [48 + (n' + 1)] ++ (lfx 83 (amT (vl 3)) ++ ([60, 84, 62] ++ ([60, 69, 62] ++ A))))), c < 256 := lt_app (fun c hc' => (nm_ch o2 c hc').2) (lt_app (lt_e (by decide)) (lt_app b3 (lt_app b4 (lt_app (lt_b (by decide)) (lt_app (lt_b (by decide)) hbA)))))
  have bt := lt_app (lt_b (l := 80) (by decide)) (lt_app (lt_b (l := 73) (by decide)) bz)
  have fN : fst1 78 ([60, 80, 62] ++ ([60, 73, 62] ++ (nm 1 ++ ([60, 47, 73, 62] ++ (lfx 78 [48 + (n' + 1)] ++ (lfx 83 (amT (vl 3)) ++ ([60, 84, 62] ++ ([60, 69, 62] ++ A)))))))) (3 + (3 + ((nm 1).length + (4 + 0)))) := fst_b (by decide) (by decide) (fst_b (by decide) (by decide) (fst_l _ (fun c hc' => (nm_ch o2 c hc').1) (fst_e (by decide) (by decide) fst_h)))
  have fE : fst1 69 (nm 1 ++ ([60, 47, 73, 62] ++ (lfx 78 [48 + (n' + 1)] ++ (lfx 83 (amT (vl 3)) ++ ([60, 84, 62] ++ ([60, 69, 62] ++ A)))))) ((nm 1).length + (4 + ((lfx 78 [48 + (n' + 1)]).length + ((lfx 83 (amT (vl 3))).length + (3 + 0))))) := fst_l _ (fun c hc' => (nm_ch o2 c hc').1) (fst_e (by decide) (by decide) (fst_lf (by decide) (by decide) (by decide) (fun c hc' => by
    simp only [List.mem_cons, List.not_mem_nil, or_false] at hc'
    omega) (fst_lf (by decide) (by decide) (by decide) (fun c hc' => (amT_ch2 c hc').1) (fst_b (by decide) (by decide) fst_h))))
  have hL1 := LR_nm hL hM (x := nI (n8 (nm 1))) (y := nI (n37 (nm 1))) ⟨_, o2, rfl, rfl⟩
  have hF1 : mF u (zup (zup u 59 nM (nI (n37 (nm 1)))) 42 38 (nI (nM + 1))) := ((mF.rf u).up (by decide) (by decide)).fld (by omega)
  have hpre := dm_pre hnb h36 h38 hM (K := 80) (by decide) (by decide) o2 ht bt hl
  generalize zup (zup u 59 nM (nI (n37 (nm 1)))) 42 38 (nI (nM + 1)) = u1 at *
  have h36' : u1 42 36 = nI nb := by rw [hF1.2 36 (by decide) (by decide) (by decide) (by decide)]; exact h36
  have ht1 := tx_mF ht hF1
  have sN := es_next (y := (Int8.ofInt 78).toInt32) ht1 bt hl hnb h36' (by decide) fN (by decide)
  have tz := tx_drop (tx_drop ht1)
  have t78 := tx_drop (tx_drop tz)
  have tA := tx_drop (tx_drop (tx_drop (tx_drop t78)))
  have e78 : u1 58 (p + (3 + (3 + ((nm 1).length + (4 + 0)))) + 3) = nI (48 + (n' + 1)) := by
    have := t78 3 (by simp only [lfx, List.length_append, List.length_cons, List.length_nil]; omega)
    rw [show p + (3 + (3 + ((nm 1).length + (4 + 0)))) + 3 = p + [60, 80, 62].length + [60, 73, 62].length + (nm 1).length + [60, 47, 73, 62].length + 3 by simp only [List.length_cons, List.length_nil]; omega]
    exact this
  rw [show p + [60, 80, 62].length + [60, 73, 62].length = p + 6 from rfl] at tz
  have hle : (nm 1 ++ ([60, 47, 73, 62] ++ (lfx 78 [48 + (n' + 1)] ++ (lfx 83 (amT (vl 3)) ++ ([60, 84, 62] ++ ([60, 69, 62] ++ A)))))).length = (nm 1).length + (4 + ((lfx 78 [48 + (n' + 1)]).length + ((lfx 83 (amT (vl 3))).length + (3 + (3 + A.length))))) := by
    simp only [List.length_append, List.length_cons, List.length_nil]
  have hl0 : p + 6 + ((nm 1).length + (4 + ((lfx 78 [48 + (n' + 1)]).length + ((lfx 83 (amT (vl 3))).length + (3 + (3 + A.length)))))) < nb := by
    rw [List.length_append, List.length_append, hle] at hl
    simp only [List.length_cons, List.length_nil] at hl
    omega
  have tA' : tx u1 (p + 6 + ((nm 1).length + (4 + ((lfx 78 [48 + (n' + 1)]).length + ((lfx 83 (amT (vl 3))).length + (3 + 0))))) + 3) A := by
    rw [show p + 6 + ((nm 1).length + (4 + ((lfx 78 [48 + (n' + 1)]).length + ((lfx 83 (amT (vl 3))).length + (3 + 0))))) + 3 = p + [60, 80, 62].length + [60, 73, 62].length + (nm 1).length + [60, 47, 73, 62].length + (lfx 78 [48 + (n' + 1)]).length + (lfx 83 (amT (vl 3))).length + [60, 84, 62].length + [60, 69, 62].length by simp only [List.length_cons, List.length_nil]; omega]
    exact tA
  have hAx : sE nm vl pl dg Z (n' + 1 - 1) 0 = A := hA
  obtain ⟨u', w1, w2, w3⟩ := pay_parts (p := p) (y4 := nI (p + (3 + (3 + ((nm 1).length + (4 + 0)))) + 3)) (y2 := nI 80) o7' hcd hn.2 hnb hby bz fE rfl (by rw [hle]; exact hl0) (by rw [hAx]; omega) (n' + 1) 0 u1 _ nT nQ (by omega) hL1 hT h36' tz (by rw [hAx]; exact tA')
  refine ⟨u', fun Q hQ => hpre Q ?_, hF1.tr w2, w3⟩
  have W := w1 Q hQ
  have hP : p + (3 + (3 + ((nm 1).length + (4 + 0)))) + 3 < 6000 := by omega
  generalize p + (3 + (3 + ((nm 1).length + (4 + 0)))) + 3 = P at *
  have ee : u1 58 (nI P).toNatClampNeg - (Int8.ofInt 48).toInt32 = nI (n' + 1) := by
    rw [nI_clamp (by omega), e78, show (Int8.ofInt 48).toInt32 = nI 48 from by decide, pk_sub (by omega)]
    congr 1
    omega
  rw [← ee] at W
  have f54 : ZW 200 (0, 0, 0, 0) 54 [(3, .int (nI (p + 6))), (2, .int (nI 80)), (0, .ref 42), (1, .int (nI p))] [.int (nI P)] (SH, u1) Q := by
    refine zgo 10 [] ?_
    repeat' (first
      | (exact W)
      | (show vp_in _ _; simp (disch := first | omega | decide) only [zcn, zkpl, zki, zki1, zk8, zk16, zo32, zlt0, zle0, zeq0, zgt0, zLe0, nI_ltI, nI_leI, nI_eq, nI_add, nI_clamp, vp_in_nI, zup_s, zup_n, upd_s, upd_n, ne_eq, not_true_eq_false, not_false_eq_true]; done)
      | (intro hc; exfalso; simp (disch := first | omega | decide) only [zcn, zkpl, zki, zki1, zk8, zk16, zo32, zlt0, zle0, zeq0, zgt0, zLe0, nI_ltI, nI_leI, nI_eq, nI_add, nI_clamp, vp_in_nI, zup_s, zup_n, upd_s, upd_n, ne_eq, not_true_eq_false, not_false_eq_true] at hc <;> omega)
      | (intro hc; exact absurd rfl hc)
      | intro hc
      | apply And.intro
      | exact Or.inl rfl
      | exact Or.inr rfl
      | (show (_ : Int32) = 0 ∨ _ = 1; simp (disch := first | omega | decide) only [zcn, zkpl, zki, zki1, zk8, zk16, zo32, zlt0, zle0, zeq0, zgt0, zLe0, nI_ltI, nI_leI, nI_eq, nI_add, nI_clamp, vp_in_nI, zup_s, zup_n, upd_s, upd_n, ne_eq, not_true_eq_false, not_false_eq_true, zeq1, true_or, or_true]; done))
  refine zgo 20 [] ?_
  repeat' (first
    | (exact sN.use f54)
    | (show vp_in _ _; simp (disch := first | omega | decide) only [zcn, zkpl, zki, zki1, zk8, zk16, zo32, zlt0, zle0, zeq0, zgt0, zLe0, nI_ltI, nI_leI, nI_eq, nI_add, nI_clamp, vp_in_nI, zup_s, zup_n, upd_s, upd_n, ne_eq, not_true_eq_false, not_false_eq_true]; done)
    | (intro hc; exfalso; simp (disch := first | omega | decide) only [zcn, zkpl, zki, zki1, zk8, zk16, zo32, zlt0, zle0, zeq0, zgt0, zLe0, nI_ltI, nI_leI, nI_eq, nI_add, nI_clamp, vp_in_nI, zup_s, zup_n, upd_s, upd_n, ne_eq, not_true_eq_false, not_false_eq_true] at hc <;> omega)
    | (intro hc; exact absurd rfl hc)
    | intro hc
    | apply And.intro
    | exact Or.inl rfl
    | exact Or.inr rfl
    | (show (_ : Int32) = 0 ∨ _ = 1; simp (disch := first | omega | decide) only [zcn, zkpl, zki, zki1, zk8, zk16, zo32, zlt0, zle0, zeq0, zgt0, zLe0, nI_ltI, nI_leI, nI_eq, nI_add, nI_clamp, vp_in_nI, zup_s, zup_n, upd_s, upd_n, ne_eq, not_true_eq_false, not_false_eq_true, zeq1, true_or, or_true]; done))
