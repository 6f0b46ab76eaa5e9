/-! doMessage: an answer or a return, up to its value -/
def fox (K l : Nat) (a b X : List Nat) : List Nat := [60, K, 62] ++ ([60, 73, 62] ++ (a ++ ([60, 47, 73, 62] ++ (lfx 79 b ++ (lfx l X ++ [60, 47, K, 62])))))
theorem m81 (nm : Nat → List Nat) (vl pl dg : Nat → Nat) : mtx 81 0 nm vl pl dg = fox 81 86 (nm 1) (nm 2) [vl 3] := by
  have e : htx 81 nm vl = ([60, 81, 62] ++ []) ++ (lfx 73 (nm 1) ++ (lfx 79 (nm 2) ++ (lfx 86 [vl 3] ++ []))) := rfl
  unfold mtx fox
  rw [e, show lfx 73 (nm 1) = [60, 73, 62] ++ (nm 1 ++ [60, 47, 73, 62]) from rfl, show ptx nm vl pl dg 0 0 = [] from rfl]
  simp only [List.append_assoc, List.append_nil, List.nil_append]
theorem m82 (nm : Nat → List Nat) (vl pl dg : Nat → Nat) : mtx 82 0 nm vl pl dg = fox 82 65 (nm 1) (nm 2) (amT (vl 3)) := by
  have e : htx 82 nm vl = ([60, 82, 62] ++ []) ++ (lfx 73 (nm 1) ++ (lfx 79 (nm 2) ++ (lfx 65 (amT (vl 3)) ++ []))) := rfl
  unfold mtx fox
  rw [e, show lfx 73 (nm 1) = [60, 73, 62] ++ (nm 1 ++ [60, 47, 73, 62]) from rfl, show ptx nm vl pl dg 0 0 = [] from rfl]
  simp only [List.append_assoc, List.append_nil, List.nil_append]
theorem fdR_t {m : zM} {nT t : Nat} {x r : Int32} (hd : dN m nT) (ht : t < nT) (h : m 29 t = x) (hr : fdR m nT x r) : r = nI t := by
  rcases hr with ⟨t', g1, g2, g3⟩ | ⟨g1, g2⟩
  · rw [g3, hd t' t g1 ht (by rw [g2, h])]
  · exact absurd h (g1 t ht)
theorem dm_fol {u m : zM} {K l p nb nT nQ nR nM t : Nat} {a b X : List Nat} (hK : (K = 81 ∧ l = 86) ∨ (K = 82 ∧ l = 65)) (ha : nmOk a) (hb : nmOk b) (hX : ∀ c ∈ X, c < 256) (hX1 : 1 ≤ X.length) (hL : lR u m nT nQ nR nM) (hd : dN m nT) (ht : t < nT) (h29 : m 29 t = nI (n8 b)) (hM : nM < 60) (hnb : nb ≤ 6000) (h36 : u 42 36 = nI nb) (hx : tx u p (fox K l a b X)) (hl : p + (fox K l a b X).length < nb) : ∃ P4 P7, P7 < 6000 ∧ tx u P7 (X ++ 60 :: (47 :: l :: 62 :: [60, 47, K, 62])) ∧ P7 + X.length + 1 < nb ∧ ∀ Q : zQ, ZW 200 (0, 0, 0, 0) 143 [(7, .int (nI P7)), (6, .int (nI t)), (5, .int (nI (n37 b))), (4, .int (nI P4)), (3, .int (nI (p + 6))), (2, .int (nI K)), (0, .ref 42), (1, .int (nI p))] [] (SH, zup (zup u 59 nM (nI (n37 a))) 42 38 (nI (nM + 1))) Q → ZM 200 0 0 [.ref 42, .int (nI p)] (SH, u) Q := by
  have hKb : K < 256 ∧ K ≠ 73 ∧ K ≠ 60 ∧ K ≠ 79 ∧ K ≠ l ∧ l < 256 ∧ l ≠ 60 ∧ 73 ≠ l ∧ 79 ≠ l ∧ 47 ≠ l := by omega
  obtain ⟨k1, k2, k3, k4, k5, k6, k7, k8, k9, k10⟩ := hKb
  have h38 : u 42 38 = nI nM := hL.2.2.2.1.2.1
  have bt : ∀ c ∈ fox K l a b X, c < 256 := by
    unfold fox
    exact lt_app (lt_b k1) (lt_app (lt_b (by decide)) (lt_app (fun c hc' => (nm_ch ha c hc').2) (lt_app (lt_e (by decide)) (lt_app (lt_lf (by decide) (fun c hc' => (nm_ch hb c hc').2)) (lt_app (lt_lf k6 hX) (lt_e k1))))))
  have hL1 := lR_nm hL hM (x := nI (n8 a)) (y := nI (n37 a)) ⟨_, ha, rfl, rfl⟩
  have hF1 : mF u (zup (zup u 59 nM (nI (n37 a))) 42 38 (nI (nM + 1))) := ((mF.rf u).up (by decide) (by decide)).fld (by omega)
  have hpre := dm_pre hnb h36 h38 hM k1 ⟨k2, k3⟩ ha hx bt hl
  have hnm : ∀ t, t < nT → nmR (m 29 t) (zup (zup u 59 nM (nI (n37 a))) 42 38 (nI (nM + 1)) 60 t) := fun t ht => by
    have := (hL.2.2.2.2.1 t ht).2.2.2.2.2
    rw [zup_n _ (by decide), zup_n _ (by decide)]
    exact this
  have h45 : zup (zup u 59 nM (nI (n37 a))) 42 38 (nI (nM + 1)) 42 45 = nI nT := hL1.1.2.1
  generalize zup (zup u 59 nM (nI (n37 a))) 42 38 (nI (nM + 1)) = u1 at *
  have h36' : u1 42 36 = nI nb := by rw [hF1.2 36 (by decide) (by decide) (by decide) (by decide)]; exact h36
  have hx1 := tx_mF hx hF1
  have fO : fst1 79 (fox K l a b X) (3 + (3 + (a.length + (4 + 0)))) := fst_b k4 k3 (fst_b (by decide) (by decide) (fst_l _ (fun c hc' => (nm_ch ha c hc').1) (fst_e (by decide) (by decide) fst_h)))
  have fV : fst1 l (fox K l a b X) (3 + (3 + (a.length + (4 + ((lfx 79 b).length + 0))))) := fst_b k5 k3 (fst_b k8 (by decide) (fst_l _ (fun c hc' => (nm_ch ha c hc').1) (fst_e (by decide) k10 (fst_lf k9 (by decide) k10 (fun c hc' => (nm_ch hb c hc').1) fst_h))))
  have hlen : (fox K l a b X).length = 10 + a.length + (lfx 79 b).length + 7 + X.length + 4 := by
    unfold fox
    rw [show (lfx l X) = [60, l, 62] ++ (X ++ [60, 47, l, 62]) from rfl]
    simp only [List.length_append, List.length_cons, List.length_nil]
    omega
  have hlb : (lfx 79 b).length = 7 + b.length := by
    rw [show (lfx 79 b) = [60, 79, 62] ++ (b ++ [60, 47, 79, 62]) from rfl]
    simp only [List.length_append, List.length_cons, List.length_nil]
    omega
  have sO := es_next (y := (Int8.ofInt 79).toInt32) hx1 bt hl hnb h36' (by decide) fO (by decide)
  have sV := fun (y : Int32) (hy : y = nI l) => es_next (y := y) hx1 bt hl hnb h36' k6 fV hy
  unfold fox at hx1 hx
  have tO := tx_drop (tx_drop (tx_drop (tx_drop hx1)))
  have tO' : tx u1 (p + [60, K, 62].length + [60, 73, 62].length + a.length + [60, 47, 73, 62].length) ([60, 79, 62] ++ (b ++ (60 :: (47 :: 79 :: 62 :: (lfx l X ++ [60, 47, K, 62]))))) := by
    have e : lfx 79 b ++ (lfx l X ++ [60, 47, K, 62]) = [60, 79, 62] ++ (b ++ (60 :: (47 :: 79 :: 62 :: (lfx l X ++ [60, 47, K, 62])))) := by
      rw [show (lfx 79 b) = [60, 79, 62] ++ (b ++ [60, 47, 79, 62]) from rfl]
      simp only [List.append_assoc]
      rfl
    rw [← e]
    exact tO
  have tB := tx_drop tO'
  have tV := tx_drop (tx_drop (tx_drop (tx_drop (tx_drop hx))))
  have tV' : tx u (p + [60, K, 62].length + [60, 73, 62].length + a.length + [60, 47, 73, 62].length + (lfx 79 b).length) ([60, l, 62] ++ (X ++ (60 :: (47 :: l :: 62 :: [60, 47, K, 62])))) := by
    have e : lfx l X ++ [60, 47, K, 62] = [60, l, 62] ++ (X ++ (60 :: (47 :: l :: 62 :: [60, 47, K, 62]))) := by
      rw [show (lfx l X) = [60, l, 62] ++ (X ++ [60, 47, l, 62]) from rfl]
      simp only [List.append_assoc]
      rfl
    rw [← e]
    exact tV
  have tX := tx_drop tV'
  rw [show p + [60, K, 62].length + [60, 73, 62].length + a.length + [60, 47, 73, 62].length + [60, 79, 62].length = p + (3 + (3 + (a.length + (4 + 0)))) + 3 by simp only [List.length_cons, List.length_nil]; omega] at tB
  rw [show p + [60, K, 62].length + [60, 73, 62].length + a.length + [60, 47, 73, 62].length + (lfx 79 b).length + [60, l, 62].length = p + (3 + (3 + (a.length + (4 + ((lfx 79 b).length + 0))))) + 3 by simp only [List.length_cons, List.length_nil]; omega] at tX
  have sN := es_nameAt hnb h36' hb tB (by omega)
  refine ⟨p + (3 + (3 + (a.length + (4 + 0)))) + 3, p + (3 + (3 + (a.length + (4 + ((lfx 79 b).length + 0))))) + 3, by omega, tX, by omega, fun Q W => hpre Q ?_⟩
  have hp4 : p + (3 + (3 + (a.length + (4 + 0)))) + 3 < 6000 := by omega
  have hp7 : p + (3 + (3 + (a.length + (4 + ((lfx 79 b).length + 0))))) + 3 < 6000 := by omega
  have hkn := es_known (y := nI (n37 b)) h45 hL.1.2.2
  have hkn' : ∀ Q : zQ, Q (some (.int (nI t))) (SH, u1) → ZM 181 0 0 [.ref 42, .int (nI (n37 b))] (SH, u1) Q := fun Q hQ => hkn Q (fun r hr => by
    rw [fdR_t hd ht h29 (fd_is hnm hb hr)]
    exact hQ)
  have hKn : Ev 181 [.ref 42, .int (nI (n37 b))] u1 (some (.int (nI t))) u1 := hkn'
  clear hkn hkn' hnm hx1 hx tO tO' tV tV' tX tB fO fV bt
  generalize p + (3 + (3 + (a.length + (4 + 0)))) + 3 = P4 at *
  generalize p + (3 + (3 + (a.length + (4 + ((lfx 79 b).length + 0))))) + 3 = P7 at *
  have f141 : ZW 200 (0, 0, 0, 0) 141 [(6, .int (nI t)), (5, .int (nI (n37 b))), (4, .int (nI P4)), (3, .int (nI (p + 6))), (2, .int (nI K)), (0, .ref 42), (1, .int (nI p))] [.int (nI P7)] (SH, u1) Q := by
    refine zgo 1 [] ?_
    exact W
  have f121 : ZW 200 (0, 0, 0, 0) 121 [(5, .int (nI (n37 b))), (4, .int (nI P4)), (3, .int (nI (p + 6))), (2, .int (nI K)), (0, .ref 42), (1, .int (nI p))] [.int (nI t)] (SH, u1) Q := by
    rcases hK with ⟨rfl, rfl⟩ | ⟨rfl, rfl⟩
    · have s := sV (Int8.ofInt 86).toInt32 (by decide)
      refine zgo 20 [] ?_
      repeat' (first
        | (exact s.use f141)
        | (show vp_in _ _; simp (disch := first | omega | decide) only [zcn, zkpl, zki, zki1, zk8, zk16, zo32, zlt0, zle0, zeq0, zgt0, zLe0, nI_ltI, nI_leI, nI_eq, nI_add, nI_clamp, vp_in_nI, zup_s, zup_n, upd_s, upd_n, ne_eq, not_true_eq_false, not_false_eq_true]; done)
        | (intro hc; exfalso; simp (disch := first | omega | decide) only [zcn, zkpl, zki, zki1, zk8, zk16, zo32, zlt0, zle0, zeq0, zgt0, zLe0, nI_ltI, nI_leI, nI_eq, nI_add, nI_clamp, vp_in_nI, zup_s, zup_n, upd_s, upd_n, ne_eq, not_true_eq_false, not_false_eq_true] at hc <;> omega)
        | (intro hc; exact absurd rfl hc)
        | intro hc
        | apply And.intro
        | exact Or.inl rfl
        | exact Or.inr rfl
        | (show (_ : Int32) = 0 ∨ _ = 1; simp (disch := first | omega | decide) only [zcn, zkpl, zki, zki1, zk8, zk16, zo32, zlt0, zle0, zeq0, zgt0, zLe0, nI_ltI, nI_leI, nI_eq, nI_add, nI_clamp, vp_in_nI, zup_s, zup_n, upd_s, upd_n, ne_eq, not_true_eq_false, not_false_eq_true, zeq1, true_or, or_true]; done))
    · have s := sV (Int8.ofInt 65).toInt32 (by decide)
      refine zgo 20 [] ?_
      repeat' (first
        | (exact s.use f141)
        | (show vp_in _ _; simp (disch := first | omega | decide) only [zcn, zkpl, zki, zki1, zk8, zk16, zo32, zlt0, zle0, zeq0, zgt0, zLe0, nI_ltI, nI_leI, nI_eq, nI_add, nI_clamp, vp_in_nI, zup_s, zup_n, upd_s, upd_n, ne_eq, not_true_eq_false, not_false_eq_true]; done)
        | (intro hc; exfalso; simp (disch := first | omega | decide) only [zcn, zkpl, zki, zki1, zk8, zk16, zo32, zlt0, zle0, zeq0, zgt0, zLe0, nI_ltI, nI_leI, nI_eq, nI_add, nI_clamp, vp_in_nI, zup_s, zup_n, upd_s, upd_n, ne_eq, not_true_eq_false, not_false_eq_true] at hc <;> omega)
        | (intro hc; exact absurd rfl hc)
        | intro hc
        | apply And.intro
        | exact Or.inl rfl
        | exact Or.inr rfl
        | (show (_ : Int32) = 0 ∨ _ = 1; simp (disch := first | omega | decide) only [zcn, zkpl, zki, zki1, zk8, zk16, zo32, zlt0, zle0, zeq0, zgt0, zLe0, nI_ltI, nI_leI, nI_eq, nI_add, nI_clamp, vp_in_nI, zup_s, zup_n, upd_s, upd_n, ne_eq, not_true_eq_false, not_false_eq_true, zeq1, true_or, or_true]; done))
  have f113 : ZW 200 (0, 0, 0, 0) 113 [(4, .int (nI P4)), (3, .int (nI (p + 6))), (2, .int (nI K)), (0, .ref 42), (1, .int (nI p))] [.int (nI (n37 b))] (SH, u1) Q := by
    refine zgo 10 [] ?_
    repeat' (first
      | (exact hKn.use f121)
      | (show vp_in _ _; simp (disch := first | omega | decide) only [zcn, zkpl, zki, zki1, zk8, zk16, zo32, zlt0, zle0, zeq0, zgt0, zLe0, nI_ltI, nI_leI, nI_eq, nI_add, nI_clamp, vp_in_nI, zup_s, zup_n, upd_s, upd_n, ne_eq, not_true_eq_false, not_false_eq_true]; done)
      | (intro hc; exfalso; simp (disch := first | omega | decide) only [zcn, zkpl, zki, zki1, zk8, zk16, zo32, zlt0, zle0, zeq0, zgt0, zLe0, nI_ltI, nI_leI, nI_eq, nI_add, nI_clamp, vp_in_nI, zup_s, zup_n, upd_s, upd_n, ne_eq, not_true_eq_false, not_false_eq_true] at hc <;> omega)
      | (intro hc; exact absurd rfl hc)
      | intro hc
      | apply And.intro
      | exact Or.inl rfl
      | exact Or.inr rfl
      | (show (_ : Int32) = 0 ∨ _ = 1; simp (disch := first | omega | decide) only [zcn, zkpl, zki, zki1, zk8, zk16, zo32, zlt0, zle0, zeq0, zgt0, zLe0, nI_ltI, nI_leI, nI_eq, nI_add, nI_clamp, vp_in_nI, zup_s, zup_n, upd_s, upd_n, ne_eq, not_true_eq_false, not_false_eq_true, zeq1, true_or, or_true]; done))
  have f105 : ZW 200 (0, 0, 0, 0) 105 [(3, .int (nI (p + 6))), (2, .int (nI K)), (0, .ref 42), (1, .int (nI p))] [.int (nI P4)] (SH, u1) Q := by
    refine zgo 10 [] ?_
    repeat' (first
      | (exact sN.use f113)
      | (show vp_in _ _; simp (disch := first | omega | decide) only [zcn, zkpl, zki, zki1, zk8, zk16, zo32, zlt0, zle0, zeq0, zgt0, zLe0, nI_ltI, nI_leI, nI_eq, nI_add, nI_clamp, vp_in_nI, zup_s, zup_n, upd_s, upd_n, ne_eq, not_true_eq_false, not_false_eq_true]; done)
      | (intro hc; exfalso; simp (disch := first | omega | decide) only [zcn, zkpl, zki, zki1, zk8, zk16, zo32, zlt0, zle0, zeq0, zgt0, zLe0, nI_ltI, nI_leI, nI_eq, nI_add, nI_clamp, vp_in_nI, zup_s, zup_n, upd_s, upd_n, ne_eq, not_true_eq_false, not_false_eq_true] at hc <;> omega)
      | (intro hc; exact absurd rfl hc)
      | intro hc
      | apply And.intro
      | exact Or.inl rfl
      | exact Or.inr rfl
      | (show (_ : Int32) = 0 ∨ _ = 1; simp (disch := first | omega | decide) only [zcn, zkpl, zki, zki1, zk8, zk16, zo32, zlt0, zle0, zeq0, zgt0, zLe0, nI_ltI, nI_leI, nI_eq, nI_add, nI_clamp, vp_in_nI, zup_s, zup_n, upd_s, upd_n, ne_eq, not_true_eq_false, not_false_eq_true, zeq1, true_or, or_true]; done))
  have hK8 : ¬ K = 80 := by omega
  refine zgo 20 [] ?_
  repeat' (first
    | (exact sO.use f105)
    | (show vp_in _ _; simp (disch := first | omega | decide) only [zcn, zkpl, zki, zki1, zk8, zk16, zo32, zlt0, zle0, zeq0, zgt0, zLe0, nI_ltI, nI_leI, nI_eq, nI_add, nI_clamp, vp_in_nI, zup_s, zup_n, upd_s, upd_n, ne_eq, not_true_eq_false, not_false_eq_true]; done)
    | (intro hc; exfalso; simp (disch := first | omega | decide) only [zcn, zkpl, zki, zki1, zk8, zk16, zo32, zlt0, zle0, zeq0, zgt0, zLe0, nI_ltI, nI_leI, nI_eq, nI_add, nI_clamp, vp_in_nI, zup_s, zup_n, upd_s, upd_n, ne_eq, not_true_eq_false, not_false_eq_true] at hc <;> omega)
    | (intro hc; exact absurd rfl hc)
    | intro hc
    | apply And.intro
    | exact Or.inl rfl
    | exact Or.inr rfl
    | (show (_ : Int32) = 0 ∨ _ = 1; simp (disch := first | omega | decide) only [zcn, zkpl, zki, zki1, zk8, zk16, zo32, zlt0, zle0, zeq0, zgt0, zLe0, nI_ltI, nI_leI, nI_eq, nI_add, nI_clamp, vp_in_nI, zup_s, zup_n, upd_s, upd_n, ne_eq, not_true_eq_false, not_false_eq_true, zeq1, true_or, or_true]; done))
