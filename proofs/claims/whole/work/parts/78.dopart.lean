/-! doPart -/
theorem amF_nd {x : Nat} : ∀ k w, amF w (nd x k) = w * 10 ^ (k + 1) + x % 10 ^ (k + 1) := by
  intro k
  induction k with
  | zero =>
    intro w
    have e : amF w (nd x 0) = 10 * w + (48 + x / 1 % 10 - 48) := by
      unfold amF nd
      rw [List.foldl_cons, List.foldl_nil, if_neg (by omega)]
    rw [e, Nat.div_one, Nat.zero_add, Nat.pow_one]
    omega
  | succ k ih =>
    intro w
    have e : amF w (nd x (k + 1)) = amF (10 * w + (48 + x / 10 ^ (k + 1) % 10 - 48)) (nd x k) := by
      unfold amF
      rw [nd, List.foldl_cons, if_neg (by omega)]
    rw [e, ih, Nat.add_sub_cancel_left, Nat.pow_succ 10 (k + 1), Nat.mod_mul, Nat.add_mul]
    rw [show 10 * w * 10 ^ (k + 1) = w * (10 ^ (k + 1) * 10) by rw [Nat.mul_comm 10 w, Nat.mul_assoc, Nat.mul_comm 10]]
    rw [Nat.mul_comm (x / 10 ^ (k + 1) % 10)]
    omega
theorem amF_nda {x : Nat} (hx : x ≤ 999999) : amF 0 (nda x 5) = x := by
  obtain ⟨k, k1, k2, k3⟩ : ∃ k, k ≤ 5 ∧ (k = 0 ∨ 10 ^ k ≤ x) ∧ x < 10 ^ (k + 1) := by
    by_cases a1 : x < 10
    · exact ⟨0, by omega, Or.inl rfl, by omega⟩
    · by_cases a2 : x < 100
      · exact ⟨1, by omega, Or.inr (by omega), by omega⟩
      · by_cases a3 : x < 1000
        · exact ⟨2, by omega, Or.inr (by omega), by omega⟩
        · by_cases a4 : x < 10000
          · exact ⟨3, by omega, Or.inr (by omega), by omega⟩
          · by_cases a5 : x < 100000
            · exact ⟨4, by omega, Or.inr (by omega), by omega⟩
            · exact ⟨5, by omega, Or.inr (by omega), by omega⟩
  have e := nda_up k3 (5 - k)
  rw [show k + (5 - k) = 5 by omega, nd_nda k k2] at e
  rw [e, amF_nd, Nat.zero_mul, Nat.zero_add, Nat.mod_eq_of_lt k3]
theorem amF_amT {v : Nat} (hv : v ≤ 99999999) : amF 0 (amT v) = v := by
  have e : amF 0 (amT v) = amF (amF 0 (nda (v / 100) 5)) (46 :: two (v % 100)) := by
    unfold amF amT
    rw [List.foldl_append]
  rw [e, amF_nda (by omega)]
  unfold amF two
  rw [List.foldl_cons, if_pos rfl, List.foldl_cons, if_neg (by omega), List.foldl_cons, if_neg (by omega), List.foldl_nil]
  omega
/-- how far the next <E> stands -/
def dE (nm : Nat → List Nat) (vl : Nat → Nat) (t : Nat) : Nat := (nm (5 + 5 * t)).length + (4 + (10 + (10 + ((lfx 65 (amT (vl (8 + 5 * t)))).length + (4 + (3 + 0)))))) + 3
def pE (nm : Nat → List Nat) (vl : Nat → Nat) (E0 : Nat) : Nat → Nat
  | 0 => E0
  | t + 1 => pE nm vl E0 t + dE nm vl t
theorem sE_len {nm : Nat → List Nat} {vl pl dg : Nat → Nat} {Z : List Nat} {k t : Nat} : (sE nm vl pl dg Z (k + 1) t).length = dE nm vl t + (sE nm vl pl dg Z k (t + 1)).length := by
  unfold sE
  rw [ptx_sE]
  unfold sE dE lfx
  simp only [List.length_append, List.length_cons, List.length_nil]
  unfold acT two
  simp only [List.length_cons, List.length_nil]
  omega
theorem sE_next {u : zM} {nm : Nat → List Nat} {vl pl dg : Nat → Nat} {Z : List Nat} {k t e : Nat} (h : tx u e (sE nm vl pl dg Z (k + 1) t)) : tx u (e + dE nm vl t) (sE nm vl pl dg Z k (t + 1)) := by
  unfold sE at h
  rw [ptx_sE] at h
  have h := tx_drop (tx_drop (tx_drop (tx_drop (tx_drop (tx_drop (tx_drop (tx_drop h)))))))
  have e1 : e + (nm (5 + 5 * t)).length + [60, 47, 69, 62].length + (lfx 68 (acT (pl (6 + 5 * t)) (dg (6 + 5 * t)))).length + (lfx 67 (acT (pl (7 + 5 * t)) (dg (7 + 5 * t)))).length + (lfx 65 (amT (vl (8 + 5 * t)))).length + [60, 47, 84, 62].length + [60, 84, 62].length + [60, 69, 62].length = e + dE nm vl t := by
    unfold dE lfx acT two
    simp only [List.length_append, List.length_cons, List.length_nil]
    omega
  rw [e1] at h
  exact h
def okT2 (n : Nat) (nm : Nat → List Nat) (vl pl dg : Nat → Nat) : Prop := ∀ t, t < n → nmOk (nm (5 + 5 * t)) ∧ (pl (6 + 5 * t) ≤ 3 ∧ dg (6 + 5 * t) ≤ 99) ∧ (pl (7 + 5 * t) ≤ 3 ∧ dg (7 + 5 * t) ≤ 99) ∧ 1 ≤ vl (8 + 5 * t) ∧ vl (8 + 5 * t) ≤ 99999999
theorem dp_loop {u : zM} {n nb E0 k : Nat} {nm : Nat → List Nat} {vl pl dg : Nat → Nat} {Z : List Nat} (ho : okT2 n nm vl pl dg) (hk : k < n) (hn : n ≤ 3) (hnb : nb ≤ 6000) (h36 : u 42 36 = nI nb) (hby : ∀ j t, t + j < n → ∀ c ∈ sE nm vl pl dg Z j t, c < 256) {R : zLs} (hR : R = [(0, .ref 42), (1, .int (nI E0)), (2, .int (nI k))]) (Q : zQ) (W : tx u (pE nm vl E0 k) (sE nm vl pl dg Z (n - 1 - k) k) → pE nm vl E0 k + (sE nm vl pl dg Z (n - 1 - k) k).length < nb → ZW 201 (0, 0, 0, 0) 25 ((4, .int (nI k)) :: (3, .int (nI (pE nm vl E0 k))) :: R) [] (SH, u) Q) : ∀ (r i : Nat), i + r = k → tx u (pE nm vl E0 i) (sE nm vl pl dg Z (n - 1 - i) i) → pE nm vl E0 i + (sE nm vl pl dg Z (n - 1 - i) i).length < nb → ZW 201 (0, 0, 0, 0) 5 ((4, .int (nI i)) :: (3, .int (nI (pE nm vl E0 i))) :: R) [] (SH, u) Q := by
  subst hR
  intro r
  induction r with
  | zero =>
    intro i hi ht hl
    obtain rfl : i = k := by omega
    have W1 := W ht hl
    refine zgo 3 [] ?_
    repeat' (first
      | (exact W1)
      | (show vp_in _ _; simp (disch := first | omega | decide) only [zcn, zkpl, zki, zki1, zk8, zk16, zo32, zlt0, zle0, zeq0, zgt0, zLe0, nI_ltI, nI_leI, nI_eq, nI_add, nI_clamp, vp_in_nI, zup_s, zup_n, upd_s, upd_n, ne_eq, not_true_eq_false, not_false_eq_true]; done)
      | (intro hc; exfalso; simp (disch := first | omega | decide) only [zcn, zkpl, zki, zki1, zk8, zk16, zo32, zlt0, zle0, zeq0, zgt0, zLe0, nI_ltI, nI_leI, nI_eq, nI_add, nI_clamp, vp_in_nI, zup_s, zup_n, upd_s, upd_n, ne_eq, not_true_eq_false, not_false_eq_true] at hc <;> omega)
      | (intro hc; exact absurd rfl hc)
      | intro hc
      | apply And.intro
      | exact Or.inl rfl
      | exact Or.inr rfl
      | (show (_ : Int32) = 0 ∨ _ = 1; simp (disch := first | omega | decide) only [zcn, zkpl, zki, zki1, zk8, zk16, zo32, zlt0, zle0, zeq0, zgt0, zLe0, nI_ltI, nI_leI, nI_eq, nI_add, nI_clamp, vp_in_nI, zup_s, zup_n, upd_s, upd_n, ne_eq, not_true_eq_false, not_false_eq_true, zeq1, true_or, or_true]; done))
  | succ r ih =>
    intro i hi ht hl
    have e3 : nI i + Int32.ofInt 1 = nI (i + 1) := by rw [zki, nI_add]
    obtain ⟨o1, o2, o3, o4⟩ := ho i (by omega)
    obtain ⟨j, hj⟩ : ∃ j, n - 1 - i = j + 1 := ⟨n - 1 - i - 1, by omega⟩
    rw [hj] at ht hl
    have s1 := es_next (y := (Int8.ofInt 69).toInt32) ht (hby _ _ (by omega)) hl hnb h36 (by decide) (sE_E o1 o2 o3) (by decide)
    have ep : pE nm vl E0 i + ((nm (5 + 5 * i)).length + (4 + (10 + (10 + ((lfx 65 (amT (vl (8 + 5 * i)))).length + (4 + (3 + 0))))))) + 3 = pE nm vl E0 (i + 1) := by
      rw [pE]
      unfold dE
      omega
    rw [ep] at s1
    have W1 := ih (i + 1) (by omega) (by
      rw [show n - 1 - (i + 1) = j by omega]
      exact sE_next ht) (by
      rw [show n - 1 - (i + 1) = j by omega]
      rw [sE_len] at hl
      rw [pE]
      omega)
    rw [← e3] at W1
    generalize pE nm vl E0 (i + 1) = P1 at *
    generalize pE nm vl E0 i = P at *
    have f18 : ZW 201 (0, 0, 0, 0) 18 [(4, .int (nI i)), (3, .int (nI P)), (0, .ref 42), (1, .int (nI E0)), (2, .int (nI k))] [.int (nI P1)] (SH, u) Q := by
      refine zgo 10 [] ?_
      exact W1
    refine zgo 10 [] ?_
    repeat' (first
      | (exact s1.use f18)
      | (show vp_in _ _; simp (disch := first | omega | decide) only [zcn, zkpl, zki, zki1, zk8, zk16, zo32, zlt0, zle0, zeq0, zgt0, zLe0, nI_ltI, nI_leI, nI_eq, nI_add, nI_clamp, vp_in_nI, zup_s, zup_n, upd_s, upd_n, ne_eq, not_true_eq_false, not_false_eq_true]; done)
      | (intro hc; exfalso; simp (disch := first | omega | decide) only [zcn, zkpl, zki, zki1, zk8, zk16, zo32, zlt0, zle0, zeq0, zgt0, zLe0, nI_ltI, nI_leI, nI_eq, nI_add, nI_clamp, vp_in_nI, zup_s, zup_n, upd_s, upd_n, ne_eq, not_true_eq_false, not_false_eq_true] at hc <;> omega)
      | (intro hc; exact absurd rfl hc)
      | intro hc
      | apply And.intro
      | exact Or.inl rfl
      | exact Or.inr rfl
      | (show (_ : Int32) = 0 ∨ _ = 1; simp (disch := first | omega | decide) only [zcn, zkpl, zki, zki1, zk8, zk16, zo32, zlt0, zle0, zeq0, zgt0, zLe0, nI_ltI, nI_leI, nI_eq, nI_add, nI_clamp, vp_in_nI, zup_s, zup_n, upd_s, upd_n, ne_eq, not_true_eq_false, not_false_eq_true, zeq1, true_or, or_true]; done))
