/-! one record on both sides: holding, waiting, expiring, marking -/
def txOk (m : zM) (t : Nat) : Prop := ∃ s d c a, m 33 t = nI s ∧ 1 ≤ s ∧ s ≤ 6 ∧ m 31 t = nI d ∧ d < 4 ∧ m 32 t = nI c ∧ c < 4 ∧ c ≠ d ∧ m 30 t = nI a ∧ 1 ≤ a ∧ a < 100000000
/-- the class's ledger is in order -/
def cW (m : zM) (nT nQ nR : Nat) : Prop := (∀ t, t < nT → txOk m t) ∧ qW m 33 35 28 8 nT nQ ∧ nR = cnt (m 33) (nI 4) nT + cnt (m 33) (nI 5) nT + 2 * cnt (m 33) (nI 6) nT
def LR (u m : zM) (nT nQ nR nM : Nat) : Prop := lR u m nT nQ nR nM ∧ cW m nT nQ nR
theorem qW_congr {m m' : zM} {n q : Nat} (h : qW m 33 35 28 8 n q) (h33 : m' 33 = m 33) (h35 : m' 35 = m 35) (h28 : m' 28 8 = m 28 8) : qW m' 33 35 28 8 n q := by
  unfold qW
  rw [h33, h35, h28]
  exact h
theorem qW_pop {m : zM} {n q t : Nat} {x : Int32} (hn : n ≤ 20) (h : qW m 33 35 28 8 n q) (h1 : 1 ≤ q) (h0 : m 35 0 = nI t) (ht : t < n) (hx : x ≠ nI 1) : qW (zup (zdq m q) 33 t x) 33 35 28 8 n (q - 1) := by
  obtain ⟨a1, a2, a3, a4⟩ := h
  have hqn : q ≤ n := by rw [a4]; exact cnt_le n
  have ht1 : m 33 t = nI 1 := by
    obtain ⟨t', b1, b2, b3⟩ := a2 0 (by omega)
    rw [h0, nI_eq (by omega) (by omega)] at b2
    subst b2
    exact b3
  have eS : zup (zdq m q) 33 t x 33 = upd (m 33) t x := by rw [zup_s, zdq_far (by decide) (by decide)]
  have eQ : ∀ k, k < q - 1 → zup (zdq m q) 33 t x 35 k = m 35 (k + 1) := fun k hk => by rw [zup_n _ (by decide), zdq_35 hk]
  refine ⟨by rw [zup_n _ (by decide), zdq_q], fun k hk => ?_, fun k j hk hj e => ?_, ?_⟩
  · obtain ⟨t', b1, b2, b3⟩ := a2 (k + 1) (by omega)
    refine ⟨t', b1, by rw [eQ k hk]; exact b2, ?_⟩
    have hne : t' ≠ t := by
      intro e
      subst e
      have := a3 (k + 1) 0 (by omega) (by omega) (by rw [b2, h0])
      omega
    rw [eS, upd_n _ hne]
    exact b3
  · rw [eQ k hk, eQ j hj] at e
    have := a3 _ _ (by omega) (by omega) e
    omega
  · rw [eS]
    have := cnt_upd (f := m 33) (v := nI 1) (x := x) (t := t) n ht
    rw [if_pos ht1, if_neg hx] at this
    omega
theorem first_ne {u m : zM} {nT nQ nR nM t : Nat} (h : LR u m nT nQ nR nM) (ht : t < nT) (h1 : 1 ≤ nQ) (h0 : m 35 0 = nI t) : u 66 0 = nI t ∧ (∀ j, 1 ≤ j → j < nQ → u 66 j ≠ nI t) ∧ m 33 t = nI 1 := by
  obtain ⟨⟨⟨t1, t2, t3⟩, ⟨q1, q2, q3⟩, -, -, -, hq, -⟩, -, ⟨a1, a2, a3, a4⟩, -⟩ := h
  refine ⟨by rw [hq 0 (by omega), h0], fun j g1 g2 e => ?_, ?_⟩
  · rw [hq j g2, ← h0] at e
    have := a3 j 0 g2 (by omega) e
    omega
  · obtain ⟨t', b1, b2, b3⟩ := a2 0 (by omega)
    rw [h0, nI_eq (by omega) (by omega)] at b2
    subst b2
    exact b3
theorem tx_status {m m' : zM} {t : Nat} {s : Nat} (h : txOk m t) (hs : m' 33 t = nI s) (h1 : 1 ≤ s) (h6 : s ≤ 6) (e31 : m' 31 = m 31) (e32 : m' 32 = m 32) (e30 : m' 30 = m 30) : txOk m' t := by
  obtain ⟨s0, d, c, a, -, -, -, b4, b5, b6, b7, b8, b9, b10, b11⟩ := h
  exact ⟨s, d, c, a, hs, h1, h6, by rw [e31]; exact b4, b5, by rw [e32]; exact b6, b7, b8, by rw [e30]; exact b9, b10, b11⟩
theorem tx_same {m m' : zM} {t : Nat} (h : txOk m t) (hs : m' 33 t = m 33 t) (e31 : m' 31 = m 31) (e32 : m' 32 = m 32) (e30 : m' 30 = m 30) : txOk m' t := by
  obtain ⟨s0, d, c, a, b1, b2, b3, b4, b5, b6, b7, b8, b9, b10, b11⟩ := h
  exact ⟨s0, d, c, a, by rw [hs]; exact b1, b2, b3, by rw [e31]; exact b4, b5, by rw [e32]; exact b6, b7, b8, by rw [e30]; exact b9, b10, b11⟩
/-- t leaves the queue, for status 2 or 3 -/
theorem LR_leave {u m : zM} {nT nQ nR nM t s : Nat} (hs : s = 2 ∨ s = 3) (h : LR u m nT nQ nR nM) (ht : t < nT) (h1 : 1 ≤ nQ) (h0 : m 35 0 = nI t) : LR (zup (mlv u nQ) 64 t (nI s)) (zup (zdq m nQ) 33 t (nI s)) nT (nQ - 1) nR nM := by
  have hf := first_ne h ht h1 h0
  obtain ⟨⟨⟨t1, t2, t3⟩, ⟨q1, q2, q3⟩, ⟨r1, r2, r3⟩, ⟨k1, k2, k3⟩, hrow, hq, hac, hen, hrp, hmn⟩, hx, hqW, hcR⟩ := h
  have e33 : zup (zdq m nQ) 33 t (nI s) 33 = upd (m 33) t (nI s) := by rw [zup_s, zdq_far (by decide) (by decide)]
  have fc : ∀ b, b ≠ 33 → b ≠ 35 → b ≠ 28 → zup (zdq m nQ) 33 t (nI s) b = m b := fun b g1 g2 g3 => by rw [zup_n _ g1, zdq_far g2 g3]
  have f28 : ∀ f, f ≠ 8 → zup (zdq m nQ) 33 t (nI s) 28 f = m 28 f := fun f g => by rw [zup_n _ (by decide), zdq_28 g]
  have fm : ∀ b, b ≠ 64 → b ≠ 66 → b ≠ 42 → zup (mlv u nQ) 64 t (nI s) b = u b := fun b g1 g2 g3 => by rw [zup_n _ g1, mlv_far g2 g3]
  have f42 : ∀ f, f ≠ 47 → zup (mlv u nQ) 64 t (nI s) 42 f = u 42 f := fun f g => by rw [zup_n _ (by decide), mlv_42 g]
  have e64 : zup (mlv u nQ) 64 t (nI s) 64 = upd (u 64) t (nI s) := by rw [zup_s, mlv_far (by decide) (by decide)]
  have cc : ∀ v : Int32, v ≠ nI 1 → v ≠ nI s → cnt (zup (zdq m nQ) 33 t (nI s) 33) v nT = cnt (m 33) v nT := fun v v1 v2 => by
    rw [e33]
    have := cnt_upd (f := m 33) (v := v) (x := nI s) (t := t) nT ht
    rw [if_neg (by rw [hf.2.2]; exact Ne.symm v1), if_neg (Ne.symm v2)] at this
    omega
  refine ⟨⟨⟨by rw [f28 6 (by decide), t1], by rw [f42 45 (by decide), t2], t3⟩, ⟨?_, ?_, by omega⟩, ⟨by rw [fc 36 (by decide) (by decide) (by decide), r1], by rw [f42 55 (by decide), r2], r3⟩, ⟨by rw [fc 18 (by decide) (by decide) (by decide), k1], by rw [f42 38 (by decide), k2], k3⟩, fun i hi => ?_, fun k hk => ?_, fun a ha => ?_, fun a ha => ?_, fun r hr => ?_, fun i hi => ?_⟩, fun i hi => ?_, ?_, ?_⟩
  · rw [zup_n _ (by decide), zdq_q]
  · rw [zup_n _ (by decide), mlv_q]
  · obtain ⟨b1, b2, b3, b4, b5, b6⟩ := hrow i hi
    rw [fm 61 (by decide) (by decide) (by decide), fm 62 (by decide) (by decide) (by decide), fm 63 (by decide) (by decide) (by decide), fm 65 (by decide) (by decide) (by decide), fm 60 (by decide) (by decide) (by decide), fc 30 (by decide) (by decide) (by decide), fc 31 (by decide) (by decide) (by decide), fc 32 (by decide) (by decide) (by decide), fc 34 (by decide) (by decide) (by decide), fc 29 (by decide) (by decide) (by decide), e64, e33]
    refine ⟨b1, b2, b3, ?_, b5, b6⟩
    by_cases e : i = t
    · subst e
      rw [upd_s, upd_s]
    · rw [upd_n _ e, upd_n _ e, b4]
  · rw [zup_n _ (by decide), mlv_66 (by omega)]
    rw [zup_n _ (by decide), zdq_35 (by omega)]
    exact hq (k + 1) (by omega)
  · rw [fm 67 (by decide) (by decide) (by decide), fm 68 (by decide) (by decide) (by decide), fm 70 (by decide) (by decide) (by decide), fc 20 (by decide) (by decide) (by decide), fc 21 (by decide) (by decide) (by decide), fc 22 (by decide) (by decide) (by decide)]
    exact hac a ha
  · rw [fm 69 (by decide) (by decide) (by decide), fc 22 (by decide) (by decide) (by decide), fc (24 + a) (by omega) (by omega) (by omega)]
    exact hen a ha
  · rw [fm 71 (by decide) (by decide) (by decide), fm 72 (by decide) (by decide) (by decide), fm 73 (by decide) (by decide) (by decide), fc 37 (by decide) (by decide) (by decide), fc 38 (by decide) (by decide) (by decide), fc 39 (by decide) (by decide) (by decide)]
    exact hrp r hr
  · rw [fm 59 (by decide) (by decide) (by decide), fc 41 (by decide) (by decide) (by decide)]
    exact hmn i hi
  · by_cases e : i = t
    · subst e
      exact tx_status (s := s) (hx i hi) (by rw [e33, upd_s]) (by omega) (by omega) (fc 31 (by decide) (by decide) (by decide)) (fc 32 (by decide) (by decide) (by decide)) (fc 30 (by decide) (by decide) (by decide))
    · exact tx_same (hx i hi) (by rw [e33, upd_n _ e]) (fc 31 (by decide) (by decide) (by decide)) (fc 32 (by decide) (by decide) (by decide)) (fc 30 (by decide) (by decide) (by decide))
  · exact qW_pop t3 hqW h1 h0 ht (by rcases hs with rfl | rfl <;> decide)
  · rw [cc (nI 4) (by decide) (by rcases hs with rfl | rfl <;> decide), cc (nI 5) (by decide) (by rcases hs with rfl | rfl <;> decide), cc (nI 6) (by decide) (by rcases hs with rfl | rfl <;> decide)]
    exact hcR
theorem LR_res {u m : zM} {nT nQ nR nM : Nat} {d : Nat} (x : Int32) (h : LR u m nT nQ nR nM) : LR (zup u 68 d x) (zup m 21 d x) nT nQ nR nM := by
  obtain ⟨⟨⟨t1, t2, t3⟩, ⟨q1, q2, q3⟩, ⟨r1, r2, r3⟩, ⟨k1, k2, k3⟩, hrow, hq, hac, hen, hrp, hmn⟩, hx, hqW, hcR⟩ := h
  have hac2 : ∀ a, a < 4 → zup u 68 d x 67 a = zup m 21 d x 20 a ∧ zup u 68 d x 68 a = zup m 21 d x 21 a ∧ zup u 68 d x 70 a = zup m 21 d x 22 a := by
    intro a ha
    obtain ⟨b1, b2, b3⟩ := hac a ha
    by_cases e : a = d
    · subst e
      simp (disch := first | omega | decide) only [b1, b3, zcn, zkpl, zki, zki1, zk8, zk16, zo32, zlt0, zle0, zeq0, zgt0, zLe0, nI_ltI, nI_leI, nI_eq, nI_add, nI_clamp, vp_in_nI, zup_s, zup_n, upd_s, upd_n, ne_eq, not_true_eq_false, not_false_eq_true]
      exact ⟨trivial, trivial, trivial⟩
    · simp (disch := first | omega | decide) only [b1, b2, b3, zcn, zkpl, zki, zki1, zk8, zk16, zo32, zlt0, zle0, zeq0, zgt0, zLe0, nI_ltI, nI_leI, nI_eq, nI_add, nI_clamp, vp_in_nI, zup_s, zup_n, upd_s, upd_n, ne_eq, not_true_eq_false, not_false_eq_true]
      exact ⟨trivial, trivial, trivial⟩
  exact ⟨⟨⟨by simp (disch := first | omega | decide) only [t1, zcn, zkpl, zki, zki1, zk8, zk16, zo32, zlt0, zle0, zeq0, zgt0, zLe0, nI_ltI, nI_leI, nI_eq, nI_add, nI_clamp, vp_in_nI, zup_s, zup_n, upd_s, upd_n, ne_eq, not_true_eq_false, not_false_eq_true], by simp (disch := first | omega | decide) only [t2, zcn, zkpl, zki, zki1, zk8, zk16, zo32, zlt0, zle0, zeq0, zgt0, zLe0, nI_ltI, nI_leI, nI_eq, nI_add, nI_clamp, vp_in_nI, zup_s, zup_n, upd_s, upd_n, ne_eq, not_true_eq_false, not_false_eq_true], t3⟩, ⟨by simp (disch := first | omega | decide) only [q1, zcn, zkpl, zki, zki1, zk8, zk16, zo32, zlt0, zle0, zeq0, zgt0, zLe0, nI_ltI, nI_leI, nI_eq, nI_add, nI_clamp, vp_in_nI, zup_s, zup_n, upd_s, upd_n, ne_eq, not_true_eq_false, not_false_eq_true], by simp (disch := first | omega | decide) only [q2, zcn, zkpl, zki, zki1, zk8, zk16, zo32, zlt0, zle0, zeq0, zgt0, zLe0, nI_ltI, nI_leI, nI_eq, nI_add, nI_clamp, vp_in_nI, zup_s, zup_n, upd_s, upd_n, ne_eq, not_true_eq_false, not_false_eq_true], q3⟩, ⟨by simp (disch := first | omega | decide) only [r1, zcn, zkpl, zki, zki1, zk8, zk16, zo32, zlt0, zle0, zeq0, zgt0, zLe0, nI_ltI, nI_leI, nI_eq, nI_add, nI_clamp, vp_in_nI, zup_s, zup_n, upd_s, upd_n, ne_eq, not_true_eq_false, not_false_eq_true], by simp (disch := first | omega | decide) only [r2, zcn, zkpl, zki, zki1, zk8, zk16, zo32, zlt0, zle0, zeq0, zgt0, zLe0, nI_ltI, nI_leI, nI_eq, nI_add, nI_clamp, vp_in_nI, zup_s, zup_n, upd_s, upd_n, ne_eq, not_true_eq_false, not_false_eq_true], r3⟩, ⟨by simp (disch := first | omega | decide) only [k1, zcn, zkpl, zki, zki1, zk8, zk16, zo32, zlt0, zle0, zeq0, zgt0, zLe0, nI_ltI, nI_leI, nI_eq, nI_add, nI_clamp, vp_in_nI, zup_s, zup_n, upd_s, upd_n, ne_eq, not_true_eq_false, not_false_eq_true], by simp (disch := first | omega | decide) only [k2, zcn, zkpl, zki, zki1, zk8, zk16, zo32, zlt0, zle0, zeq0, zgt0, zLe0, nI_ltI, nI_leI, nI_eq, nI_add, nI_clamp, vp_in_nI, zup_s, zup_n, upd_s, upd_n, ne_eq, not_true_eq_false, not_false_eq_true], k3⟩, fun i hi => by simp (disch := first | omega | decide) only [zcn, zkpl, zki, zki1, zk8, zk16, zo32, zlt0, zle0, zeq0, zgt0, zLe0, nI_ltI, nI_leI, nI_eq, nI_add, nI_clamp, vp_in_nI, zup_s, zup_n, upd_s, upd_n, ne_eq, not_true_eq_false, not_false_eq_true]; exact hrow i hi, fun k hk => by simp (disch := first | omega | decide) only [zcn, zkpl, zki, zki1, zk8, zk16, zo32, zlt0, zle0, zeq0, zgt0, zLe0, nI_ltI, nI_leI, nI_eq, nI_add, nI_clamp, vp_in_nI, zup_s, zup_n, upd_s, upd_n, ne_eq, not_true_eq_false, not_false_eq_true]; exact hq k hk, hac2, fun a ha => by simp (disch := first | omega | decide) only [zcn, zkpl, zki, zki1, zk8, zk16, zo32, zlt0, zle0, zeq0, zgt0, zLe0, nI_ltI, nI_leI, nI_eq, nI_add, nI_clamp, vp_in_nI, zup_s, zup_n, upd_s, upd_n, ne_eq, not_true_eq_false, not_false_eq_true]; exact hen a ha, fun r hr => by simp (disch := first | omega | decide) only [zcn, zkpl, zki, zki1, zk8, zk16, zo32, zlt0, zle0, zeq0, zgt0, zLe0, nI_ltI, nI_leI, nI_eq, nI_add, nI_clamp, vp_in_nI, zup_s, zup_n, upd_s, upd_n, ne_eq, not_true_eq_false, not_false_eq_true]; exact hrp r hr, fun i hi => by simp (disch := first | omega | decide) only [zcn, zkpl, zki, zki1, zk8, zk16, zo32, zlt0, zle0, zeq0, zgt0, zLe0, nI_ltI, nI_leI, nI_eq, nI_add, nI_clamp, vp_in_nI, zup_s, zup_n, upd_s, upd_n, ne_eq, not_true_eq_false, not_false_eq_true]; exact hmn i hi⟩, fun i hi => tx_same (hx i hi) (by simp (disch := first | omega | decide) only [zcn, zkpl, zki, zki1, zk8, zk16, zo32, zlt0, zle0, zeq0, zgt0, zLe0, nI_ltI, nI_leI, nI_eq, nI_add, nI_clamp, vp_in_nI, zup_s, zup_n, upd_s, upd_n, ne_eq, not_true_eq_false, not_false_eq_true]) (by simp (disch := first | omega | decide) only [zcn, zkpl, zki, zki1, zk8, zk16, zo32, zlt0, zle0, zeq0, zgt0, zLe0, nI_ltI, nI_leI, nI_eq, nI_add, nI_clamp, vp_in_nI, zup_s, zup_n, upd_s, upd_n, ne_eq, not_true_eq_false, not_false_eq_true]) (by simp (disch := first | omega | decide) only [zcn, zkpl, zki, zki1, zk8, zk16, zo32, zlt0, zle0, zeq0, zgt0, zLe0, nI_ltI, nI_leI, nI_eq, nI_add, nI_clamp, vp_in_nI, zup_s, zup_n, upd_s, upd_n, ne_eq, not_true_eq_false, not_false_eq_true]) (by simp (disch := first | omega | decide) only [zcn, zkpl, zki, zki1, zk8, zk16, zo32, zlt0, zle0, zeq0, zgt0, zLe0, nI_ltI, nI_leI, nI_eq, nI_add, nI_clamp, vp_in_nI, zup_s, zup_n, upd_s, upd_n, ne_eq, not_true_eq_false, not_false_eq_true]), qW_congr hqW (by simp (disch := first | omega | decide) only [zcn, zkpl, zki, zki1, zk8, zk16, zo32, zlt0, zle0, zeq0, zgt0, zLe0, nI_ltI, nI_leI, nI_eq, nI_add, nI_clamp, vp_in_nI, zup_s, zup_n, upd_s, upd_n, ne_eq, not_true_eq_false, not_false_eq_true]) (by simp (disch := first | omega | decide) only [zcn, zkpl, zki, zki1, zk8, zk16, zo32, zlt0, zle0, zeq0, zgt0, zLe0, nI_ltI, nI_leI, nI_eq, nI_add, nI_clamp, vp_in_nI, zup_s, zup_n, upd_s, upd_n, ne_eq, not_true_eq_false, not_false_eq_true]) (by simp (disch := first | omega | decide) only [zcn, zkpl, zki, zki1, zk8, zk16, zo32, zlt0, zle0, zeq0, zgt0, zLe0, nI_ltI, nI_leI, nI_eq, nI_add, nI_clamp, vp_in_nI, zup_s, zup_n, upd_s, upd_n, ne_eq, not_true_eq_false, not_false_eq_true]), by simp (disch := first | omega | decide) only [zcn, zkpl, zki, zki1, zk8, zk16, zo32, zlt0, zle0, zeq0, zgt0, zLe0, nI_ltI, nI_leI, nI_eq, nI_add, nI_clamp, vp_in_nI, zup_s, zup_n, upd_s, upd_n, ne_eq, not_true_eq_false, not_false_eq_true]; exact hcR⟩
theorem LR_dl {u m : zM} {nT nQ nR nM : Nat} {t : Nat} (x : Int32) (h : LR u m nT nQ nR nM) : LR (zup u 65 t x) (zup m 34 t x) nT nQ nR nM := by
  obtain ⟨⟨⟨t1, t2, t3⟩, ⟨q1, q2, q3⟩, ⟨r1, r2, r3⟩, ⟨k1, k2, k3⟩, hrow, hq, hac, hen, hrp, hmn⟩, hx, hqW, hcR⟩ := h
  have hrow2 : ∀ i, i < nT → zup u 65 t x 61 i = zup m 34 t x 30 i ∧ zup u 65 t x 62 i = zup m 34 t x 31 i ∧ zup u 65 t x 63 i = zup m 34 t x 32 i ∧ zup u 65 t x 64 i = zup m 34 t x 33 i ∧ zup u 65 t x 65 i = zup m 34 t x 34 i ∧ nmR (zup m 34 t x 29 i) (zup u 65 t x 60 i) := by
    intro i hi
    obtain ⟨b1, b2, b3, b4, b5, b6⟩ := hrow i hi
    by_cases e : i = t
    · subst e
      simp (disch := first | omega | decide) only [zcn, zkpl, zki, zki1, zk8, zk16, zo32, zlt0, zle0, zeq0, zgt0, zLe0, nI_ltI, nI_leI, nI_eq, nI_add, nI_clamp, vp_in_nI, zup_s, zup_n, upd_s, upd_n, ne_eq, not_true_eq_false, not_false_eq_true]
      exact ⟨b1, b2, b3, b4, trivial, b6⟩
    · simp (disch := first | omega | decide) only [zcn, zkpl, zki, zki1, zk8, zk16, zo32, zlt0, zle0, zeq0, zgt0, zLe0, nI_ltI, nI_leI, nI_eq, nI_add, nI_clamp, vp_in_nI, zup_s, zup_n, upd_s, upd_n, ne_eq, not_true_eq_false, not_false_eq_true]
      exact ⟨b1, b2, b3, b4, b5, b6⟩
  exact ⟨⟨⟨by simp (disch := first | omega | decide) only [t1, zcn, zkpl, zki, zki1, zk8, zk16, zo32, zlt0, zle0, zeq0, zgt0, zLe0, nI_ltI, nI_leI, nI_eq, nI_add, nI_clamp, vp_in_nI, zup_s, zup_n, upd_s, upd_n, ne_eq, not_true_eq_false, not_false_eq_true], by simp (disch := first | omega | decide) only [t2, zcn, zkpl, zki, zki1, zk8, zk16, zo32, zlt0, zle0, zeq0, zgt0, zLe0, nI_ltI, nI_leI, nI_eq, nI_add, nI_clamp, vp_in_nI, zup_s, zup_n, upd_s, upd_n, ne_eq, not_true_eq_false, not_false_eq_true], t3⟩, ⟨by simp (disch := first | omega | decide) only [q1, zcn, zkpl, zki, zki1, zk8, zk16, zo32, zlt0, zle0, zeq0, zgt0, zLe0, nI_ltI, nI_leI, nI_eq, nI_add, nI_clamp, vp_in_nI, zup_s, zup_n, upd_s, upd_n, ne_eq, not_true_eq_false, not_false_eq_true], by simp (disch := first | omega | decide) only [q2, zcn, zkpl, zki, zki1, zk8, zk16, zo32, zlt0, zle0, zeq0, zgt0, zLe0, nI_ltI, nI_leI, nI_eq, nI_add, nI_clamp, vp_in_nI, zup_s, zup_n, upd_s, upd_n, ne_eq, not_true_eq_false, not_false_eq_true], q3⟩, ⟨by simp (disch := first | omega | decide) only [r1, zcn, zkpl, zki, zki1, zk8, zk16, zo32, zlt0, zle0, zeq0, zgt0, zLe0, nI_ltI, nI_leI, nI_eq, nI_add, nI_clamp, vp_in_nI, zup_s, zup_n, upd_s, upd_n, ne_eq, not_true_eq_false, not_false_eq_true], by simp (disch := first | omega | decide) only [r2, zcn, zkpl, zki, zki1, zk8, zk16, zo32, zlt0, zle0, zeq0, zgt0, zLe0, nI_ltI, nI_leI, nI_eq, nI_add, nI_clamp, vp_in_nI, zup_s, zup_n, upd_s, upd_n, ne_eq, not_true_eq_false, not_false_eq_true], r3⟩, ⟨by simp (disch := first | omega | decide) only [k1, zcn, zkpl, zki, zki1, zk8, zk16, zo32, zlt0, zle0, zeq0, zgt0, zLe0, nI_ltI, nI_leI, nI_eq, nI_add, nI_clamp, vp_in_nI, zup_s, zup_n, upd_s, upd_n, ne_eq, not_true_eq_false, not_false_eq_true], by simp (disch := first | omega | decide) only [k2, zcn, zkpl, zki, zki1, zk8, zk16, zo32, zlt0, zle0, zeq0, zgt0, zLe0, nI_ltI, nI_leI, nI_eq, nI_add, nI_clamp, vp_in_nI, zup_s, zup_n, upd_s, upd_n, ne_eq, not_true_eq_false, not_false_eq_true], k3⟩, hrow2, fun k hk => by simp (disch := first | omega | decide) only [zcn, zkpl, zki, zki1, zk8, zk16, zo32, zlt0, zle0, zeq0, zgt0, zLe0, nI_ltI, nI_leI, nI_eq, nI_add, nI_clamp, vp_in_nI, zup_s, zup_n, upd_s, upd_n, ne_eq, not_true_eq_false, not_false_eq_true]; exact hq k hk, fun a ha => by simp (disch := first | omega | decide) only [zcn, zkpl, zki, zki1, zk8, zk16, zo32, zlt0, zle0, zeq0, zgt0, zLe0, nI_ltI, nI_leI, nI_eq, nI_add, nI_clamp, vp_in_nI, zup_s, zup_n, upd_s, upd_n, ne_eq, not_true_eq_false, not_false_eq_true]; exact hac a ha, fun a ha => by simp (disch := first | omega | decide) only [zcn, zkpl, zki, zki1, zk8, zk16, zo32, zlt0, zle0, zeq0, zgt0, zLe0, nI_ltI, nI_leI, nI_eq, nI_add, nI_clamp, vp_in_nI, zup_s, zup_n, upd_s, upd_n, ne_eq, not_true_eq_false, not_false_eq_true]; exact hen a ha, fun r hr => by simp (disch := first | omega | decide) only [zcn, zkpl, zki, zki1, zk8, zk16, zo32, zlt0, zle0, zeq0, zgt0, zLe0, nI_ltI, nI_leI, nI_eq, nI_add, nI_clamp, vp_in_nI, zup_s, zup_n, upd_s, upd_n, ne_eq, not_true_eq_false, not_false_eq_true]; exact hrp r hr, fun i hi => by simp (disch := first | omega | decide) only [zcn, zkpl, zki, zki1, zk8, zk16, zo32, zlt0, zle0, zeq0, zgt0, zLe0, nI_ltI, nI_leI, nI_eq, nI_add, nI_clamp, vp_in_nI, zup_s, zup_n, upd_s, upd_n, ne_eq, not_true_eq_false, not_false_eq_true]; exact hmn i hi⟩, fun i hi => tx_same (hx i hi) (by simp (disch := first | omega | decide) only [zcn, zkpl, zki, zki1, zk8, zk16, zo32, zlt0, zle0, zeq0, zgt0, zLe0, nI_ltI, nI_leI, nI_eq, nI_add, nI_clamp, vp_in_nI, zup_s, zup_n, upd_s, upd_n, ne_eq, not_true_eq_false, not_false_eq_true]) (by simp (disch := first | omega | decide) only [zcn, zkpl, zki, zki1, zk8, zk16, zo32, zlt0, zle0, zeq0, zgt0, zLe0, nI_ltI, nI_leI, nI_eq, nI_add, nI_clamp, vp_in_nI, zup_s, zup_n, upd_s, upd_n, ne_eq, not_true_eq_false, not_false_eq_true]) (by simp (disch := first | omega | decide) only [zcn, zkpl, zki, zki1, zk8, zk16, zo32, zlt0, zle0, zeq0, zgt0, zLe0, nI_ltI, nI_leI, nI_eq, nI_add, nI_clamp, vp_in_nI, zup_s, zup_n, upd_s, upd_n, ne_eq, not_true_eq_false, not_false_eq_true]) (by simp (disch := first | omega | decide) only [zcn, zkpl, zki, zki1, zk8, zk16, zo32, zlt0, zle0, zeq0, zgt0, zLe0, nI_ltI, nI_leI, nI_eq, nI_add, nI_clamp, vp_in_nI, zup_s, zup_n, upd_s, upd_n, ne_eq, not_true_eq_false, not_false_eq_true]), qW_congr hqW (by simp (disch := first | omega | decide) only [zcn, zkpl, zki, zki1, zk8, zk16, zo32, zlt0, zle0, zeq0, zgt0, zLe0, nI_ltI, nI_leI, nI_eq, nI_add, nI_clamp, vp_in_nI, zup_s, zup_n, upd_s, upd_n, ne_eq, not_true_eq_false, not_false_eq_true]) (by simp (disch := first | omega | decide) only [zcn, zkpl, zki, zki1, zk8, zk16, zo32, zlt0, zle0, zeq0, zgt0, zLe0, nI_ltI, nI_leI, nI_eq, nI_add, nI_clamp, vp_in_nI, zup_s, zup_n, upd_s, upd_n, ne_eq, not_true_eq_false, not_false_eq_true]) (by simp (disch := first | omega | decide) only [zcn, zkpl, zki, zki1, zk8, zk16, zo32, zlt0, zle0, zeq0, zgt0, zLe0, nI_ltI, nI_leI, nI_eq, nI_add, nI_clamp, vp_in_nI, zup_s, zup_n, upd_s, upd_n, ne_eq, not_true_eq_false, not_false_eq_true]), by simp (disch := first | omega | decide) only [zcn, zkpl, zki, zki1, zk8, zk16, zo32, zlt0, zle0, zeq0, zgt0, zLe0, nI_ltI, nI_leI, nI_eq, nI_add, nI_clamp, vp_in_nI, zup_s, zup_n, upd_s, upd_n, ne_eq, not_true_eq_false, not_false_eq_true]; exact hcR⟩
theorem LR_mark {u m : zM} {nT nQ nR nM : Nat} {r0 : Nat} (h : LR u m nT nQ nR nM) : LR (zup u 73 r0 1) (zup m 39 r0 1) nT nQ nR nM := by
  obtain ⟨⟨⟨t1, t2, t3⟩, ⟨q1, q2, q3⟩, ⟨r1, r2, r3⟩, ⟨k1, k2, k3⟩, hrow, hq, hac, hen, hrp, hmn⟩, hx, hqW, hcR⟩ := h
  have hrp2 : ∀ r, r < nR → zup u 73 r0 1 71 r = zup m 39 r0 1 37 r ∧ zup u 73 r0 1 72 r = zup m 39 r0 1 38 r ∧ zup u 73 r0 1 73 r = zup m 39 r0 1 39 r ∧ (zup m 39 r0 1 39 r = 0 ∨ zup m 39 r0 1 39 r = 1) := by
    intro r hr
    obtain ⟨b1, b2, b3, b4⟩ := hrp r hr
    by_cases e : r = r0
    · subst e
      simp (disch := first | omega | decide) only [zcn, zkpl, zki, zki1, zk8, zk16, zo32, zlt0, zle0, zeq0, zgt0, zLe0, nI_ltI, nI_leI, nI_eq, nI_add, nI_clamp, vp_in_nI, zup_s, zup_n, upd_s, upd_n, ne_eq, not_true_eq_false, not_false_eq_true]
      exact ⟨b1, b2, trivial, Or.inr trivial⟩
    · simp (disch := first | omega | decide) only [zcn, zkpl, zki, zki1, zk8, zk16, zo32, zlt0, zle0, zeq0, zgt0, zLe0, nI_ltI, nI_leI, nI_eq, nI_add, nI_clamp, vp_in_nI, zup_s, zup_n, upd_s, upd_n, ne_eq, not_true_eq_false, not_false_eq_true]
      exact ⟨b1, b2, b3, b4⟩
  exact ⟨⟨⟨by simp (disch := first | omega | decide) only [t1, zcn, zkpl, zki, zki1, zk8, zk16, zo32, zlt0, zle0, zeq0, zgt0, zLe0, nI_ltI, nI_leI, nI_eq, nI_add, nI_clamp, vp_in_nI, zup_s, zup_n, upd_s, upd_n, ne_eq, not_true_eq_false, not_false_eq_true], by simp (disch := first | omega | decide) only [t2, zcn, zkpl, zki, zki1, zk8, zk16, zo32, zlt0, zle0, zeq0, zgt0, zLe0, nI_ltI, nI_leI, nI_eq, nI_add, nI_clamp, vp_in_nI, zup_s, zup_n, upd_s, upd_n, ne_eq, not_true_eq_false, not_false_eq_true], t3⟩, ⟨by simp (disch := first | omega | decide) only [q1, zcn, zkpl, zki, zki1, zk8, zk16, zo32, zlt0, zle0, zeq0, zgt0, zLe0, nI_ltI, nI_leI, nI_eq, nI_add, nI_clamp, vp_in_nI, zup_s, zup_n, upd_s, upd_n, ne_eq, not_true_eq_false, not_false_eq_true], by simp (disch := first | omega | decide) only [q2, zcn, zkpl, zki, zki1, zk8, zk16, zo32, zlt0, zle0, zeq0, zgt0, zLe0, nI_ltI, nI_leI, nI_eq, nI_add, nI_clamp, vp_in_nI, zup_s, zup_n, upd_s, upd_n, ne_eq, not_true_eq_false, not_false_eq_true], q3⟩, ⟨by simp (disch := first | omega | decide) only [r1, zcn, zkpl, zki, zki1, zk8, zk16, zo32, zlt0, zle0, zeq0, zgt0, zLe0, nI_ltI, nI_leI, nI_eq, nI_add, nI_clamp, vp_in_nI, zup_s, zup_n, upd_s, upd_n, ne_eq, not_true_eq_false, not_false_eq_true], by simp (disch := first | omega | decide) only [r2, zcn, zkpl, zki, zki1, zk8, zk16, zo32, zlt0, zle0, zeq0, zgt0, zLe0, nI_ltI, nI_leI, nI_eq, nI_add, nI_clamp, vp_in_nI, zup_s, zup_n, upd_s, upd_n, ne_eq, not_true_eq_false, not_false_eq_true], r3⟩, ⟨by simp (disch := first | omega | decide) only [k1, zcn, zkpl, zki, zki1, zk8, zk16, zo32, zlt0, zle0, zeq0, zgt0, zLe0, nI_ltI, nI_leI, nI_eq, nI_add, nI_clamp, vp_in_nI, zup_s, zup_n, upd_s, upd_n, ne_eq, not_true_eq_false, not_false_eq_true], by simp (disch := first | omega | decide) only [k2, zcn, zkpl, zki, zki1, zk8, zk16, zo32, zlt0, zle0, zeq0, zgt0, zLe0, nI_ltI, nI_leI, nI_eq, nI_add, nI_clamp, vp_in_nI, zup_s, zup_n, upd_s, upd_n, ne_eq, not_true_eq_false, not_false_eq_true], k3⟩, fun i hi => by simp (disch := first | omega | decide) only [zcn, zkpl, zki, zki1, zk8, zk16, zo32, zlt0, zle0, zeq0, zgt0, zLe0, nI_ltI, nI_leI, nI_eq, nI_add, nI_clamp, vp_in_nI, zup_s, zup_n, upd_s, upd_n, ne_eq, not_true_eq_false, not_false_eq_true]; exact hrow i hi, fun k hk => by simp (disch := first | omega | decide) only [zcn, zkpl, zki, zki1, zk8, zk16, zo32, zlt0, zle0, zeq0, zgt0, zLe0, nI_ltI, nI_leI, nI_eq, nI_add, nI_clamp, vp_in_nI, zup_s, zup_n, upd_s, upd_n, ne_eq, not_true_eq_false, not_false_eq_true]; exact hq k hk, fun a ha => by simp (disch := first | omega | decide) only [zcn, zkpl, zki, zki1, zk8, zk16, zo32, zlt0, zle0, zeq0, zgt0, zLe0, nI_ltI, nI_leI, nI_eq, nI_add, nI_clamp, vp_in_nI, zup_s, zup_n, upd_s, upd_n, ne_eq, not_true_eq_false, not_false_eq_true]; exact hac a ha, fun a ha => by simp (disch := first | omega | decide) only [zcn, zkpl, zki, zki1, zk8, zk16, zo32, zlt0, zle0, zeq0, zgt0, zLe0, nI_ltI, nI_leI, nI_eq, nI_add, nI_clamp, vp_in_nI, zup_s, zup_n, upd_s, upd_n, ne_eq, not_true_eq_false, not_false_eq_true]; exact hen a ha, hrp2, fun i hi => by simp (disch := first | omega | decide) only [zcn, zkpl, zki, zki1, zk8, zk16, zo32, zlt0, zle0, zeq0, zgt0, zLe0, nI_ltI, nI_leI, nI_eq, nI_add, nI_clamp, vp_in_nI, zup_s, zup_n, upd_s, upd_n, ne_eq, not_true_eq_false, not_false_eq_true]; exact hmn i hi⟩, fun i hi => tx_same (hx i hi) (by simp (disch := first | omega | decide) only [zcn, zkpl, zki, zki1, zk8, zk16, zo32, zlt0, zle0, zeq0, zgt0, zLe0, nI_ltI, nI_leI, nI_eq, nI_add, nI_clamp, vp_in_nI, zup_s, zup_n, upd_s, upd_n, ne_eq, not_true_eq_false, not_false_eq_true]) (by simp (disch := first | omega | decide) only [zcn, zkpl, zki, zki1, zk8, zk16, zo32, zlt0, zle0, zeq0, zgt0, zLe0, nI_ltI, nI_leI, nI_eq, nI_add, nI_clamp, vp_in_nI, zup_s, zup_n, upd_s, upd_n, ne_eq, not_true_eq_false, not_false_eq_true]) (by simp (disch := first | omega | decide) only [zcn, zkpl, zki, zki1, zk8, zk16, zo32, zlt0, zle0, zeq0, zgt0, zLe0, nI_ltI, nI_leI, nI_eq, nI_add, nI_clamp, vp_in_nI, zup_s, zup_n, upd_s, upd_n, ne_eq, not_true_eq_false, not_false_eq_true]) (by simp (disch := first | omega | decide) only [zcn, zkpl, zki, zki1, zk8, zk16, zo32, zlt0, zle0, zeq0, zgt0, zLe0, nI_ltI, nI_leI, nI_eq, nI_add, nI_clamp, vp_in_nI, zup_s, zup_n, upd_s, upd_n, ne_eq, not_true_eq_false, not_false_eq_true]), qW_congr hqW (by simp (disch := first | omega | decide) only [zcn, zkpl, zki, zki1, zk8, zk16, zo32, zlt0, zle0, zeq0, zgt0, zLe0, nI_ltI, nI_leI, nI_eq, nI_add, nI_clamp, vp_in_nI, zup_s, zup_n, upd_s, upd_n, ne_eq, not_true_eq_false, not_false_eq_true]) (by simp (disch := first | omega | decide) only [zcn, zkpl, zki, zki1, zk8, zk16, zo32, zlt0, zle0, zeq0, zgt0, zLe0, nI_ltI, nI_leI, nI_eq, nI_add, nI_clamp, vp_in_nI, zup_s, zup_n, upd_s, upd_n, ne_eq, not_true_eq_false, not_false_eq_true]) (by simp (disch := first | omega | decide) only [zcn, zkpl, zki, zki1, zk8, zk16, zo32, zlt0, zle0, zeq0, zgt0, zLe0, nI_ltI, nI_leI, nI_eq, nI_add, nI_clamp, vp_in_nI, zup_s, zup_n, upd_s, upd_n, ne_eq, not_true_eq_false, not_false_eq_true]), by simp (disch := first | omega | decide) only [zcn, zkpl, zki, zki1, zk8, zk16, zo32, zlt0, zle0, zeq0, zgt0, zLe0, nI_ltI, nI_leI, nI_eq, nI_add, nI_clamp, vp_in_nI, zup_s, zup_n, upd_s, upd_n, ne_eq, not_true_eq_false, not_false_eq_true]; exact hcR⟩
theorem LR_enter {u m : zM} {nT nQ nR nM a e : Nat} (v : Int32) (ha : a < 4) (he : e < 40) (hm : m 22 a = nI e) (h : LR u m nT nQ nR nM) : LR (men u a e v) (cbk m a e v) nT nQ nR nM := by
  obtain ⟨⟨⟨t1, t2, t3⟩, ⟨q1, q2, q3⟩, ⟨r1, r2, r3⟩, ⟨k1, k2, k3⟩, hrow, hq, hac, hen, hrp, hmn⟩, hx, hqW, hcR⟩ := h
  have fc : ∀ b, b ≠ 20 → b ≠ 22 → (b < 24 ∨ 28 ≤ b) → cbk m a e v b = m b := fun b g1 g2 g3 => cbk_far ha g1 g2 g3
  have fm : ∀ b, b ≠ 69 → b ≠ 70 → b ≠ 67 → men u a e v b = u b := fun b g1 g2 g3 => by
    unfold men
    rw [zup_n _ g3, zup_n _ g2, zup_n _ g1]
  have c28 := fc 28 (by decide) (by decide) (by decide)
  have c36 := fc 36 (by decide) (by decide) (by decide)
  have c18 := fc 18 (by decide) (by decide) (by decide)
  have m42 := fm 42 (by decide) (by decide) (by decide)
  have c33 := fc 33 (by decide) (by decide) (by decide)
  have c35 := fc 35 (by decide) (by decide) (by decide)
  have e70 : men u a e v 70 = upd (u 70) a (nI (e + 1)) := by unfold men; simp (disch := first | omega | decide) only [zcn, zkpl, zki, zki1, zk8, zk16, zo32, zlt0, zle0, zeq0, zgt0, zLe0, nI_ltI, nI_leI, nI_eq, nI_add, nI_clamp, vp_in_nI, zup_s, zup_n, upd_s, upd_n, ne_eq, not_true_eq_false, not_false_eq_true]
  have e67 : men u a e v 67 = upd (u 67) a (u 67 a + v) := by unfold men; simp (disch := first | omega | decide) only [zcn, zkpl, zki, zki1, zk8, zk16, zo32, zlt0, zle0, zeq0, zgt0, zLe0, nI_ltI, nI_leI, nI_eq, nI_add, nI_clamp, vp_in_nI, zup_s, zup_n, upd_s, upd_n, ne_eq, not_true_eq_false, not_false_eq_true]
  have e69 : men u a e v 69 = upd (u 69) (64 * a + e) v := by unfold men; simp (disch := first | omega | decide) only [zcn, zkpl, zki, zki1, zk8, zk16, zo32, zlt0, zle0, zeq0, zgt0, zLe0, nI_ltI, nI_leI, nI_eq, nI_add, nI_clamp, vp_in_nI, zup_s, zup_n, upd_s, upd_n, ne_eq, not_true_eq_false, not_false_eq_true]
  have e22 : cbk m a e v 22 = upd (m 22) a (nI (e + 1)) := by
    unfold cbk
    rw [zup_n _ (by decide), zup_s, zup_n _ (by omega)]
  have e20 : cbk m a e v 20 = upd (m 20) a (m 20 a + v) := by
    unfold cbk
    rw [zup_s, zup_n _ (by decide), zup_n _ (by omega)]
  have e24 : cbk m a e v (24 + a) = upd (m (24 + a)) e v := by
    unfold cbk
    rw [zup_n _ (by omega), zup_n _ (by omega), zup_s]
  have e24' : ∀ b, b < 4 → b ≠ a → cbk m a e v (24 + b) = m (24 + b) := fun b hb hne => by
    unfold cbk
    rw [zup_n _ (by omega), zup_n _ (by omega), zup_n _ (by omega)]
  refine ⟨⟨by rw [c28, m42]; exact ⟨t1, t2, t3⟩, by rw [c28, m42]; exact ⟨q1, q2, q3⟩, by rw [c36, m42]; exact ⟨r1, r2, r3⟩, by rw [c18, m42]; exact ⟨k1, k2, k3⟩, fun i hi => ?_, fun k hk => ?_, fun b hb => ?_, fun b hb => ?_, fun r hr => ?_, fun i hi => ?_⟩, fun i hi => ?_, qW_congr hqW c33 c35 (by rw [c28]), by rw [c33]; exact hcR⟩
  · rw [fm 61 (by decide) (by decide) (by decide), fm 62 (by decide) (by decide) (by decide), fm 63 (by decide) (by decide) (by decide), fm 64 (by decide) (by decide) (by decide), fm 65 (by decide) (by decide) (by decide), fm 60 (by decide) (by decide) (by decide), fc 30 (by decide) (by decide) (by decide), fc 31 (by decide) (by decide) (by decide), fc 32 (by decide) (by decide) (by decide), c33, fc 34 (by decide) (by decide) (by decide), fc 29 (by decide) (by decide) (by decide)]
    exact hrow i hi
  · rw [fm 66 (by decide) (by decide) (by decide), c35]
    exact hq k hk
  · obtain ⟨b1, b2, b3⟩ := hac b hb
    rw [e67, e70, e22, e20, fm 68 (by decide) (by decide) (by decide), fc 21 (by decide) (by decide) (by decide)]
    by_cases g : b = a
    · subst g
      rw [upd_s, upd_s, upd_s, upd_s, b1]
      exact ⟨rfl, b2, rfl⟩
    · rw [upd_n _ g, upd_n _ g, upd_n _ g, upd_n _ g]
      exact ⟨b1, b2, b3⟩
  · rw [e69, e22]
    obtain ⟨e', g1, g2, g3⟩ := hen b hb
    by_cases g : b = a
    · subst g
      rw [hm, nI_eq (by omega) (by omega)] at g1
      subst g1
      refine ⟨e + 1, by rw [upd_s], by omega, fun k hk => ?_⟩
      rw [e24]
      by_cases gk : k = e
      · subst gk
        rw [upd_s, upd_s]
      · rw [upd_n _ (by omega), upd_n _ gk]
        exact g3 k (by omega)
    · refine ⟨e', by rw [upd_n _ g]; exact g1, g2, fun k hk => ?_⟩
      rw [e24' b hb g, upd_n _ (by omega)]
      exact g3 k hk
  · rw [fm 71 (by decide) (by decide) (by decide), fm 72 (by decide) (by decide) (by decide), fm 73 (by decide) (by decide) (by decide), fc 37 (by decide) (by decide) (by decide), fc 38 (by decide) (by decide) (by decide), fc 39 (by decide) (by decide) (by decide)]
    exact hrp r hr
  · rw [fm 59 (by decide) (by decide) (by decide), fc 41 (by decide) (by decide) (by decide)]
    exact hmn i hi
  · exact tx_same (hx i hi) (by rw [c33]) (fc 31 (by decide) (by decide) (by decide)) (fc 32 (by decide) (by decide) (by decide)) (fc 30 (by decide) (by decide) (by decide))
theorem cnt_three {f : Nat → Int32} {v w x : Int32} (h1 : v ≠ w) (h2 : v ≠ x) (h3 : w ≠ x) : ∀ (n : Nat), cnt f v n + cnt f w n + cnt f x n ≤ n
  | 0 => Nat.le_refl _
  | n + 1 => by
    have := cnt_three (f := f) h1 h2 h3 n
    show cnt f v n + (if f n = v then 1 else 0) + (cnt f w n + (if f n = w then 1 else 0)) + (cnt f x n + (if f n = x then 1 else 0)) ≤ n + 1
    by_cases e1 : f n = v
    · rw [if_pos e1, if_neg (by rw [e1]; exact h1), if_neg (by rw [e1]; exact h2)]
      omega
    · by_cases e2 : f n = w
      · rw [if_neg e1, if_pos e2, if_neg (by rw [e2]; exact h3)]
        omega
      · rw [if_neg e1, if_neg e2]
        split <;> omega
/-- t ends with status s, and the next report -/
theorem LR_end {u m : zM} {nT nQ nR nM t s0 s : Nat} (ht : t < nT) (hs0 : m 33 t = nI s0) (hss : (s0 = 3 ∧ (s = 4 ∨ s = 5)) ∨ (s0 = 4 ∧ s = 6)) (hz : m 39 nR = 0) (h : LR u m nT nQ nR nM) : LR (ztl u t nR (nI s)) (cend m t nR (nI s)) nT nQ (nR + 1) nM := by
  obtain ⟨⟨⟨t1, t2, t3⟩, ⟨q1, q2, q3⟩, ⟨r1, r2, r3⟩, ⟨k1, k2, k3⟩, hrow, hq, hac, hen, hrp, hmn⟩, hx, hqW, hcR⟩ := h
  have fc : ∀ b, b ≠ 33 → b ≠ 36 → b ≠ 37 → b ≠ 38 → cend m t nR (nI s) b = m b := fun b g1 g2 g3 g4 => by
    unfold cend
    rw [zup_n _ g2, zup_n _ g4, zup_n _ g3, zup_n _ g1]
  have fm : ∀ b, b ≠ 64 → b ≠ 71 → b ≠ 72 → b ≠ 73 → b ≠ 42 → ztl u t nR (nI s) b = u b := fun b g1 g2 g3 g4 g5 => by
    unfold ztl
    rw [zup_n _ g5, zup_n _ g4, zup_n _ g3, zup_n _ g2, zup_n _ g1]
  have f42 : ∀ f, f ≠ 55 → ztl u t nR (nI s) 42 f = u 42 f := fun f g => by
    unfold ztl
    simp (disch := first | omega | decide) only [zcn, zkpl, zki, zki1, zk8, zk16, zo32, zlt0, zle0, zeq0, zgt0, zLe0, nI_ltI, nI_leI, nI_eq, nI_add, nI_clamp, vp_in_nI, zup_s, zup_n, upd_s, upd_n, ne_eq, not_true_eq_false, not_false_eq_true]
  have e33 : cend m t nR (nI s) 33 = upd (m 33) t (nI s) := by unfold cend; simp (disch := first | omega | decide) only [zcn, zkpl, zki, zki1, zk8, zk16, zo32, zlt0, zle0, zeq0, zgt0, zLe0, nI_ltI, nI_leI, nI_eq, nI_add, nI_clamp, vp_in_nI, zup_s, zup_n, upd_s, upd_n, ne_eq, not_true_eq_false, not_false_eq_true]
  have e64 : ztl u t nR (nI s) 64 = upd (u 64) t (nI s) := by unfold ztl; simp (disch := first | omega | decide) only [zcn, zkpl, zki, zki1, zk8, zk16, zo32, zlt0, zle0, zeq0, zgt0, zLe0, nI_ltI, nI_leI, nI_eq, nI_add, nI_clamp, vp_in_nI, zup_s, zup_n, upd_s, upd_n, ne_eq, not_true_eq_false, not_false_eq_true]
  have c35 := fc 35 (by decide) (by decide) (by decide) (by decide)
  have c28 := fc 28 (by decide) (by decide) (by decide) (by decide)
  have hcnt : ∀ v : Int32, cnt (upd (m 33) t (nI s)) v nT + (if nI s0 = v then 1 else 0) = cnt (m 33) v nT + (if nI s = v then 1 else 0) := fun v => by
    have := cnt_upd (f := m 33) (v := v) (x := nI s) (t := t) nT ht
    rwa [hs0] at this
  have hs01 : nI s0 ≠ nI 1 := by
    rcases hss with ⟨rfl, -⟩ | ⟨rfl, -⟩ <;> decide
  have hs1 : nI s ≠ nI 1 := by
    rcases hss with ⟨-, rfl | rfl⟩ | ⟨-, rfl⟩ <;> decide
  have hlt : nR + 1 ≤ 40 := by
    have h4 := hcnt (nI 4)
    have h5 := hcnt (nI 5)
    have h6 := hcnt (nI 6)
    have g1 := cnt_two (f := upd (m 33) t (nI s)) (v := nI 4) (w := nI 6) (by decide) nT
    have g2 : cnt (upd (m 33) t (nI s)) (nI 4) nT + cnt (upd (m 33) t (nI s)) (nI 5) nT + cnt (upd (m 33) t (nI s)) (nI 6) nT ≤ nT := cnt_three (by decide) (by decide) (by decide) nT
    rcases hss with ⟨rfl, rfl | rfl⟩ | ⟨rfl, rfl⟩ <;> simp (disch := decide) only [nI_eq, Nat.reduceEqDiff, if_true, if_false] at h4 h5 h6 <;> omega
  refine ⟨⟨by rw [c28, f42 45 (by decide)]; exact ⟨t1, t2, t3⟩, by rw [c28, f42 47 (by decide)]; exact ⟨q1, q2, q3⟩, ⟨by unfold cend; simp (disch := first | omega | decide) only [zcn, zkpl, zki, zki1, zk8, zk16, zo32, zlt0, zle0, zeq0, zgt0, zLe0, nI_ltI, nI_leI, nI_eq, nI_add, nI_clamp, vp_in_nI, zup_s, zup_n, upd_s, upd_n, ne_eq, not_true_eq_false, not_false_eq_true], by unfold ztl; simp (disch := first | omega | decide) only [zcn, zkpl, zki, zki1, zk8, zk16, zo32, zlt0, zle0, zeq0, zgt0, zLe0, nI_ltI, nI_leI, nI_eq, nI_add, nI_clamp, vp_in_nI, zup_s, zup_n, upd_s, upd_n, ne_eq, not_true_eq_false, not_false_eq_true], hlt⟩, by rw [fc 18 (by decide) (by decide) (by decide) (by decide), f42 38 (by decide)]; exact ⟨k1, k2, k3⟩, fun i hi => ?_, fun k hk => ?_, fun b hb => ?_, fun b hb => ?_, fun r hr => ?_, fun i hi => ?_⟩, fun i hi => ?_, ?_, ?_⟩
  · obtain ⟨b1, b2, b3, b4, b5, b6⟩ := hrow i hi
    rw [fm 61 (by decide) (by decide) (by decide) (by decide) (by decide), fm 62 (by decide) (by decide) (by decide) (by decide) (by decide), fm 63 (by decide) (by decide) (by decide) (by decide) (by decide), e64, fm 65 (by decide) (by decide) (by decide) (by decide) (by decide), fm 60 (by decide) (by decide) (by decide) (by decide) (by decide), fc 30 (by decide) (by decide) (by decide) (by decide), fc 31 (by decide) (by decide) (by decide) (by decide), fc 32 (by decide) (by decide) (by decide) (by decide), e33, fc 34 (by decide) (by decide) (by decide) (by decide), fc 29 (by decide) (by decide) (by decide) (by decide)]
    refine ⟨b1, b2, b3, ?_, b5, b6⟩
    by_cases e : i = t
    · subst e
      rw [upd_s, upd_s]
    · rw [upd_n _ e, upd_n _ e, b4]
  · rw [fm 66 (by decide) (by decide) (by decide) (by decide) (by decide), c35]
    exact hq k hk
  · rw [fm 67 (by decide) (by decide) (by decide) (by decide) (by decide), fm 68 (by decide) (by decide) (by decide) (by decide) (by decide), fm 70 (by decide) (by decide) (by decide) (by decide) (by decide), fc 20 (by decide) (by decide) (by decide) (by decide), fc 21 (by decide) (by decide) (by decide) (by decide), fc 22 (by decide) (by decide) (by decide) (by decide)]
    exact hac b hb
  · rw [fm 69 (by decide) (by decide) (by decide) (by decide) (by decide), fc 22 (by decide) (by decide) (by decide) (by decide), fc (24 + b) (by omega) (by omega) (by omega) (by omega)]
    exact hen b hb
  · have g37 : cend m t nR (nI s) 37 = upd (m 37) nR (nI t) := by unfold cend; simp (disch := first | omega | decide) only [zcn, zkpl, zki, zki1, zk8, zk16, zo32, zlt0, zle0, zeq0, zgt0, zLe0, nI_ltI, nI_leI, nI_eq, nI_add, nI_clamp, vp_in_nI, zup_s, zup_n, upd_s, upd_n, ne_eq, not_true_eq_false, not_false_eq_true]
    have g38 : cend m t nR (nI s) 38 = upd (m 38) nR (nI s) := by unfold cend; simp (disch := first | omega | decide) only [zcn, zkpl, zki, zki1, zk8, zk16, zo32, zlt0, zle0, zeq0, zgt0, zLe0, nI_ltI, nI_leI, nI_eq, nI_add, nI_clamp, vp_in_nI, zup_s, zup_n, upd_s, upd_n, ne_eq, not_true_eq_false, not_false_eq_true]
    have g71 : ztl u t nR (nI s) 71 = upd (u 71) nR (nI t) := by unfold ztl; simp (disch := first | omega | decide) only [zcn, zkpl, zki, zki1, zk8, zk16, zo32, zlt0, zle0, zeq0, zgt0, zLe0, nI_ltI, nI_leI, nI_eq, nI_add, nI_clamp, vp_in_nI, zup_s, zup_n, upd_s, upd_n, ne_eq, not_true_eq_false, not_false_eq_true]
    have g72 : ztl u t nR (nI s) 72 = upd (u 72) nR (nI s) := by unfold ztl; simp (disch := first | omega | decide) only [zcn, zkpl, zki, zki1, zk8, zk16, zo32, zlt0, zle0, zeq0, zgt0, zLe0, nI_ltI, nI_leI, nI_eq, nI_add, nI_clamp, vp_in_nI, zup_s, zup_n, upd_s, upd_n, ne_eq, not_true_eq_false, not_false_eq_true]
    have g73 : ztl u t nR (nI s) 73 = upd (u 73) nR 0 := by unfold ztl; simp (disch := first | omega | decide) only [zcn, zkpl, zki, zki1, zk8, zk16, zo32, zlt0, zle0, zeq0, zgt0, zLe0, nI_ltI, nI_leI, nI_eq, nI_add, nI_clamp, vp_in_nI, zup_s, zup_n, upd_s, upd_n, ne_eq, not_true_eq_false, not_false_eq_true]
    rw [g37, g38, g71, g72, g73, fc 39 (by decide) (by decide) (by decide) (by decide)]
    by_cases e : r = nR
    · subst e
      rw [upd_s, upd_s, upd_s, upd_s, upd_s]
      exact ⟨rfl, rfl, hz.symm, Or.inl hz⟩
    · rw [upd_n _ e, upd_n _ e, upd_n _ e, upd_n _ e, upd_n _ e]
      exact hrp r (by omega)
  · rw [fm 59 (by decide) (by decide) (by decide) (by decide) (by decide), fc 41 (by decide) (by decide) (by decide) (by decide)]
    exact hmn i hi
  · by_cases e : i = t
    · subst e
      exact tx_status (s := s) (hx i hi) (by rw [e33, upd_s]) (by omega) (by omega) (fc 31 (by decide) (by decide) (by decide) (by decide)) (fc 32 (by decide) (by decide) (by decide) (by decide)) (fc 30 (by decide) (by decide) (by decide) (by decide))
    · exact tx_same (hx i hi) (by rw [e33, upd_n _ e]) (fc 31 (by decide) (by decide) (by decide) (by decide)) (fc 32 (by decide) (by decide) (by decide) (by decide)) (fc 30 (by decide) (by decide) (by decide) (by decide))
  · obtain ⟨a1, a2, a3, a4⟩ := hqW
    refine ⟨by rw [c28]; exact a1, fun k hk => ?_, fun k j hk hj e => ?_, ?_⟩
    · obtain ⟨t', b1, b2, b3⟩ := a2 k hk
      have hne : t' ≠ t := fun e => hs01 (by rw [← hs0, ← e]; exact b3)
      exact ⟨t', b1, by rw [c35]; exact b2, by rw [e33, upd_n _ hne]; exact b3⟩
    · rw [c35] at e
      exact a3 k j hk hj e
    · rw [e33]
      have := hcnt (nI 1)
      rw [if_neg hs01, if_neg hs1] at this
      omega
  · rw [e33]
    have h4 := hcnt (nI 4)
    have h5 := hcnt (nI 5)
    have h6 := hcnt (nI 6)
    rcases hss with ⟨rfl, rfl | rfl⟩ | ⟨rfl, rfl⟩ <;> simp (disch := decide) only [nI_eq, Nat.reduceEqDiff, if_true, if_false] at h4 h5 h6 <;> omega
/-- those of debtor d wake -/
theorem LR_wake {u m : zM} {nT nQ nR nM : Nat} (d : Int32) (h : LR u m nT nQ nR nM) : ∃ q', LR (zwk u 64 62 66 42 47 d 0 nT) (zwk m 33 31 35 28 8 d 0 nT) nT q' nR nM := by
  obtain ⟨⟨⟨t1, t2, t3⟩, ⟨q1, q2, q3⟩, ⟨r1, r2, r3⟩, ⟨k1, k2, k3⟩, hrow, hq, hac, hen, hrp, hmn⟩, hx, hqW, hcR⟩ := h
  obtain ⟨q', g1, g2, g3, g4, g5, g6⟩ := wake_both t3 d nT 0 u m nQ (by omega) hqW q2 (fun t ht => ⟨(hrow t ht).2.2.2.1, (hrow t ht).2.1⟩) hq
  have fc : ∀ b, b ≠ 33 → b ≠ 35 → b ≠ 28 → zwk m 33 31 35 28 8 d 0 nT b = m b := fun b h1 h2 h3 => zwk_far h1 h2 h3 nT 0 m
  have fm : ∀ b, b ≠ 64 → b ≠ 66 → b ≠ 42 → zwk u 64 62 66 42 47 d 0 nT b = u b := fun b h1 h2 h3 => zwk_far h1 h2 h3 nT 0 u
  have f28 : ∀ f, f ≠ 8 → zwk m 33 31 35 28 8 d 0 nT 28 f = m 28 f := fun f h3 => zwk_fld (by decide) (by decide) h3 nT 0 m
  have f42 : ∀ f, f ≠ 47 → zwk u 64 62 66 42 47 d 0 nT 42 f = u 42 f := fun f h3 => zwk_fld (by decide) (by decide) h3 nT 0 u
  refine ⟨q', ⟨by rw [f28 6 (by decide), f42 45 (by decide)]; exact ⟨t1, t2, t3⟩, ⟨g1.1, g2, qW_le g1⟩, by rw [fc 36 (by decide) (by decide) (by decide), f42 55 (by decide)]; exact ⟨r1, r2, r3⟩, by rw [fc 18 (by decide) (by decide) (by decide), f42 38 (by decide)]; exact ⟨k1, k2, k3⟩, fun i hi => ?_, g4, fun b hb => ?_, fun b hb => ?_, fun r hr => ?_, fun i hi => ?_⟩, fun i hi => ?_, g1, ?_⟩
  · obtain ⟨b1, b2, b3, b4, b5, b6⟩ := hrow i hi
    rw [fm 61 (by decide) (by decide) (by decide), fm 62 (by decide) (by decide) (by decide), fm 63 (by decide) (by decide) (by decide), fm 65 (by decide) (by decide) (by decide), fm 60 (by decide) (by decide) (by decide), fc 30 (by decide) (by decide) (by decide), fc 31 (by decide) (by decide) (by decide), fc 32 (by decide) (by decide) (by decide), fc 34 (by decide) (by decide) (by decide), fc 29 (by decide) (by decide) (by decide)]
    exact ⟨b1, b2, b3, g3 i hi, b5, b6⟩
  · rw [fm 67 (by decide) (by decide) (by decide), fm 68 (by decide) (by decide) (by decide), fm 70 (by decide) (by decide) (by decide), fc 20 (by decide) (by decide) (by decide), fc 21 (by decide) (by decide) (by decide), fc 22 (by decide) (by decide) (by decide)]
    exact hac b hb
  · rw [fm 69 (by decide) (by decide) (by decide), fc 22 (by decide) (by decide) (by decide), fc (24 + b) (by omega) (by omega) (by omega)]
    exact hen b hb
  · rw [fm 71 (by decide) (by decide) (by decide), fm 72 (by decide) (by decide) (by decide), fm 73 (by decide) (by decide) (by decide), fc 37 (by decide) (by decide) (by decide), fc 38 (by decide) (by decide) (by decide), fc 39 (by decide) (by decide) (by decide)]
    exact hrp r hr
  · rw [fm 59 (by decide) (by decide) (by decide), fc 41 (by decide) (by decide) (by decide)]
    exact hmn i hi
  · rcases g6 i hi with g | ⟨-, g⟩
    · exact tx_same (hx i hi) g (fc 31 (by decide) (by decide) (by decide)) (fc 32 (by decide) (by decide) (by decide)) (fc 30 (by decide) (by decide) (by decide))
    · exact tx_status (s := 1) (hx i hi) g (by decide) (by decide) (fc 31 (by decide) (by decide) (by decide)) (fc 32 (by decide) (by decide) (by decide)) (fc 30 (by decide) (by decide) (by decide))
  · rw [g5 (nI 4) (by decide) (by decide), g5 (nI 5) (by decide) (by decide), g5 (nI 6) (by decide) (by decide)]
    exact hcR
