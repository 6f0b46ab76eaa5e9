/-! a record is written on both sides -/
/-- the class wrote a record whole -/
def cOk (m m' : zM) (n d : Nat) (D : Nat → Nat) : Prop := (∀ a, a ≠ 14 → a ≠ 15 → a ≠ 16 → m' a = m a) ∧ m' 14 1 = nI (n + (d + 1)) ∧ m' 14 2 = nI (n + (d + 1)) ∧ m' 14 8 = m 14 8 ∧ m' 14 7 = m 14 7 ∧ m' 14 5 = m 14 5 ∧ (∀ j, j < n → m' 15 j = m 15 j) ∧ ∀ j, j < d + 1 → m' 15 (n + j) &&& 255 = nI (zrec D d j)
/-- the power failed at the record: k bytes came -/
def cFl (m m' : zM) (n d k : Nat) (D : Nat → Nat) : Prop := (∀ a, a ≠ 14 → a ≠ 15 → a ≠ 16 → m' a = m a) ∧ m' 14 1 = nI (n + k) ∧ m' 14 2 = m 14 2 ∧ m' 14 8 = nI 1 ∧ m' 14 5 = 0 ∧ (∀ j, j < n → m' 15 j = m 15 j) ∧ ∀ j, j < k → m' 15 (n + j) &&& 255 = nI (zrec D d j)
theorem zW2_far {m : zM} {d c a : Nat} (h1 : a ≠ 14) (h2 : a ≠ 16) : zW2 m d c a = m a := by
  unfold zW2
  rw [zup_n _ h1, zup_n _ h2, zup_n _ h2]
theorem zW2_14 {m : zM} {d c f : Nat} (h : f ≠ 4) : zW2 m d c 14 f = m 14 f := by
  unfold zW2
  simp (disch := first | omega | decide) only [zcn, zkpl, zki, zki1, zk8, zk16, zo32, zlt0, zle0, zeq0, zgt0, zLe0, nI_ltI, nI_leI, nI_eq, nI_add, nI_clamp, vp_in_nI, zup_s, zup_n, upd_s, upd_n, ne_eq, not_true_eq_false, not_false_eq_true]
theorem cw_A {m : zM} {n d : Nat} {D : Nat → Nat} (h : zPre m n d D) (hf : m 14 5 = 0) : ∃ m', Ev 61 [.ref 14] m (some (.int 1)) m' ∧ cOk m m' n d D ∧ m' 14 6 = m 14 6 := by
  have h14 : zW2 m d (zchk D d) 14 1 = nI n := by rw [zW2_14 (by decide)]; exact h.2.2.2.2.1
  refine ⟨_, ev_write_ok h hf, ⟨fun a g1 g2 g3 => ?_, ?_, ?_, ?_, ?_, ?_, fun j hj => ?_, fun j hj => ?_⟩, ?_⟩
  · unfold zWk
    rw [zup_n _ g1, zapp_far g1 g2, zW2_far g1 g3]
  · unfold zWk
    rw [zup_s, upd_n _ (by decide), zapp_len _ _ _ _ h14]
  · unfold zWk
    rw [zup_s, upd_s]
  · unfold zWk
    rw [zup_s, upd_n _ (by decide), zapp_fld (by decide), zW2_14 (by decide)]
  · unfold zWk
    rw [zup_s, upd_n _ (by decide), zapp_fld (by decide), zW2_14 (by decide)]
  · unfold zWk
    rw [zup_s, upd_n _ (by decide), zapp_fld (by decide), zW2_14 (by decide)]
  · unfold zWk
    rw [zup_n _ (by decide), zapp_old _ _ _ _ _ hj, zW2_far (by decide) (by decide)]
  · unfold zWk
    obtain ⟨e1, e2⟩ := zW2_rec h hj
    rw [zup_n _ (by decide), zapp_new _ _ _ _ _ hj, Nat.zero_add, e1]
    exact zbyte e2
  · unfold zWk
    rw [zup_s, upd_n _ (by decide), zapp_fld (by decide), zW2_14 (by decide)]
theorem cw_B {m : zM} {n d l : Nat} {D : Nat → Nat} (h : zPre m n d D) (hf : m 14 5 = 1) (hl : m 14 6 = nI (l + 1)) (hl2 : l ≤ 50) : ∃ m', Ev 61 [.ref 14] m (some (.int 1)) m' ∧ cOk m m' n d D ∧ m' 14 6 = nI l := by
  have h14 : zup (zW2 m d (zchk D d)) 14 6 (nI l) 14 1 = nI n := by rw [zup_s, upd_n _ (by decide), zW2_14 (by decide)]; exact h.2.2.2.2.1
  refine ⟨_, ev_write_okl h hf hl hl2, ⟨fun a g1 g2 g3 => ?_, ?_, ?_, ?_, ?_, ?_, fun j hj => ?_, fun j hj => ?_⟩, ?_⟩
  · rw [zup_n _ g1, zapp_far g1 g2, zup_n _ g1, zW2_far g1 g3]
  · rw [zup_s, upd_n _ (by decide), zapp_len _ _ _ _ h14]
  · rw [zup_s, upd_s]
  · rw [zup_s, upd_n _ (by decide), zapp_fld (by decide), zup_s, upd_n _ (by decide), zW2_14 (by decide)]
  · rw [zup_s, upd_n _ (by decide), zapp_fld (by decide), zup_s, upd_n _ (by decide), zW2_14 (by decide)]
  · rw [zup_s, upd_n _ (by decide), zapp_fld (by decide), zup_s, upd_n _ (by decide), zW2_14 (by decide)]
  · rw [zup_n _ (by decide), zapp_old _ _ _ _ _ hj, zup_n _ (by decide), zW2_far (by decide) (by decide)]
  · obtain ⟨e1, e2⟩ := zW2_rec h hj
    rw [zup_n _ (by decide), zapp_new _ _ _ _ _ hj, Nat.zero_add, zup_n _ (by decide), e1]
    exact zbyte e2
  · rw [zup_s, upd_n _ (by decide), zapp_fld (by decide), zup_s, upd_s]
theorem cw_C {m : zM} {n d c : Nat} {D : Nat → Nat} (h : zPre m n d D) (hf : m 14 5 = 1) (hl : m 14 6 = nI 0) (hc : m 14 7 = nI c) (hc2 : c ≤ 300) : ∃ m', Ev 61 [.ref 14] m (some (.int 0)) m' ∧ cFl m m' n d (min c d) D := by
  have h14 : zW2 m d (zchk D d) 14 1 = nI n := by rw [zW2_14 (by decide)]; exact h.2.2.2.2.1
  refine ⟨_, ev_write_fail h hf hl hc hc2, ⟨fun a g1 g2 g3 => ?_, ?_, ?_, ?_, ?_, fun j hj => ?_, fun j hj => ?_⟩⟩
  · unfold zWf
    rw [zup_n _ g1, zup_n _ g1, zapp_far g1 g2, zW2_far g1 g3]
  · unfold zWf
    rw [zup_s, upd_n _ (by decide), zup_s, upd_n _ (by decide), zapp_len _ _ _ _ h14]
  · unfold zWf
    rw [zup_s, upd_n _ (by decide), zup_s, upd_n _ (by decide), zapp_fld (by decide), zW2_14 (by decide)]
  · unfold zWf
    rw [zup_s, upd_s]
    rfl
  · unfold zWf
    rw [zup_s, upd_n _ (by decide), zup_s, upd_s]
  · unfold zWf
    rw [zup_n _ (by decide), zup_n _ (by decide), zapp_old _ _ _ _ _ hj, zW2_far (by decide) (by decide)]
  · unfold zWf
    obtain ⟨e1, e2⟩ := zW2_rec h (show j < d + 1 by omega)
    rw [zup_n _ (by decide), zup_n _ (by decide), zapp_new _ _ _ _ _ hj, Nat.zero_add, e1]
    exact zbyte e2
/-- counts that keep every row within its length -/
def bW (m : zM) (nT nR nM : Nat) : Prop := nM ≤ nT + nR ∧ ∀ a, a < 4 → ∃ e, m 22 a = nI e ∧ e ≤ nR
def jB (m : zM) (nT nR W : Nat) : Prop := W ≤ 5006 + 4 * cnt (m 33) (nI 5) nT + 4 * cnt (m 39) 1 nR
/-- the journal with a record behind it -/
def jx (J : Nat → Nat) (n : Nat) (R : Nat → Nat) : Nat → Nat := fun j => if j < n then J j else R (j - n)
theorem jx_lo {J R : Nat → Nat} {n j : Nat} (h : j < n) : jx J n R j = J j := if_pos h
theorem jx_hi {J R : Nat → Nat} {n j : Nat} : jx J n R (n + j) = R j := by
  unfold jx
  rw [if_neg (by omega), Nat.add_sub_cancel_left]
theorem lR_congr {u u' m m' : zM} {nT nQ nR nM : Nat} (h : lR u m nT nQ nR nM) (hm : ∀ a, 18 ≤ a → a ≤ 41 → a ≠ 40 → m' a = m a) (hu : ∀ a, 59 ≤ a → a ≤ 73 → u' a = u a) (hf : ∀ f, f = 38 ∨ f = 45 ∨ f = 47 ∨ f = 55 → u' 42 f = u 42 f) : lR u' m' nT nQ nR nM := by
  unfold lR
  rw [hf 45 (by omega), hf 47 (by omega), hf 55 (by omega), hf 38 (by omega), hm 28 (by omega) (by omega) (by omega), hm 36 (by omega) (by omega) (by omega), hm 18 (by omega) (by omega) (by omega), hu 61 (by omega) (by omega), hu 62 (by omega) (by omega), hu 63 (by omega) (by omega), hu 64 (by omega) (by omega), hu 65 (by omega) (by omega), hu 60 (by omega) (by omega), hm 30 (by omega) (by omega) (by omega), hm 31 (by omega) (by omega) (by omega), hm 32 (by omega) (by omega) (by omega), hm 33 (by omega) (by omega) (by omega), hm 34 (by omega) (by omega) (by omega), hm 29 (by omega) (by omega) (by omega), hu 66 (by omega) (by omega), hm 35 (by omega) (by omega) (by omega), hu 67 (by omega) (by omega), hu 68 (by omega) (by omega), hu 70 (by omega) (by omega), hm 20 (by omega) (by omega) (by omega), hm 21 (by omega) (by omega) (by omega), hm 22 (by omega) (by omega) (by omega), hu 69 (by omega) (by omega), hu 71 (by omega) (by omega), hu 72 (by omega) (by omega), hu 73 (by omega) (by omega), hm 37 (by omega) (by omega) (by omega), hm 38 (by omega) (by omega) (by omega), hm 39 (by omega) (by omega) (by omega), hu 59 (by omega) (by omega), hm 41 (by omega) (by omega) (by omega)]
  obtain ⟨g1, g2, g3, g4, g5, g6, g7, g8, g9, g10⟩ := h
  refine ⟨g1, g2, g3, g4, g5, g6, g7, fun a ha => ?_, g9, g10⟩
  rw [hm (24 + a) (by omega) (by omega) (by omega)]
  exact g8 a ha
theorem cW_congr {m m' : zM} {nT nQ nR : Nat} (h : cW m nT nQ nR) (hm : ∀ a, 18 ≤ a → a ≤ 41 → m' a = m a) : cW m' nT nQ nR := by
  obtain ⟨h1, h2, h3⟩ := h
  refine ⟨fun t ht => tx_same (h1 t ht) (by rw [hm 33 (by omega) (by omega)]) (hm 31 (by omega) (by omega)) (hm 32 (by omega) (by omega)) (hm 30 (by omega) (by omega)), qW_congr h2 (hm 33 (by omega) (by omega)) (hm 35 (by omega) (by omega)) (by rw [hm 28 (by omega) (by omega)]), by rw [hm 33 (by omega) (by omega)]; exact h3⟩
