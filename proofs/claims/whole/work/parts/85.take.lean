/-! an accepted message, on both sides -/
def TK (m : zM) (nT nQ nR nM W : Nat) (xs : List Nat) : Prop := ∃ m' nT' nQ' nR', Ev 22 [.ref 18, .ref 11] m none m' ∧ (∀ a, a < 18 ∨ a = 19 ∨ a = 40 ∨ 41 < a → m' a = m a) ∧ gW m' nT' nQ' nR' (nM + 1) (W + (3 + xs.length)) ∧ (nR ≤ nR' ∧ nR' ≤ nR + 1 ∧ nR' ≤ 40) ∧ ∀ (u : zM) (nb p : Nat), lR u m nT nQ nR nM → u 42 36 = nI nb → nb ≤ 6000 → tx u p xs → p + xs.length < nb → ∃ u', Ev 200 [.ref 42, .int (nI p)] u none u' ∧ mF u u' ∧ lR u' m' nT' nQ' nR' (nM + 1)
theorem mtx_len {K n : Nat} {nm : Nat → List Nat} {vl pl dg : Nat → Nat} (ho : okM K n nm vl pl dg) : (mtx K n nm vl pl dg).length ≤ 207 := by
  have h1 := htx_len ho
  have h2 := ptx_len (vl := vl) (pl := pl) (dg := dg) (fun t ht => (ho.2.2.2.2.2.2 t ht).1) n 0 (by omega)
  have hn : n ≤ 3 := by have := ho.1; omega
  unfold mtx
  simp only [List.length_append, List.length_cons, List.length_nil]
  omega
theorem jB_of {m : zM} {nT nR W : Nat} (h : W ≤ 5006) : jB m nT nR W := by
  unfold jB
  omega
theorem cn_eq {u m : zM} {nT nQ nR nM t : Nat} {s v : Int32} (h : lR u m nT nQ nR nM) : cnt (upd (u 64) t s) v nT = cnt (upd (m 33) t s) v nT := by
  rw [cnt_ext (g := upd (m 33) t s) nT (fun j hj => ?_)]
  by_cases ej : j = t
  · subst ej
    rw [upd_s, upd_s]
  · rw [upd_n _ ej, upd_n _ ej, (h.2.2.2.2.1 j hj).2.2.2.1]
theorem LR_rcv {n : Nat} {nm : Nat → List Nat} {vl pl dg : Nat → Nat} {nR nM : Nat} (ho : okT2 n nm vl pl dg) (hcd : ∀ t, t < n → pl (6 + 5 * t) ≠ pl (7 + 5 * t)) : ∀ (r k : Nat) (u m : zM) (T q : Nat), k + r = n → LR u m T q nR nM → T + r ≤ 20 → ∃ u', LR u' (rcv nm vl pl r k m T q) (T + r) (q + r) nR nM := by
  intro r
  induction r with
  | zero => intro k u m T q _ h _; exact ⟨u, h⟩
  | succ r ih =>
    intro k u m T q hk hL hT
    obtain ⟨o1, o2, o3, o4⟩ := ho k (by omega)
    have hL2 := LR_recv (nm := nI (n8 (nm (5 + 5 * k)))) (nm' := nI (n37 (nm (5 + 5 * k)))) hL (by omega) ⟨_, o1, rfl, rfl⟩ ⟨o4.1, by omega⟩ (show pl (6 + 5 * k) < 4 by omega) (show pl (7 + 5 * k) < 4 by omega) (fun g => hcd k (by omega) g.symm)
    obtain ⟨u', h⟩ := ih (k + 1) _ _ (T + 1) (q + 1) (by omega) hL2 (by omega)
    rw [rcv, show T + (r + 1) = T + 1 + r by omega, show q + (r + 1) = q + 1 + r by omega]
    exact ⟨u', h⟩
theorem rcv_far {nm : Nat → List Nat} {vl pl : Nat → Nat} {a : Nat} (h : a < 28 ∨ 35 < a) : ∀ (r k : Nat) (m : zM) (T q : Nat), rcv nm vl pl r k m T q a = m a := by
  intro r
  induction r with
  | zero => intro k m T q; rfl
  | succ r ih => intro k m T q; rw [rcv, ih, crc_far h]
theorem rcv_29 {nm : Nat → List Nat} {vl pl : Nat → Nat} : ∀ (r k : Nat) (m : zM) (T q j : Nat), (j < T → rcv nm vl pl r k m T q 29 j = m 29 j) ∧ (T ≤ j → j < T + r → rcv nm vl pl r k m T q 29 j = nI (n8 (nm (5 + 5 * (k + (j - T)))))) := by
  intro r
  induction r with
  | zero => intro k m T q j; exact ⟨fun _ => rfl, fun h1 h2 => by omega⟩
  | succ r ih =>
    intro k m T q j
    rw [rcv]
    have c29 : crc m T q (nI (n8 (nm (5 + 5 * k)))) (nI (vl (8 + 5 * k))) (nI (pl (6 + 5 * k))) (nI (pl (7 + 5 * k))) 29 = upd (m 29) T (nI (n8 (nm (5 + 5 * k)))) := rfl
    obtain ⟨i1, i2⟩ := ih (k + 1) (crc m T q (nI (n8 (nm (5 + 5 * k)))) (nI (vl (8 + 5 * k))) (nI (pl (6 + 5 * k))) (nI (pl (7 + 5 * k)))) (T + 1) (q + 1) j
    refine ⟨fun h => ?_, fun h1 h2 => ?_⟩
    · rw [i1 (by omega), c29, upd_n _ (by omega)]
    · by_cases e : j = T
      · rw [i1 (by omega), c29, e, upd_s, Nat.sub_self, Nat.add_zero]
      · rw [i2 (by omega) (by omega), show k + 1 + (j - (T + 1)) = k + (j - T) by omega]
theorem n8_e {a b : List Nat} (ha : nmOk a) (hb : nmOk b) (h : nI (n8 a) = nI (n8 b)) : n8 a = n8 b := by
  rw [n_eq ha hb] at h
  have l1 := n37_lt ha
  have l2 := n37_lt hb
  rw [nI_eq (by omega) (by omega)] at h
  rw [n37_inj ha hb h]
/-- a payment -/
theorem tk_P {m u0 : zM} {n nT nQ nR nM W : Nat} {nm : Nat → List Nat} {vl pl dg : Nat → Nat} (ho : okM 80 n nm vl pl dg) (hM : cM m 80 n nm vl pl dg) (hg : gW m nT nQ nR nM W) (hl0 : lR u0 m nT nQ nR nM) (hW : W < 4000) (hv2 : vl 2 = n) (hcd : ∀ t, t < n → pl (6 + 5 * t) ≠ pl (7 + 5 * t)) (hf1 : ∀ t o, t < n → o < t → n8 (nm (5 + 5 * t)) ≠ n8 (nm (5 + 5 * o))) (hf2 : ∀ t j, t < n → j < nT → m 29 j ≠ nI (n8 (nm (5 + 5 * t)))) (hT : nT + n ≤ 20) : TK m nT nQ nR nM W (mtx 80 n nm vl pl dg) := by
  obtain ⟨⟨t1, t2, t3⟩, ⟨q1, q2, q3⟩, ⟨r1, r2, r3⟩, ⟨k1, k2, k3⟩, -⟩ := id hl0
  have hn1 : 1 ≤ n ∧ n ≤ 3 := by have := ho.1; omega
  have hb := hg.2.1.1
  have hlen := mtx_len ho
  have hM60 : nM < 60 := by omega
  have o7 : okT2 n nm vl pl dg := ho.2.2.2.2.2.2
  have f28 : cnm m nM (nI (n8 (nm 1))) 28 = m 28 := cnm_far (by decide) (by decide)
  have hE := ev_26 ho (cM_nm (nM := nM) (x := nI (n8 (nm 1))) hM) (T := nT) (q := nQ) (by rw [f28]; exact t1) (by rw [f28]; exact q1) hT q3
  have hfar : ∀ a, (a < 28 ∨ 35 < a) → a ≠ 41 → a ≠ 18 → rcv nm vl pl n 0 (cnm m nM (nI (n8 (nm 1)))) nT nQ a = m a := fun a h1 h2 h3 => by
    rw [rcv_far h1, cnm_far h2 h3]
  obtain ⟨u1, hL1⟩ := LR_rcv o7 hcd n 0 _ _ nT nQ (by omega) (LR_nm ⟨hl0, hg.1⟩ hM60 (x := nI (n8 (nm 1))) (y := nI (n37 (nm 1))) ⟨_, ho.2.1, rfl, rfl⟩) hT
  refine ⟨_, nT + n, nQ + n, nR, ev_22 hM k1 hM60 (Or.inl ⟨rfl, hE⟩), fun a ha => hfar a (by omega) (by omega) (by omega), ⟨hL1.2, ⟨by omega, fun a ha => ?_⟩, jB_of (by omega), fun r g1 g2 => ?_, fun i j hi hj e => ?_⟩, ⟨Nat.le_refl _, by omega, r3⟩, fun u nb p hl h36 hnb ht hlt => ?_⟩
  · rw [hfar 22 (by omega) (by omega) (by omega)]
    exact hg.2.1.2 a ha
  · rw [hfar 39 (by omega) (by omega) (by omega)]
    exact hg.2.2.2.1 r g1 g2
  · obtain ⟨a1, a2⟩ := rcv_29 (nm := nm) (vl := vl) (pl := pl) n 0 (cnm m nM (nI (n8 (nm 1)))) nT nQ i
    obtain ⟨b1, b2⟩ := rcv_29 (nm := nm) (vl := vl) (pl := pl) n 0 (cnm m nM (nI (n8 (nm 1)))) nT nQ j
    have c29 : cnm m nM (nI (n8 (nm 1))) 29 = m 29 := cnm_far (by decide) (by decide)
    by_cases gi : i < nT
    · by_cases gj : j < nT
      · rw [a1 gi, b1 gj, c29] at e
        exact hg.2.2.2.2 i j gi gj e
      · rw [a1 gi, b2 (by omega) hj, c29] at e
        exact absurd e (hf2 _ _ (by omega) gi)
    · by_cases gj : j < nT
      · rw [a2 (by omega) hi, b1 gj, c29] at e
        exact absurd e.symm (hf2 _ _ (by omega) gj)
      · rw [a2 (by omega) hi, b2 (by omega) hj] at e
        have e' := n8_e (o7 _ (by omega)).1 (o7 _ (by omega)).1 e
        rcases Nat.lt_trichotomy i j with g | g | g
        · exact absurd e'.symm (hf1 _ _ (by omega) (by omega))
        · exact g
        · exact absurd e' (hf1 _ _ (by omega) (by omega))
  · obtain ⟨u', w1, w2, w3⟩ := es_200P ho hv2 hcd ⟨hl, hg.1⟩ hnb h36 ht hlt hT hM60
    exact ⟨u', w1, w2, w3.1⟩
