/-! an accepted answer or return, on both sides -/
theorem cst_far {m : zM} {n t d c r ed ec a : Nat} (hd : d < 4) (hc : c < 4) (h : a < 20 ∨ (28 < a ∧ a < 33) ∨ a = 34 ∨ 38 < a) : cst m n t d c r ed ec a = m a := by
  unfold cst
  rw [zwk_far (by omega) (by omega) (by omega), cend_39 (by omega) (by omega) (by omega) (by omega), cbk_far hc (by omega) (by omega) (by omega), cbk_far hd (by omega) (by omega) (by omega), zup_n _ (by omega)]
theorem cgb_far {m : zM} {n t d c r ed ec a : Nat} {x : Int32} (hd : d < 4) (hc : c < 4) (h : a < 20 ∨ (28 < a ∧ a < 33) ∨ a = 34 ∨ 38 < a) : cgb m n t d c r ed ec x a = m a := by
  unfold cgb
  rw [zwk_far (by omega) (by omega) (by omega), cend_39 (by omega) (by omega) (by omega) (by omega), cbk_far hd (by omega) (by omega) (by omega), cbk_far hc (by omega) (by omega) (by omega)]
theorem cbk_22s {m : zM} {a e b : Nat} {x : Int32} (ha : a < 4) {R : Nat} (h : ∀ b, b < 4 → ∃ y, m 22 b = nI y ∧ y ≤ R) (he : e + 1 ≤ R) (hb : b < 4) : ∃ y, cbk m a e x 22 b = nI y ∧ y ≤ R := by
  by_cases g : b = a
  · refine ⟨e + 1, ?_, he⟩
    unfold cbk
    rw [zup_n _ (by decide), zup_s, g, upd_s]
  · rw [cbk_22 ha g]
    exact h b hb
theorem cst_22 {m : zM} {n t d c r ed ec : Nat} (hd : d < 4) (hc : c < 4) {R : Nat} (h : ∀ b, b < 4 → ∃ y, m 22 b = nI y ∧ y ≤ R) (h1 : ed + 1 ≤ R) (h2 : ec + 1 ≤ R) : ∀ b, b < 4 → ∃ y, cst m n t d c r ed ec 22 b = nI y ∧ y ≤ R := by
  intro b hb
  unfold cst
  rw [zwk_far (by omega) (by omega) (by omega), cend_39 (by omega) (by omega) (by omega) (by omega)]
  exact cbk_22s hc (fun b hb => cbk_22s hd (fun b hb => by rw [zup_n _ (by decide)]; exact h b hb) h1 hb) h2 hb
theorem cgb_22 {m : zM} {n t d c r ed ec : Nat} {x : Int32} (hd : d < 4) (hc : c < 4) {R : Nat} (h : ∀ b, b < 4 → ∃ y, m 22 b = nI y ∧ y ≤ R) (h1 : ed + 1 ≤ R) (h2 : ec + 1 ≤ R) : ∀ b, b < 4 → ∃ y, cgb m n t d c r ed ec x 22 b = nI y ∧ y ≤ R := by
  intro b hb
  unfold cgb
  rw [zwk_far (by omega) (by omega) (by omega), cend_39 (by omega) (by omega) (by omega) (by omega)]
  exact cbk_22s hd (fun b hb => cbk_22s hc h h2 hb) h1 hb
/-- what both kinds share: m' behind the name's entry, wherever it comes from -/
theorem tk_F {m u0 m' : zM} {K nT nQ nR nM W t : Nat} {nm : Nat → List Nat} {xs : List Nat} (hlen : xs.length ≤ 207) (ho1 : nmOk (nm 1)) (hg : gW m nT nQ nR nM W) (hl0 : lR u0 m nT nQ nR nM) (hW : W < 4000) (hr40 : nR < 40) (hE : Ev 22 [.ref 18, .ref 11] m none m') (hfar : ∀ a, a < 20 ∨ (28 < a ∧ a < 33) ∨ a = 34 ∨ 38 < a → m' a = cnm m nM (nI (n8 (nm 1))) a) (h22 : ∀ b, b < 4 → ∃ y, m' 22 b = nI y ∧ y ≤ nR + 1)
    (hL : ∀ u1 : zM, LR u1 (cnm m nM (nI (n8 (nm 1)))) nT nQ nR (nM + 1) → ∃ u' q', LR u' m' nT q' (nR + 1) (nM + 1))
    (hrun : ∀ (u : zM) (nb p : Nat), lR u m nT nQ nR nM → LR (zup (zup u 59 nM (nI (n37 (nm 1)))) 42 38 (nI (nM + 1))) (cnm m nM (nI (n8 (nm 1)))) nT nQ nR (nM + 1) → u 42 36 = nI nb → nb ≤ 6000 → tx u p xs → p + xs.length < nb → ∃ u' q', Ev 200 [.ref 42, .int (nI p)] u none u' ∧ mF u u' ∧ LR u' m' nT q' (nR + 1) (nM + 1)) : TK m nT nQ nR nM W xs := by
  have hb := hg.2.1.1
  have hT20 := hl0.1.2.2
  have hM60 : nM < 60 := by omega
  have hN : ∀ u, lR u m nT nQ nR nM → LR (zup (zup u 59 nM (nI (n37 (nm 1)))) 42 38 (nI (nM + 1))) (cnm m nM (nI (n8 (nm 1)))) nT nQ nR (nM + 1) := fun u hu => LR_nm ⟨hu, hg.1⟩ hM60 (x := nI (n8 (nm 1))) (y := nI (n37 (nm 1))) ⟨_, ho1, rfl, rfl⟩
  have hq : ∀ {u' q'}, LR u' m' nT q' (nR + 1) (nM + 1) → q' = cnt (m' 33) (nI 1) nT := fun h => h.2.2.1.2.2.2
  obtain ⟨u1, q1, h1⟩ := hL _ (hN u0 hl0)
  have e1 := hq h1
  subst e1
  have hcn : ∀ a, a ≠ 41 → a ≠ 18 → cnm m nM (nI (n8 (nm 1))) a = m a := fun a g1 g2 => cnm_far g1 g2
  refine ⟨m', nT, cnt (m' 33) (nI 1) nT, nR + 1, hE, fun a ha => ?_, ⟨h1.2, ⟨by omega, h22⟩, jB_of (by omega), fun r g1 g2 => ?_, ?_⟩, ⟨by omega, by omega, by omega⟩, fun u nb p hl h36 hnb ht hlt => ?_⟩
  · rw [hfar a (by omega), hcn a (by omega) (by omega)]
  · rw [hfar 39 (by omega), hcn 39 (by omega) (by omega)]
    exact hg.2.2.2.1 r (by omega) g2
  · unfold dN
    rw [hfar 29 (by omega), hcn 29 (by omega) (by omega)]
    exact hg.2.2.2.2
  · obtain ⟨u', q', w1, w2, w3⟩ := hrun u nb p hl (hN u hl) h36 hnb ht hlt
    have e2 := hq w3
    subst e2
    exact ⟨u', w1, w2, w3.1⟩
