/-! submit: an accepted message is written, on both sides -/
theorem gd_f {u : zM} {s : pS} (h : gd u s) {f : Nat} (x : Int32) (hf : f ≠ 14) : gd (zup u 42 f x) s := by
  refine ⟨h.1.cg (by rw [zup_s, upd_n _ (Ne.symm hf)]) (fun a ha => zup_n _ (by omega)), fun e h1 h2 h3 => ?_⟩
  unfold tr1
  rw [zup_n _ (by decide), zup_n _ (by decide)]
  exact h.2 e h1 h2 h3
theorem IX.cl {m m' : zM} {J : Nat → Nat} {n W d nT nQ nR nM : Nat} (h : IX m m J n W d nT nQ nR nM) (hm : ∀ a, 14 ≤ a → m' a = m a) : IX m' m' J n W d nT nQ nR nM := (h.cg (fun a g1 _ => hm a g1)).cg2 (fun a ha => hm a (by omega)) (fun f _ => by rw [hm 42 (by decide)])
theorem se_end {m m1 u : zM} {J : Nat → Nat} {n W d nT nQ nR nM : Nat} (h : IX m1 m1 J n W d nT nQ nR nM) (hu : nH m1 u) (h9 : m1 9 2 = nI 0) (h0 : m1 0 = m 0) (h42 : m1 42 2 = m 42 2) : SE m (zup u 42 7 (nI 0)) := by
  refine ⟨J, n, W, d, nT, nQ, nR, nM, fun _ => 0, 0, (h.cg (m' := zup u 42 7 (nI 0)) (fun a g1 g2 => ?_)).cg2 (fun a ha => ?_) (fun f hf => ?_), ⟨?_, ?_, by omega, fun j hj => absurd hj (Nat.not_lt_zero j)⟩, ?_, ?_⟩
  · rw [zup_n _ (by omega), hu.1 a (by omega)]
  · rw [zup_n _ (by omega), hu.1 a (by omega)]
  · rw [zup_s, upd_n _ (by omega), hu.2 f (by omega)]
  · rw [zup_n _ (by decide), hu.1 9 (by omega), h9]
  · rw [zup_s, upd_s]
  · rw [zup_n _ (by decide), hu.1 0 (by omega), h0]
  · rw [zup_s, upd_n _ (by decide), hu.2 2 (by omega), h42]
/-- what the model's memory has, from the class's end y back to m3 -/
theorem IX_y {m3 y u : zM} {J : Nat → Nat} {n W d nT nQ nR nM : Nat} (h : IX m3 m3 J n W d nT nQ nR nM) (hy : ∀ a, 42 ≤ a → y a = m3 a) (hu : nH y u) : IX m3 u J n W d nT nQ nR nM ∧ IX m3 (zup u 42 7 (nI 0)) J n W d nT nQ nR nM := by
  refine ⟨h.cg2 (fun a ha => ?_) (fun f hf => ?_), h.cg2 (fun a ha => ?_) (fun f hf => ?_)⟩
  · rw [hu.1 a (by omega), hy a (by omega)]
  · rw [hu.2 f (by omega), hy 42 (by omega)]
  · rw [zup_n _ (by omega), hu.1 a (by omega), hy a (by omega)]
  · rw [zup_s, upd_n _ (by omega), hu.2 f (by omega), hy 42 (by omega)]
theorem fin_SE {m y u x u' : zM} {J : Nat → Nat} {n W d nT nQ nR nM : Nat} {xs : List Nat} (hx : x = uA (zup (zup u 42 7 (nI 0)) 42 34 (nI 0)) 0 xs) (h : IX y u' J n W d nT nQ nR nM) (hfr : fr x u') (hu : nH y u) (h9 : y 9 2 = nI 0) (h0 : y 0 = m 0) (h42 : y 42 2 = m 42 2) : SE m u' := by
  have xa : ∀ a, a < 42 → x a = y a := fun a ha => by rw [hx, uA_far (by omega) (by omega), zup_n _ (by omega), zup_n _ (by omega), hu.1 a (by omega)]
  have ua : ∀ a, a < 42 → u' a = y a := fun a ha => by rw [hfr.1 a (by omega), xa a ha]
  refine ⟨J, n, W, d, nT, nQ, nR, nM, fun _ => 0, 0, h.cg (fun a g1 g2 => ua a g2), ⟨?_, ?_, by omega, fun j hj => absurd hj (Nat.not_lt_zero j)⟩, ?_, ?_⟩
  · rw [ua 9 (by decide), h9]
  · rw [hfr.2 7 (by decide) (by decide) (by decide) (by decide) (by decide) (by decide) (by decide), hx, uA_fld (by decide), zup_s, upd_n _ (by decide), zup_s, upd_s]
  · rw [ua 0 (by decide), h0]
  · rw [hfr.2 2 (by decide) (by decide) (by decide) (by decide) (by decide) (by decide) (by decide), hx, uA_fld (by decide), zup_s, upd_n _ (by decide), zup_s, upd_n _ (by decide), hu.2 2 (by omega), h42]
theorem sb_ok {m m3 m2 m' u : zM} {J : Nat → Nat} {n nT nQ nR nM nT' nQ' nR' : Nat} {xs : List Nat} (hb : ∀ c ∈ xs, c < 256) (h1 : 1 ≤ xs.length) (h2 : xs.length ≤ 207) (hn : n < 4000) (hI : IX m3 m3 J n n 0 nT nQ nR nM) (hC : okC m3 m2 m3 n (2 + xs.length) (Dm xs)) (k2 : ∀ a, a < 18 ∨ a = 19 ∨ a = 40 ∨ 41 < a → m' a = m2 a) (k3 : gW m' nT' nQ' nR' (nM + 1) (n + (3 + xs.length))) (k4 : nR ≤ nR' ∧ nR' ≤ nR + 1 ∧ nR' ≤ 40) (k5 : ∀ (u : zM) (nb p : Nat), lR u m2 nT nQ nR nM → u 42 36 = nI nb → nb ≤ 6000 → tx u p xs → p + xs.length < nb → ∃ u', Ev 200 [.ref 42, .int (nI p)] u none u' ∧ mF u u' ∧ lR u' m' nT' nQ' nR' (nM + 1)) (hu : nH m' u) (h9 : m3 9 2 = nI 0) (h0 : m3 0 = m 0) (h42 : m3 42 2 = m 42 2) : ∃ u', Ev 190 [.ref 42, .int (nI 77)] (uA (zup (zup u 42 7 (nI 0)) 42 34 (nI 0)) 0 xs) (some (.int 1)) u' ∧ SE m u' := by
  have hy : ∀ a, 42 ≤ a → m' a = m3 a := fun a ha => by rw [k2 a (by omega), hC.far a (by omega) (by omega) (by omega)]
  obtain ⟨_, hIu⟩ := IX_y hI hy hu
  have hp := mPre_m (u := zup u 42 7 (nI 0)) (n := n) hb h1 h2 hIu.j.2.1 hn
  have ed : n + (2 + xs.length + 1) = n + (3 + xs.length) := by omega
  have hRI : RI m' (zup u 42 7 (nI 0) 42 0) (jx J n (zrec (Dm xs) (2 + xs.length))) (n + (2 + xs.length + 1)) nT' nQ' nR' (nM + 1) := by
    refine RI_ext2 (RI_congr hIu.ri (m' := m2) (J' := jx J n (zrec (Dm xs) (2 + xs.length))) (fun a g1 g2 g3 => hC.far a (by omega) (by omega) (by omega)) (fun j hj => jx_lo hj)) ?_ (by omega) ?_ (fun u2 b hj h36 hWb hb6 hl2 => ?_)
    · rw [jx_hi, zrec_1 (by omega)]
      omega
    · rw [jx_hi, zrec_1 (by omega)]
      omega
    · have hz : ∀ i, i < xs.length → zrec (Dm xs) (2 + xs.length) (2 + i) = xs.getD i 0 := fun i hi => by
        unfold zrec
        rw [if_neg (by omega), if_neg (by omega)]
        unfold Dm
        rw [if_neg (by omega), if_neg (by omega), Nat.add_sub_cancel_left]
      have htx : tx u2 (n + 2) xs := fun i hi => by
        rw [hj (n + 2 + i) (by omega), Nat.add_assoc, jx_hi, hz i hi]
      obtain ⟨u3, w1, w2, w3⟩ := k5 u2 b (n + 2) hl2 h36 hb6 htx (by omega)
      refine ⟨u3, es_202M (c := xs.getD 0 0) (by omega) ?_ (htx 0 (by omega)) w1, w2, w3⟩
      have := hj (n + 0) (by omega)
      rw [jx_hi] at this
      rw [Nat.add_zero] at this
      rw [this]
      unfold zrec
      rw [if_neg (by omega), if_neg (by decide)]
      rfl
  have hk : kR2 m' (uA (zup (zup u 42 7 (nI 0)) 42 34 (nI 0)) 0 xs) nR' := by
    have g := kR2_up hIu.k k4.1 k4.2.2
    unfold kR2 at g ⊢
    rw [k2 40 (by omega), hC.far 40 (by decide) (by decide) (by decide), uA_far (by decide) (by decide), zup_n _ (by decide)]
    exact g
  obtain ⟨u', e1, e2, e3⟩ := wr_ok (m := m3) (m2 := m2) (m' := m') (u := zup u 42 7 (nI 0)) (x := uA (zup (zup u 42 7 (nI 0)) 42 34 (nI 0)) 0 xs) hIu (hC.mv hI.f hIu.f) (fun a ha => k2 a (by omega)) (fun a g1 g2 g3 => by rw [uA_far g2 (by omega), zup_n _ (by omega)]) (fun f hf => by rw [uA_fld hf, zup_s, upd_n _ hf]) hp hRI (by rw [ed]; exact k3) hk (by rw [k2 19 (by omega), hC.far 19 (by decide) (by decide) (by decide)])
  exact ⟨u', e1, fin_SE rfl e2 e3 hu (by rw [k2 9 (by omega), hC.far 9 (by decide) (by decide) (by decide), h9]) (by rw [k2 0 (by omega), hC.far 0 (by decide) (by decide) (by decide), h0]) (by rw [hy 42 (by omega), h42])⟩
theorem sb_fl {m m3 m2 u : zM} {J : Nat → Nat} {n c nT nQ nR nM : Nat} {xs : List Nat} (hb : ∀ c ∈ xs, c < 256) (h1 : 1 ≤ xs.length) (h2 : xs.length ≤ 207) (hn : n < 4000) (hI : IX m3 m3 J n n 0 nT nQ nR nM) (hC : flC m3 m2 m3 n (2 + xs.length) c (Dm xs)) (hu : nH m2 u) (h9 : m3 9 2 = nI 0) (h0 : m3 0 = m 0) (h42 : m3 42 2 = m 42 2) : ∃ u', Ev 190 [.ref 42, .int (nI 77)] (uA (zup (zup u 42 7 (nI 0)) 42 34 (nI 0)) 0 xs) (some (.int 0)) u' ∧ SE m u' := by
  have hy : ∀ a, 42 ≤ a → m2 a = m3 a := fun a ha => hC.far a (by omega) (by omega) (by omega)
  obtain ⟨_, hIu⟩ := IX_y hI hy hu
  have hp := mPre_m (u := zup u 42 7 (nI 0)) (n := n) hb h1 h2 hIu.j.2.1 hn
  have hk : kR2 m2 (uA (zup (zup u 42 7 (nI 0)) 42 34 (nI 0)) 0 xs) nR := by
    have g := hIu.k
    unfold kR2 at g ⊢
    rw [hC.far 40 (by decide) (by decide) (by decide), uA_far (by decide) (by decide), zup_n _ (by decide)]
    exact g
  obtain ⟨u', e1, e2, e3⟩ := wr_fl' (m := m3) (m2 := m2) (m' := m2) (u := zup u 42 7 (nI 0)) (x := uA (zup (zup u 42 7 (nI 0)) 42 34 (nI 0)) 0 xs) hIu (hC.mv hI.f hIu.f) (fun a _ _ => rfl) (fun a g1 g2 g3 => by rw [uA_far g2 (by omega), zup_n _ (by omega)]) (fun f hf => by rw [uA_fld hf, zup_s, upd_n _ hf]) hp hk
  exact ⟨u', e1, fin_SE rfl e2 e3 hu (by rw [hC.far 9 (by decide) (by decide) (by decide), h9]) (by rw [hC.far 0 (by decide) (by decide) (by decide), h0]) (by rw [hy 42 (by omega), h42])⟩
