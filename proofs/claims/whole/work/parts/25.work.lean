/-! records of one number; work -/
def dn (kd v : Nat) : Nat → Nat := fun j => if j = 0 then kd else if j = 2 then v else 0
theorem dn_lt {kd v : Nat} (h1 : kd < 256) (h2 : v < 256) : ∀ j, j < 3 → dn kd v j < 256 := by
  intro j hj
  obtain rfl | rfl | rfl : j = 0 ∨ j = 1 ∨ j = 2 := by omega
  · exact h1
  · show (0 : Nat) < 256
    decide
  · exact h2
theorem wn_c {m u : zM} {J : Nat → Nat} {n nT nQ nR nM kd v : Nat} (h : IX m u J n n 0 nT nQ nR nM) (hkd : kd < 256) (hv : v < 256) (hn : n + 4 ≤ 5247) : (∃ m2, Ev 60 [.ref 14, .int (nI kd), .int (nI v)] m (some (.int 1)) m2 ∧ okC m m2 u n 3 (dn kd v)) ∨ ∃ m2 c, Ev 60 [.ref 14, .int (nI kd), .int (nI v)] m (some (.int 0)) m2 ∧ flC m m2 u n 3 c (dn kd v) := by
  obtain ⟨j1, j2, j3, j4, j5, j6⟩ := h.j
  have run : ∀ {r : Int32} {m2 : zM}, (r = 0 ∨ r = 1) → Ev 61 [.ref 14] (zup (zup (zup (zup (zup (zup (zup m 14 4 0) 16 0 (nI kd)) 14 4 (nI 1)) 16 1 0) 14 4 (nI 2)) 16 2 (nI v)) 14 4 (nI 3)) (some (.int r)) m2 → Ev 60 [.ref 14, .int (nI kd), .int (nI v)] m (some (.int r)) m2 := by
    intro r m2 hr hE Q hQ
    refine zgo 20 [] ?_
    refine (ev_begin (m := m) (nI kd)).use ?_
    refine zgo 20 [] ?_
    refine (ev_add (d := 2) (nI v) (by simp (disch := first | omega | decide) only [zcn, zkpl, zki, zki1, zk8, zk16, zo32, zlt0, zle0, zeq0, zgt0, zLe0, nI_ltI, nI_leI, nI_eq, nI_add, nI_clamp, vp_in_nI, zup_s, zup_n, upd_s, upd_n, ne_eq, not_true_eq_false, not_false_eq_true]) (by decide)).use ?_
    refine zgo 20 [] ?_
    refine hE.use ?_
    refine zgo 20 [] ?_
    exact ⟨hr, hQ⟩
  have hz : zPre (zup (zup (zup (zup (zup (zup (zup m 14 4 0) 16 0 (nI kd)) 14 4 (nI 1)) 16 1 0) 14 4 (nI 2)) 16 2 (nI v)) 14 4 (nI 3)) n 3 (dn kd v) := by
    refine ⟨by simp (disch := first | omega | decide) only [zcn, zkpl, zki, zki1, zk8, zk16, zo32, zlt0, zle0, zeq0, zgt0, zLe0, nI_ltI, nI_leI, nI_eq, nI_add, nI_clamp, vp_in_nI, zup_s, zup_n, upd_s, upd_n, ne_eq, not_true_eq_false, not_false_eq_true], by decide, by decide, fun j hj => ⟨dn_lt hkd hv j hj, ?_⟩, by simp (disch := first | omega | decide) only [j1, zcn, zkpl, zki, zki1, zk8, zk16, zo32, zlt0, zle0, zeq0, zgt0, zLe0, nI_ltI, nI_leI, nI_eq, nI_add, nI_clamp, vp_in_nI, zup_s, zup_n, upd_s, upd_n, ne_eq, not_true_eq_false, not_false_eq_true], by omega⟩
    obtain rfl | rfl | rfl : j = 0 ∨ j = 1 ∨ j = 2 := by omega
    · simp (disch := first | omega | decide) only [zcn, zkpl, zki, zki1, zk8, zk16, zo32, zlt0, zle0, zeq0, zgt0, zLe0, nI_ltI, nI_leI, nI_eq, nI_add, nI_clamp, vp_in_nI, zup_s, zup_n, upd_s, upd_n, ne_eq, not_true_eq_false, not_false_eq_true]
      rfl
    · simp (disch := first | omega | decide) only [zcn, zkpl, zki, zki1, zk8, zk16, zo32, zlt0, zle0, zeq0, zgt0, zLe0, nI_ltI, nI_leI, nI_eq, nI_add, nI_clamp, vp_in_nI, zup_s, zup_n, upd_s, upd_n, ne_eq, not_true_eq_false, not_false_eq_true]
      rfl
    · simp (disch := first | omega | decide) only [zcn, zkpl, zki, zki1, zk8, zk16, zo32, zlt0, zle0, zeq0, zgt0, zLe0, nI_ltI, nI_leI, nI_eq, nI_add, nI_clamp, vp_in_nI, zup_s, zup_n, upd_s, upd_n, ne_eq, not_true_eq_false, not_false_eq_true]
      rfl
  rcases wr_c h (fun a g1 g2 => by simp (disch := first | omega | decide) only [zcn, zkpl, zki, zki1, zk8, zk16, zo32, zlt0, zle0, zeq0, zgt0, zLe0, nI_ltI, nI_leI, nI_eq, nI_add, nI_clamp, vp_in_nI, zup_s, zup_n, upd_s, upd_n, ne_eq, not_true_eq_false, not_false_eq_true]) (fun f g => by simp (disch := first | omega | decide) only [zcn, zkpl, zki, zki1, zk8, zk16, zo32, zlt0, zle0, zeq0, zgt0, zLe0, nI_ltI, nI_leI, nI_eq, nI_add, nI_clamp, vp_in_nI, zup_s, zup_n, upd_s, upd_n, ne_eq, not_true_eq_false, not_false_eq_true]) hz with ⟨m2, e1, e2⟩ | ⟨m2, c, e1, e2⟩
  · exact Or.inl ⟨m2, run (Or.inr rfl) e1, e2⟩
  · exact Or.inr ⟨m2, c, run (Or.inl rfl) e1, e2⟩
/-- the model before its write -/
def mn (y : zM) (v : Nat) : zM := zup (zup (zup y 42 34 0) 57 0 (nI v)) 42 34 (nI 1)
theorem mn_far {y : zM} {v a : Nat} (h1 : a ≠ 42) (h2 : a ≠ 57) : mn y v a = y a := by
  unfold mn
  simp (disch := first | omega | decide) only [zcn, zkpl, zki, zki1, zk8, zk16, zo32, zlt0, zle0, zeq0, zgt0, zLe0, nI_ltI, nI_leI, nI_eq, nI_add, nI_clamp, vp_in_nI, zup_s, zup_n, upd_s, upd_n, ne_eq, not_true_eq_false, not_false_eq_true]
theorem mn_42 {y : zM} {v f : Nat} (h : f ≠ 34) : mn y v 42 f = y 42 f := by
  unfold mn
  simp (disch := first | omega | decide) only [zcn, zkpl, zki, zki1, zk8, zk16, zo32, zlt0, zle0, zeq0, zgt0, zLe0, nI_ltI, nI_leI, nI_eq, nI_add, nI_clamp, vp_in_nI, zup_s, zup_n, upd_s, upd_n, ne_eq, not_true_eq_false, not_false_eq_true]
theorem mn_pre {y : zM} {n kd v : Nat} (h : y 42 36 = nI n) (hkd : kd < 256) (hv : v < 256) (hn : n + 4 ≤ 5247) : mPre (mn y v) n 3 (dn kd v) := by
  refine ⟨by unfold mn; simp (disch := first | omega | decide) only [zcn, zkpl, zki, zki1, zk8, zk16, zo32, zlt0, zle0, zeq0, zgt0, zLe0, nI_ltI, nI_leI, nI_eq, nI_add, nI_clamp, vp_in_nI, zup_s, zup_n, upd_s, upd_n, ne_eq, not_true_eq_false, not_false_eq_true], by decide, by decide, dn_lt hkd hv, fun j g1 g2 => ?_, by rw [mn_42 (by decide), h], by omega⟩
  obtain rfl : j = 2 := by omega
  unfold mn
  simp (disch := first | omega | decide) only [zcn, zkpl, zki, zki1, zk8, zk16, zo32, zlt0, zle0, zeq0, zgt0, zLe0, nI_ltI, nI_leI, nI_eq, nI_add, nI_clamp, vp_in_nI, zup_s, zup_n, upd_s, upd_n, ne_eq, not_true_eq_false, not_false_eq_true]
  rfl
theorem wn_m {y u' : zM} {kd v : Nat} {r : Int32} (hr : r = 0 ∨ r = 1) (hE : Ev 190 [.ref 42, .int (nI kd)] (mn y v) (some (.int r)) u') : Ev 191 [.ref 42, .int (nI kd), .int (nI v)] y (some (.int r)) u' := by
  intro Q hQ
  refine zgo 40 [185] ?_
  refine ⟨by show vp_in _ _; simp (disch := first | omega | decide) only [zcn, zkpl, zki, zki1, zk8, zk16, zo32, zlt0, zle0, zeq0, zgt0, zLe0, nI_ltI, nI_leI, nI_eq, nI_add, nI_clamp, vp_in_nI, zup_s, zup_n, upd_s, upd_n, ne_eq, not_true_eq_false, not_false_eq_true], ?_⟩
  refine zcm (m := mn y v) ?_ (hE.use ?_)
  · unfold mn
    simp (disch := first | omega | decide) only [Nat.zero_add, zcn, zkpl, zki, zki1, zk8, zk16, zo32, zlt0, zle0, zeq0, zgt0, zLe0, nI_ltI, nI_leI, nI_eq, nI_add, nI_clamp, vp_in_nI, zup_s, zup_n, upd_s, upd_n, ne_eq, not_true_eq_false, not_false_eq_true]
    rfl
  · refine zgo 40 [] ?_
    exact ⟨hr, hQ⟩
theorem cnt5_le {f : Nat → Int32} {n nR : Nat} (h : nR = cnt f (nI 4) n + cnt f (nI 5) n + 2 * cnt f (nI 6) n) (hn : n ≤ 20) : nR ≤ 40 := by
  have := cnt_three (f := f) (v := nI 4) (w := nI 5) (x := nI 6) (by decide) (by decide) (by decide) n
  omega
/-- a record of one number on both sides, when it comes whole -/
theorem wn_ok' {m m2 m' u y : zM} {J : Nat → Nat} {n nT nQ nR nM nT' nQ' nR' nM' kd v : Nat} (h : IX m u J n n 0 nT nQ nR nM) (hkd : kd < 256) (hv : v < 256) (hn : n + 4 ≤ 5247) (hC : okC m m2 u n 3 (dn kd v)) (hm : ∀ a, a < 18 → m' a = m2 a) (hx : ∀ a, 43 ≤ a → a ≠ 74 → y a = u a) (hxf : ∀ f, y 42 f = u 42 f)
    (hst : ∀ w : zM, w 58 n = nI kd → w 58 (n + 2) = nI v → lR w m2 nT nQ nR nM → ∃ w', Ev 202 [.ref 42, .int (nI n)] w none w' ∧ mF w w' ∧ lR w' m' nT' nQ' nR' nM') (hg : gW m' nT' nQ' nR' nM' (n + 4)) (hk : kR2 m' y nR') (hlim : m' 19 0 = m 19 0) : ∃ u', Ev 191 [.ref 42, .int (nI kd), .int (nI v)] y (some (.int 1)) u' ∧ IX m' u' (jx J n (zrec (dn kd v) 3)) (n + 4) (n + 4) 0 nT' nQ' nR' nM' ∧ (∀ a, a < 42 ∨ (43 ≤ a ∧ a ≤ 56) → u' a = y a) ∧ u' 42 2 = y 42 2 ∧ u' 42 7 = y 42 7 := by
  have hri : RI m2 (u 42 0) (jx J n (zrec (dn kd v) 3)) n nT nQ nR nM := RI_congr h.ri (fun a g1 g2 _ => hC.far a (by omega) (by omega) (by omega)) (fun j hj => jx_lo hj)
  have hri2 : RI m' (u 42 0) (jx J n (zrec (dn kd v) 3)) (n + (3 + 1)) nT' nQ' nR' nM' := by
    refine RI_ext hri ?_ (by omega) ?_ (fun w hw hl => hst w ?_ ?_ hl)
    · rw [jx_hi]
      rfl
    · rw [jx_hi]
      show (1 : Nat) < 256
      decide
    · rw [hw n (by omega)]
      have := jx_hi (J := J) (n := n) (R := zrec (dn kd v) 3) (j := 0)
      rw [Nat.add_zero] at this
      rw [this]
      rfl
    · rw [hw (n + 2) (by omega), jx_hi]
      rfl
  obtain ⟨u', e1, e2, e3⟩ := wr_ok (x := mn y v) h hC hm (fun a g1 g2 g3 => by rw [mn_far (by omega) g2, hx a g1 g3]) (fun f g => by rw [mn_42 g, hxf f]) (mn_pre (by rw [hxf 36]; exact h.j.2.1) hkd hv hn) hri2 hg (by unfold kR2; rw [mn_far (by decide) (by decide)]; exact hk) hlim
  refine ⟨u', wn_m (Or.inr rfl) e1, e2, fun a ha => ?_, ?_, ?_⟩
  · rw [e3.1 a (by omega), mn_far (by omega) (by omega)]
  · rw [e3.2 2 (by decide) (by decide) (by decide) (by decide) (by decide) (by decide) (by decide), mn_42 (by decide)]
  · rw [e3.2 7 (by decide) (by decide) (by decide) (by decide) (by decide) (by decide) (by decide), mn_42 (by decide)]
theorem wn_ok {m m2 m' u y : zM} {J : Nat → Nat} {n nT nQ nR nM nT' nQ' nR' nM' kd v : Nat} (h : IX m u J n n 0 nT nQ nR nM) (hkd : kd < 256) (hv : v < 256) (hn : n + 4 ≤ 5247) (hC : okC m m2 u n 3 (dn kd v)) (hm : ∀ a, a < 18 → m' a = m2 a) (hx : ∀ a, 43 ≤ a → a ≠ 74 → y a = u a) (hxf : ∀ f, y 42 f = u 42 f)
    (hst : ∀ w : zM, w 58 n = nI kd → w 58 (n + 2) = nI v → lR w m2 nT nQ nR nM → ∃ w', Ev 202 [.ref 42, .int (nI n)] w none w' ∧ mF w w' ∧ lR w' m' nT' nQ' nR' nM') (hg : gW m' nT' nQ' nR' nM' (n + 4)) (hk : kR2 m' y nR') (hlim : m' 19 0 = m 19 0) : ∃ u' J', Ev 191 [.ref 42, .int (nI kd), .int (nI v)] y (some (.int 1)) u' ∧ IX m' u' J' (n + 4) (n + 4) 0 nT' nQ' nR' nM' ∧ (∀ a, a < 42 ∨ (43 ≤ a ∧ a ≤ 56) → u' a = y a) ∧ u' 42 2 = y 42 2 ∧ u' 42 7 = y 42 7 := by
  obtain ⟨u', e1, e2, e3, e4, e5⟩ := wn_ok' h hkd hv hn hC hm hx hxf hst hg hk hlim
  exact ⟨u', _, e1, e2, e3, e4, e5⟩
theorem wn_fl' {m m2 m' u y : zM} {J : Nat → Nat} {n nT nQ nR nM kd v c : Nat} (h : IX m u J n n 0 nT nQ nR nM) (hkd : kd < 256) (hv : v < 256) (hn : n + 4 ≤ 5247) (hC : flC m m2 u n 3 c (dn kd v)) (hm : ∀ a, a < 42 → a ≠ 40 → m' a = m2 a) (hx : ∀ a, 43 ≤ a → a ≠ 74 → y a = u a) (hxf : ∀ f, y 42 f = u 42 f) (hk : kR2 m' y nR) : ∃ u', Ev 191 [.ref 42, .int (nI kd), .int (nI v)] y (some (.int 0)) u' ∧ IX m' u' (jx J n (zrec (dn kd v) 3)) (n + min c 3) n 1 nT nQ nR nM ∧ (∀ a, a < 42 ∨ (43 ≤ a ∧ a ≤ 56) → u' a = y a) ∧ u' 42 2 = y 42 2 ∧ u' 42 7 = y 42 7 := by
  obtain ⟨u', e1, e2, e3⟩ := wr_fl' (x := mn y v) h hC hm (fun a g1 g2 g3 => by rw [mn_far (by omega) g2, hx a g1 g3]) (fun f g => by rw [mn_42 g, hxf f]) (mn_pre (by rw [hxf 36]; exact h.j.2.1) hkd hv hn) (by unfold kR2; rw [mn_far (by decide) (by decide)]; exact hk)
  refine ⟨u', wn_m (Or.inl rfl) e1, e2, fun a ha => ?_, ?_, ?_⟩
  · rw [e3.1 a (by omega), mn_far (by omega) (by omega)]
  · rw [e3.2 2 (by decide) (by decide) (by decide) (by decide) (by decide) (by decide) (by decide), mn_42 (by decide)]
  · rw [e3.2 7 (by decide) (by decide) (by decide) (by decide) (by decide) (by decide) (by decide), mn_42 (by decide)]
theorem wn_fl {m m2 m' u y : zM} {J : Nat → Nat} {n nT nQ nR nM kd v c : Nat} (h : IX m u J n n 0 nT nQ nR nM) (hkd : kd < 256) (hv : v < 256) (hn : n + 4 ≤ 5247) (hC : flC m m2 u n 3 c (dn kd v)) (hm : ∀ a, a < 42 → a ≠ 40 → m' a = m2 a) (hx : ∀ a, 43 ≤ a → a ≠ 74 → y a = u a) (hxf : ∀ f, y 42 f = u 42 f) (hk : kR2 m' y nR) : ∃ u' n' J', Ev 191 [.ref 42, .int (nI kd), .int (nI v)] y (some (.int 0)) u' ∧ IX m' u' J' n' n 1 nT nQ nR nM ∧ (∀ a, a < 42 ∨ (43 ≤ a ∧ a ≤ 56) → u' a = y a) ∧ u' 42 2 = y 42 2 ∧ u' 42 7 = y 42 7 := by
  obtain ⟨u', e1, e2, e3, e4, e5⟩ := wn_fl' h hkd hv hn hC hm hx hxf hk
  exact ⟨u', _, _, e1, e2, e3, e4, e5⟩
