/-! tick -/
def frm (e e' : zM) : Prop := (∀ a, a < 42 ∨ (43 ≤ a ∧ a ≤ 56) → e' a = e a) ∧ e' 42 2 = e 42 2 ∧ e' 42 7 = e 42 7
theorem frm.tr {a b c : zM} (h1 : frm a b) (h2 : frm b c) : frm a c := ⟨fun x hx => (h2.1 x hx).trans (h1.1 x hx), h2.2.1.trans h1.2.1, h2.2.2.trans h1.2.2⟩
theorem frm.rf (a : zM) : frm a a := ⟨fun _ _ => rfl, rfl, rfl⟩
theorem fR2_det {m u e : zM} (h : fR2 m u) (h' : fR2 m e) : u 42 4 = e 42 4 ∧ (u 42 4 = -1 ∨ u 42 5 = e 42 5) := by
  rcases h with ⟨f1, f2⟩ | ⟨l, c, hl, hc2, f1, f2, f3, f4, f5⟩
  · rcases h' with ⟨g1, g2⟩ | ⟨l', c', hl', hc', g1, g2, g3, g4, g5⟩
    · exact ⟨by rw [f2, g2], Or.inl f2⟩
    · rw [f1] at g1
      exact absurd g1 (by decide)
  · rcases h' with ⟨g1, g2⟩ | ⟨l', c', hl', hc', g1, g2, g3, g4, g5⟩
    · rw [f1] at g1
      exact absurd g1 (by decide)
    · exact ⟨by rw [f3, g3, ← f2, ← g2], Or.inr (by rw [f5, g5, ← f4, ← g4])⟩
theorem okC.mv {m m2 u e : zM} {n d : Nat} {D : Nat → Nat} (h : okC m m2 u n d D) (hu : fR2 m u) (he : fR2 m e) : okC m m2 e n d D := by
  obtain ⟨h1, h2, h3, h4, h5, h6, h7⟩ := h
  obtain ⟨d1, d2⟩ := fR2_det hu he
  refine ⟨h1, h2, h3, h4, h5, h6, ?_⟩
  rcases h7 with ⟨w1, w2⟩ | ⟨l, c, hl, hcc, w1, w2, w3, w4, w5⟩
  · exact Or.inl ⟨by rw [← d1, w1], w2⟩
  · refine Or.inr ⟨l, c, hl, hcc, by rw [← d1, w1], w2, w3, w4, ?_⟩
    rcases d2 with d2 | d2
    · rw [w1] at d2
      exact absurd d2 (fun e => by
        have := nI_pos (n := l + 1) (by omega)
        rw [e] at this
        exact this (by decide))
    · rw [← d2, w5]
theorem flC.mv {m m2 u e : zM} {n d c : Nat} {D : Nat → Nat} (h : flC m m2 u n d c D) (hu : fR2 m u) (he : fR2 m e) : flC m m2 e n d c D := by
  obtain ⟨h1, h2, h3, h4, h5, h6, h7, h8, h9, h10⟩ := h
  obtain ⟨d1, d2⟩ := fR2_det hu he
  refine ⟨h1, h2, h3, h4, h5, h6, h7, h8, by rw [← d1, h9], ?_⟩
  rcases d2 with d2 | d2
  · rw [h9] at d2
    exact absurd d2 (by decide)
  · rw [← d2, h10]
/-- a transaction that ends leaves room -/
theorem room {m : zM} {nT nQ nR t s0 s : Nat} (h : cW m nT nQ nR) (hn : nT ≤ 20) (ht : t < nT) (h0 : m 33 t = nI s0) (hs : (s0 = 3 ∧ (s = 4 ∨ s = 5)) ∨ (s0 = 4 ∧ s = 6)) : nR < 40 ∧ nQ + cnt (upd (m 33) t (nI s)) (nI 2) nT ≤ 20 := by
  obtain ⟨h1, ⟨-, -, -, h2⟩, h3⟩ := h
  constructor
  · have e := cnt_upd (f := m 33) (v := nI 6) (x := nI 6) (t := t) nT ht
    have e4 := cnt_upd (f := m 33) (v := nI 4) (x := nI 6) (t := t) nT ht
    have e5 := cnt_upd (f := m 33) (v := nI 5) (x := nI 6) (t := t) nT ht
    have e3 := cnt_three (f := upd (m 33) t (nI 6)) (v := nI 4) (w := nI 5) (x := nI 6) (by decide) (by decide) (by decide) nT
    rcases hs with ⟨rfl, -⟩ | ⟨rfl, -⟩
    · rw [if_neg (by rw [h0]; decide), if_pos rfl] at e
      rw [if_neg (by rw [h0]; decide), if_neg (by decide)] at e4 e5
      omega
    · rw [if_neg (by rw [h0]; decide), if_pos rfl] at e
      rw [if_pos h0, if_neg (by decide)] at e4
      rw [if_neg (by rw [h0]; decide), if_neg (by decide)] at e5
      omega
  · have e1 := cnt_upd (f := m 33) (v := nI 1) (x := nI s) (t := t) nT ht
    have e2 := cnt_two (f := upd (m 33) t (nI s)) (v := nI 1) (w := nI 2) (by decide) nT
    have g1 : ¬ m 33 t = nI 1 := by
      rw [h0]
      rcases hs with ⟨rfl, -⟩ | ⟨rfl, -⟩ <;> decide
    have g2 : ¬ nI s = nI 1 := by
      rcases hs with ⟨-, rfl | rfl⟩ | ⟨-, rfl⟩ <;> decide
    rw [if_neg g1, if_neg g2] at e1
    omega
/-- the wakening leaves other statuses -/
theorem zwk_st {d : Int32} : ∀ (k i : Nat) (m : zM) (t : Nat), zwk m 33 31 35 28 8 d i k 33 t = m 33 t ∨ (m 33 t = nI 2 ∧ zwk m 33 31 35 28 8 d i k 33 t = nI 1)
  | 0, _, _, _ => Or.inl rfl
  | k + 1, i, m, t => by
    rw [zwk]
    by_cases hw : m 33 i = nI 2 ∧ m 31 i = d
    · rw [if_pos hw]
      rcases zwk_st k (i + 1) (zup (zup (zup m 33 i (nI 1)) 35 ((m 28 8).toNatClampNeg) (nI i)) 28 8 (m 28 8 + nI 1)) t with g | ⟨g1, g2⟩
      · rw [g, zup_n _ (by decide), zup_n _ (by decide), zup_s]
        by_cases e : t = i
        · subst e
          rw [upd_s]
          exact Or.inr ⟨hw.1, rfl⟩
        · rw [upd_n _ e]
          exact Or.inl rfl
      · rw [zup_n _ (by decide), zup_n _ (by decide), zup_s] at g1
        by_cases e : t = i
        · subst e
          rw [upd_s] at g1
          exact absurd g1 (by decide)
        · rw [upd_n _ e] at g1
          exact Or.inr ⟨g1, g2⟩
    · rw [if_neg hw]
      exact zwk_st k (i + 1) m t
theorem cnt_st {f g : Nat → Int32} {v : Int32} (h1 : v ≠ nI 1) (h2 : v ≠ nI 2) : ∀ (n : Nat), (∀ t, t < n → g t = f t ∨ (f t = nI 2 ∧ g t = nI 1)) → cnt g v n = cnt f v n
  | 0, _ => rfl
  | n + 1, h => by
    rw [cnt, cnt, cnt_st h1 h2 n (fun t ht => h t (by omega))]
    rcases h n (by omega) with e | ⟨e1, e2⟩
    · rw [e]
    · rw [e1, e2, if_neg (Ne.symm h1), if_neg (Ne.symm h2)]
theorem crj_far {m : zM} {n t d r a : Nat} (h : a < 14 ∨ (16 < a ∧ a < 21) ∨ (21 < a ∧ a < 28) ∨ (28 < a ∧ a < 33) ∨ a = 34 ∨ 38 < a) : crj m n t d r a = m a := by
  unfold crj
  rw [zwk_far (by omega) (by omega) (by omega), cend_39 (by omega) (by omega) (by omega) (by omega), zup_n _ (by omega)]
/-- one transaction that is due -/
theorem ex_both {m u : zM} {J : Nat → Nat} {n nT nQ nR nM t : Nat} (h : IX m u J n n 0 nT nQ nR nM) (ht : t < nT) (h3 : m 33 t = nI 3) : (∃ m2 m' nQ', Ev 60 [.ref 14, .int (nI 88), .int (nI t)] m (some (.int 1)) m2 ∧ Ev 25 [.ref 18, .int (nI t)] m2 none m' ∧ (∀ a, a < 14 ∨ 42 ≤ a → m' a = m a) ∧ ∀ e, IX m e J n n 0 nT nQ nR nM → ∃ e', Ev 191 [.ref 42, .int (nI 88), .int (nI t)] e (some (.int 1)) e' ∧ IX m' e' (jx J n (zrec (dn 88 t) 3)) (n + 4) (n + 4) 0 nT nQ' (nR + 1) nM ∧ frm e e')
    ∨ ∃ m2 c, Ev 60 [.ref 14, .int (nI 88), .int (nI t)] m (some (.int 0)) m2 ∧ (∀ a, a < 14 ∨ 42 ≤ a → m2 a = m a) ∧ ∀ e, IX m e J n n 0 nT nQ nR nM → ∃ e', Ev 191 [.ref 42, .int (nI 88), .int (nI t)] e (some (.int 0)) e' ∧ IX m2 e' (jx J n (zrec (dn 88 t) 3)) (n + min c 3) n 1 nT nQ nR nM ∧ frm e e' := by
  obtain ⟨⟨t1, t2, t3⟩, ⟨q1, q2, q3⟩, ⟨r1, r2, r3⟩, ⟨k1, k2, k3⟩, -⟩ := id h.l
  obtain ⟨s, dd, cc, aa, -, -, -, b4, b5, -, -, -, -⟩ := h.g.1.1 t ht
  obtain ⟨hr40, hroom⟩ := room h.g.1 t3 ht h3 (Or.inl ⟨rfl, Or.inr rfl⟩)
  have hjB := h.g.2.2.1
  have hc5 := cnt_upd1 (f := m 33) (v := nI 5) (x := nI 5) ht (by rw [h3]; decide) rfl
  have hc5' := cnt_le (f := upd (m 33) t (nI 5)) (v := nI 5) nT
  have hcm := cnt_le (f := m 39) (v := 1) nR
  have hn4 : n + 4 ≤ 5247 := by
    unfold jB at hjB
    omega
  rcases wn_c h (kd := 88) (v := t) (by decide) (by omega) hn4 with ⟨m2, e1, e2⟩ | ⟨m2, c, e1, e2⟩
  · refine Or.inl ?_
    have hg := gW_congr h.g (m' := m2) (fun a g1 g2 g3 => e2.far a (by omega) (by omega) (by omega))
    have f28 : m2 28 = m 28 := e2.far 28 (by decide) (by decide) (by decide)
    have f33 : m2 33 = m 33 := e2.far 33 (by decide) (by decide) (by decide)
    have f36 : m2 36 = m 36 := e2.far 36 (by decide) (by decide) (by decide)
    have f31 : m2 31 = m 31 := e2.far 31 (by decide) (by decide) (by decide)
    have hz : m2 39 nR = 0 := hg.2.2.2.1 nR (by omega) hr40
    have hrej := ev_reject (m := m2) (r := nR) (q := nQ) (d := dd) t3 ht hr40 b5 (by rw [f28, t1]) (by rw [f28, q1]) (by rw [f36, r1]) (by rw [f31, b4]) (by rw [f33]; exact hroom)
    have far2 : ∀ a, (a < 14 ∨ (16 < a ∧ a < 21) ∨ (21 < a ∧ a < 28) ∨ (28 < a ∧ a < 33) ∨ a = 34 ∨ 38 < a) → crj m2 nT t dd nR a = m a := fun a g => by rw [crj_far g, e2.far a (by omega) (by omega) (by omega)]
    have e33 : crj m2 nT t dd nR 33 = zwk (cend (zup m2 21 dd (m2 21 dd + -(m2 30 t))) t nR (nI 5)) 33 31 35 28 8 (nI dd) 0 nT 33 := rfl
    have c33 : cend (zup m2 21 dd (m2 21 dd + -(m2 30 t))) t nR (nI 5) 33 = upd (m 33) t (nI 5) := by
      unfold cend
      simp (disch := first | omega | decide) only [f33, zcn, zkpl, zki, zki1, zk8, zk16, zo32, zlt0, zle0, zeq0, zgt0, zLe0, nI_ltI, nI_leI, nI_eq, nI_add, nI_clamp, vp_in_nI, zup_s, zup_n, upd_s, upd_n, ne_eq, not_true_eq_false, not_false_eq_true]
    have c5 : cnt (crj m2 nT t dd nR 33) (nI 5) nT = cnt (m 33) (nI 5) nT + 1 := by
      rw [e33, cnt_st (by decide) (by decide) nT (fun i _ => zwk_st nT 0 _ i), c33]
      exact hc5
    refine ⟨m2, crj m2 nT t dd nR, cnt (crj m2 nT t dd nR 33) (nI 1) nT, e1, hrej, fun a ha => far2 a (by omega), fun e he => ?_⟩
    have hl2 : lR e m2 nT nQ nR nM := lR_congr he.l (fun a g1 g2 _ => e2.far a (by omega) (by omega) (by omega)) (fun _ _ _ => rfl) (fun _ _ => rfl)
    have hLx : ∀ w : zM, lR w m2 nT nQ nR nM → LR (mrj w nT t dd nR) (crj m2 nT t dd nR) nT (cnt (crj m2 nT t dd nR 33) (nI 1) nT) (nR + 1) nM := by
      intro w hw
      obtain ⟨q', hq'⟩ := LR_expire ⟨hw, hg.1⟩ ht (by rw [f33, h3]) b5 hz
      have := hq'.2.2.1.2.2.2
      rw [← this]
      exact hq'
    have g1' : gW (crj m2 nT t dd nR) nT (cnt (crj m2 nT t dd nR 33) (nI 1) nT) (nR + 1) nM (n + 4) := by
      refine ⟨(hLx e hl2).2, ⟨by have := h.g.2.1.1; omega, fun a ha => ?_⟩, ?_, fun r g1 g2 => ?_, by unfold dN; rw [far2 29 (by omega)]; exact h.g.2.2.2.2⟩
      · rw [far2 22 (by omega)]
        obtain ⟨x, x1, x2⟩ := h.g.2.1.2 a ha
        exact ⟨x, x1, by omega⟩
      · unfold jB at hjB ⊢
        rw [c5, far2 39 (by omega), cnt]
        omega
      · rw [far2 39 (by omega)]
        exact h.g.2.2.2.1 r (by omega) g2
    have g2' : kR2 (crj m2 nT t dd nR) e (nR + 1) := by
      obtain ⟨y1, y2, y3⟩ := he.k
      unfold kR2
      rw [far2 40 (by omega)]
      refine ⟨fun r hr => ?_, fun r g1 g2 => y2 r (by omega) g2, fun r g1 g2 => y3 r (by omega) g2⟩
      by_cases er : r = nR
      · subst er
        rw [y2 r (by omega) (by omega), y3 r (by omega) hr40]
      · exact y1 r (by omega)
    obtain ⟨u', a1, a2, a3, a4, a5⟩ := wn_ok' (m' := crj m2 nT t dd nR) (y := e) (nT' := nT) (nR' := nR + 1) (nM' := nM) he (by decide) (by omega) hn4 (e2.mv h.f he.f) (fun a ha => by
        by_cases g : a < 14 ∨ 16 < a
        · rw [crj_far (by omega)]
        · unfold crj
          rw [zwk_far (by omega) (by omega) (by omega), cend_39 (by omega) (by omega) (by omega) (by omega), zup_n _ (by omega)]) (fun a _ _ => rfl) (fun f => rfl) (fun w g1 g2 hl => by
        refine ⟨_, mr_expire (d := dd) (r := nR) (q := nQ) (by omega) t3 ht (by omega) b5 hl.1.2.1 hl.2.2.1.2.1 hl.2.1.2.1 ?_ ?_ g1 g2, ?_, (hLx w hl).1⟩
        · rw [(hl.2.2.2.2.1 t ht).2.1, f31, b4]
        · rw [cnt_ext (g := upd (m 33) t (nI 5)) nT (fun j hj => ?_)]
          · exact hroom
          · by_cases ej : j = t
            · subst ej
              rw [upd_s, upd_s]
            · rw [upd_n _ ej, upd_n _ ej, (hl.2.2.2.2.1 j hj).2.2.2.1, f33]
        · unfold mrj ztl
          exact ((((((mF.rf w).up (by decide) (by decide)).up (by decide) (by decide)).up (by decide) (by decide)).up (by decide) (by decide)).up (by decide) (by decide)).fld (by omega) |>.wk) g1' g2' (by rw [far2 19 (by omega)])
    exact ⟨u', a1, a2, a3, a4, a5⟩
  · refine Or.inr ⟨m2, c, e1, fun a ha => e2.far a (by omega) (by omega) (by omega), fun e he => ?_⟩
    have g2' : kR2 m2 e nR := by
      unfold kR2
      rw [e2.far 40 (by decide) (by decide) (by decide)]
      exact he.k
    obtain ⟨u', a1, a2, a3, a4, a5⟩ := wn_fl' (m' := m2) (y := e) he (by decide) (by omega) hn4 (e2.mv h.f he.f) (fun a ha _ => rfl) (fun a _ _ => rfl) (fun f => rfl) g2'
    exact ⟨u', a1, a2, a3, a4, a5⟩
theorem ev_due1 {m : zM} {n t : Nat} (c : Int32) (hm : m 28 6 = nI n) (hn : n ≤ 20) (ht : t < n) (h3 : m 33 t = nI 3) (hd : m 34 t ≤ c) : Ev 98 [.ref 28, .int (nI t), .int c] m (some (.int 1)) m := by
  intro Q hQ
  have h1 : (m 34 t ≤ c) = True := eq_true hd
  have h2 : (c < m 34 t) = False := eq_false (Int32.not_lt.mpr hd)
  refine zgo 40 [90] ?_
  repeat' (first
    | (show vp_in _ _; simp (disch := first | omega | decide) only [hm, h3, h1, h2, z10, zcn, zkpl, zki, zki1, zk8, zk16, zo32, zlt0, zle0, zeq0, zgt0, zLe0, nI_ltI, nI_leI, nI_eq, nI_add, nI_clamp, vp_in_nI, zup_s, zup_n, upd_s, upd_n, ne_eq, not_true_eq_false, not_false_eq_true]; done)
    | (intro hc; exfalso; simp (disch := first | omega | decide) only [hm, h3, h1, h2, z10, zcn, zkpl, zki, zki1, zk8, zk16, zo32, zlt0, zle0, zeq0, zgt0, zLe0, nI_ltI, nI_leI, nI_eq, nI_add, nI_clamp, vp_in_nI, zup_s, zup_n, upd_s, upd_n, ne_eq, not_true_eq_false, not_false_eq_true] at hc <;> omega)
    | (intro hc; exact absurd rfl hc)
    | intro hc
    | apply And.intro
    | exact hQ
    | (show Q _ (SH, _); simp (disch := first | omega | decide) only [hm, h3, h1, h2, z10, zcn, zkpl, zki, zki1, zk8, zk16, zo32, zlt0, zle0, zeq0, zgt0, zLe0, nI_ltI, nI_leI, nI_eq, nI_add, nI_clamp, vp_in_nI, zup_s, zup_n, upd_s, upd_n, ne_eq, not_true_eq_false, not_false_eq_true]; exact hQ)
    | exact Or.inl rfl
    | exact Or.inr rfl
    | (show (_ : Int32) = 0 ∨ _ = 1; simp (disch := first | omega | decide) only [hm, h3, h1, h2, z10, zcn, zkpl, zki, zki1, zk8, zk16, zo32, zlt0, zle0, zeq0, zgt0, zLe0, nI_ltI, nI_leI, nI_eq, nI_add, nI_clamp, vp_in_nI, zup_s, zup_n, upd_s, upd_n, ne_eq, not_true_eq_false, not_false_eq_true, zeq1, true_or, or_true]; done))
theorem ev_due0 {m : zM} {n t : Nat} (c : Int32) (hm : m 28 6 = nI n) (hn : n ≤ 20) (ht : t < 20) (h : n ≤ t ∨ ¬ m 33 t = nI 3 ∨ ¬ m 34 t ≤ c) : Ev 98 [.ref 28, .int (nI t), .int c] m (some (.int 0)) m := by
  intro Q hQ
  by_cases hnt : n ≤ t
  · refine zgo 40 [90] ?_
    repeat' (first
      | (show vp_in _ _; simp (disch := first | omega | decide) only [hm, zcn, zkpl, zki, zki1, zk8, zk16, zo32, zlt0, zle0, zeq0, zgt0, zLe0, nI_ltI, nI_leI, nI_eq, nI_add, nI_clamp, vp_in_nI, zup_s, zup_n, upd_s, upd_n, ne_eq, not_true_eq_false, not_false_eq_true]; done)
      | (intro hc; exfalso; simp (disch := first | omega | decide) only [hm, zcn, zkpl, zki, zki1, zk8, zk16, zo32, zlt0, zle0, zeq0, zgt0, zLe0, nI_ltI, nI_leI, nI_eq, nI_add, nI_clamp, vp_in_nI, zup_s, zup_n, upd_s, upd_n, ne_eq, not_true_eq_false, not_false_eq_true] at hc <;> omega)
      | (intro hc; exact absurd rfl hc)
      | intro hc
      | apply And.intro
      | exact hQ
      | (show Q _ (SH, _); simp (disch := first | omega | decide) only [hm, zcn, zkpl, zki, zki1, zk8, zk16, zo32, zlt0, zle0, zeq0, zgt0, zLe0, nI_ltI, nI_leI, nI_eq, nI_add, nI_clamp, vp_in_nI, zup_s, zup_n, upd_s, upd_n, ne_eq, not_true_eq_false, not_false_eq_true]; exact hQ)
      | exact Or.inl rfl
      | exact Or.inr rfl
      | (show (_ : Int32) = 0 ∨ _ = 1; simp (disch := first | omega | decide) only [hm, zcn, zkpl, zki, zki1, zk8, zk16, zo32, zlt0, zle0, zeq0, zgt0, zLe0, nI_ltI, nI_leI, nI_eq, nI_add, nI_clamp, vp_in_nI, zup_s, zup_n, upd_s, upd_n, ne_eq, not_true_eq_false, not_false_eq_true, zeq1, true_or, or_true]; done))
  · by_cases h3 : m 33 t = nI 3
    · have hd : ¬ m 34 t ≤ c := by
        rcases h with h | h | h
        · exact absurd h hnt
        · exact absurd h3 h
        · exact h
      have h1 : (m 34 t ≤ c) = False := eq_false hd
      have h2 : (c < m 34 t) = True := eq_true (Int32.not_le.mp hd)
      refine zgo 40 [90] ?_
      repeat' (first
        | (show vp_in _ _; simp (disch := first | omega | decide) only [hm, h3, h1, h2, z10, zcn, zkpl, zki, zki1, zk8, zk16, zo32, zlt0, zle0, zeq0, zgt0, zLe0, nI_ltI, nI_leI, nI_eq, nI_add, nI_clamp, vp_in_nI, zup_s, zup_n, upd_s, upd_n, ne_eq, not_true_eq_false, not_false_eq_true]; done)
        | (intro hc; exfalso; simp (disch := first | omega | decide) only [hm, h3, h1, h2, z10, zcn, zkpl, zki, zki1, zk8, zk16, zo32, zlt0, zle0, zeq0, zgt0, zLe0, nI_ltI, nI_leI, nI_eq, nI_add, nI_clamp, vp_in_nI, zup_s, zup_n, upd_s, upd_n, ne_eq, not_true_eq_false, not_false_eq_true] at hc <;> omega)
        | (intro hc; exact absurd rfl hc)
        | intro hc
        | apply And.intro
        | exact hQ
        | (show Q _ (SH, _); simp (disch := first | omega | decide) only [hm, h3, h1, h2, z10, zcn, zkpl, zki, zki1, zk8, zk16, zo32, zlt0, zle0, zeq0, zgt0, zLe0, nI_ltI, nI_leI, nI_eq, nI_add, nI_clamp, vp_in_nI, zup_s, zup_n, upd_s, upd_n, ne_eq, not_true_eq_false, not_false_eq_true]; exact hQ)
        | exact Or.inl rfl
        | exact Or.inr rfl
        | (show (_ : Int32) = 0 ∨ _ = 1; simp (disch := first | omega | decide) only [hm, h3, h1, h2, z10, zcn, zkpl, zki, zki1, zk8, zk16, zo32, zlt0, zle0, zeq0, zgt0, zLe0, nI_ltI, nI_leI, nI_eq, nI_add, nI_clamp, vp_in_nI, zup_s, zup_n, upd_s, upd_n, ne_eq, not_true_eq_false, not_false_eq_true, zeq1, true_or, or_true]; done))
    · have h1 : (m 33 t = nI 3) = False := eq_false h3
      refine zgo 40 [90] ?_
      repeat' (first
        | (show vp_in _ _; simp (disch := first | omega | decide) only [hm, h1, z10, zcn, zkpl, zki, zki1, zk8, zk16, zo32, zlt0, zle0, zeq0, zgt0, zLe0, nI_ltI, nI_leI, nI_eq, nI_add, nI_clamp, vp_in_nI, zup_s, zup_n, upd_s, upd_n, ne_eq, not_true_eq_false, not_false_eq_true]; done)
        | (intro hc; exfalso; simp (disch := first | omega | decide) only [hm, h1, z10, zcn, zkpl, zki, zki1, zk8, zk16, zo32, zlt0, zle0, zeq0, zgt0, zLe0, nI_ltI, nI_leI, nI_eq, nI_add, nI_clamp, vp_in_nI, zup_s, zup_n, upd_s, upd_n, ne_eq, not_true_eq_false, not_false_eq_true] at hc <;> omega)
        | (intro hc; exact absurd rfl hc)
        | intro hc
        | apply And.intro
        | exact hQ
        | (show Q _ (SH, _); simp (disch := first | omega | decide) only [hm, h1, z10, zcn, zkpl, zki, zki1, zk8, zk16, zo32, zlt0, zle0, zeq0, zgt0, zLe0, nI_ltI, nI_leI, nI_eq, nI_add, nI_clamp, vp_in_nI, zup_s, zup_n, upd_s, upd_n, ne_eq, not_true_eq_false, not_false_eq_true]; exact hQ)
        | exact Or.inl rfl
        | exact Or.inr rfl
        | (show (_ : Int32) = 0 ∨ _ = 1; simp (disch := first | omega | decide) only [hm, h1, z10, zcn, zkpl, zki, zki1, zk8, zk16, zo32, zlt0, zle0, zeq0, zgt0, zLe0, nI_ltI, nI_leI, nI_eq, nI_add, nI_clamp, vp_in_nI, zup_s, zup_n, upd_s, upd_n, ne_eq, not_true_eq_false, not_false_eq_true, zeq1, true_or, or_true]; done))
/-- the class's loop -/
theorem ct_down {m : zM} {i : Nat} {c nn : Int32} (hi : i < 20) (hd : m 14 8 = nI 1) (hcl : m 0 5 = c) (Q : zQ) (hQ : Q (some (.int c)) (SH, m)) : ZW 135 (0, 0, 0, 0) 23 [(2, .int (nI i)), (0, .ref 0), (1, .int nn)] [] (SH, m) Q := by
  subst hcl
  refine zgo 40 [53] ?_
  repeat' (first
    | (show vp_in _ _; simp (disch := first | omega | decide) only [hd, zcn, zkpl, zki, zki1, zk8, zk16, zo32, zlt0, zle0, zeq0, zgt0, zLe0, nI_ltI, nI_leI, nI_eq, nI_add, nI_clamp, vp_in_nI, zup_s, zup_n, upd_s, upd_n, ne_eq, not_true_eq_false, not_false_eq_true]; done)
    | (intro hc; exfalso; simp (disch := first | omega | decide) only [hd, zcn, zkpl, zki, zki1, zk8, zk16, zo32, zlt0, zle0, zeq0, zgt0, zLe0, nI_ltI, nI_leI, nI_eq, nI_add, nI_clamp, vp_in_nI, zup_s, zup_n, upd_s, upd_n, ne_eq, not_true_eq_false, not_false_eq_true] at hc <;> omega)
    | (intro hc; exact absurd rfl hc)
    | intro hc
    | apply And.intro
    | exact hQ
    | (show Q _ (SH, _); simp (disch := first | omega | decide) only [hd, zcn, zkpl, zki, zki1, zk8, zk16, zo32, zlt0, zle0, zeq0, zgt0, zLe0, nI_ltI, nI_leI, nI_eq, nI_add, nI_clamp, vp_in_nI, zup_s, zup_n, upd_s, upd_n, ne_eq, not_true_eq_false, not_false_eq_true]; exact hQ)
    | exact Or.inl rfl
    | exact Or.inr rfl
    | (show (_ : Int32) = 0 ∨ _ = 1; simp (disch := first | omega | decide) only [hd, zcn, zkpl, zki, zki1, zk8, zk16, zo32, zlt0, zle0, zeq0, zgt0, zLe0, nI_ltI, nI_leI, nI_eq, nI_add, nI_clamp, vp_in_nI, zup_s, zup_n, upd_s, upd_n, ne_eq, not_true_eq_false, not_false_eq_true, zeq1, true_or, or_true]; done))
theorem ct_end {m : zM} {c nn : Int32} (hcl : m 0 5 = c) (Q : zQ) (hQ : Q (some (.int c)) (SH, m)) : ZW 135 (0, 0, 0, 0) 23 [(2, .int (nI 20)), (0, .ref 0), (1, .int nn)] [] (SH, m) Q := by
  subst hcl
  refine zgo 40 [53] ?_
  repeat' (first
    | (show vp_in _ _; simp (disch := first | omega | decide) only [zcn, zkpl, zki, zki1, zk8, zk16, zo32, zlt0, zle0, zeq0, zgt0, zLe0, nI_ltI, nI_leI, nI_eq, nI_add, nI_clamp, vp_in_nI, zup_s, zup_n, upd_s, upd_n, ne_eq, not_true_eq_false, not_false_eq_true]; done)
    | (intro hc; exfalso; simp (disch := first | omega | decide) only [zcn, zkpl, zki, zki1, zk8, zk16, zo32, zlt0, zle0, zeq0, zgt0, zLe0, nI_ltI, nI_leI, nI_eq, nI_add, nI_clamp, vp_in_nI, zup_s, zup_n, upd_s, upd_n, ne_eq, not_true_eq_false, not_false_eq_true] at hc <;> omega)
    | (intro hc; exact absurd rfl hc)
    | intro hc
    | apply And.intro
    | exact hQ
    | (show Q _ (SH, _); simp (disch := first | omega | decide) only [zcn, zkpl, zki, zki1, zk8, zk16, zo32, zlt0, zle0, zeq0, zgt0, zLe0, nI_ltI, nI_leI, nI_eq, nI_add, nI_clamp, vp_in_nI, zup_s, zup_n, upd_s, upd_n, ne_eq, not_true_eq_false, not_false_eq_true]; exact hQ)
    | exact Or.inl rfl
    | exact Or.inr rfl
    | (show (_ : Int32) = 0 ∨ _ = 1; simp (disch := first | omega | decide) only [zcn, zkpl, zki, zki1, zk8, zk16, zo32, zlt0, zle0, zeq0, zgt0, zLe0, nI_ltI, nI_leI, nI_eq, nI_add, nI_clamp, vp_in_nI, zup_s, zup_n, upd_s, upd_n, ne_eq, not_true_eq_false, not_false_eq_true, zeq1, true_or, or_true]; done))
theorem ct_next {m : zM} {i : Nat} {nn : Int32} (hi : i < 20) {Q : zQ} (w : ZW 135 (0, 0, 0, 0) 23 [(2, .int (nI (i + 1))), (0, .ref 0), (1, .int nn)] [] (SH, m) Q) : ZW 135 (0, 0, 0, 0) 78 [(2, .int (nI i)), (0, .ref 0), (1, .int nn)] [] (SH, m) Q := by
  have e : nI i + Int32.ofInt 1 = nI (i + 1) := by rw [zki, nI_add]
  rw [← e] at w
  refine zgo 2 [] ?_
  exact w
theorem ct_no {m : zM} {i : Nat} {c nn : Int32} (hi : i < 20) (hd : m 14 8 = nI 0) (hcl : m 0 5 = c) (hE : Ev 98 [.ref 28, .int (nI i), .int c] m (some (.int 0)) m) {Q : zQ} (w : ZW 135 (0, 0, 0, 0) 23 [(2, .int (nI (i + 1))), (0, .ref 0), (1, .int nn)] [] (SH, m) Q) : ZW 135 (0, 0, 0, 0) 23 [(2, .int (nI i)), (0, .ref 0), (1, .int nn)] [] (SH, m) Q := by
  subst hcl
  have f1 : ZW 135 (0, 0, 0, 0) 54 [(2, .int (nI i)), (0, .ref 0), (1, .int nn)] [.int 0] (SH, m) Q := by
    refine zgo 1 [] ?_
    repeat' (first
      | (exact ct_next hi w)
      | (show vp_in _ _; simp (disch := first | omega | decide) only [zcn, zkpl, zki, zki1, zk8, zk16, zo32, zlt0, zle0, zeq0, zgt0, zLe0, nI_ltI, nI_leI, nI_eq, nI_add, nI_clamp, vp_in_nI, zup_s, zup_n, upd_s, upd_n, ne_eq, not_true_eq_false, not_false_eq_true]; done)
      | (intro hc; exfalso; simp (disch := first | omega | decide) only [zcn, zkpl, zki, zki1, zk8, zk16, zo32, zlt0, zle0, zeq0, zgt0, zLe0, nI_ltI, nI_leI, nI_eq, nI_add, nI_clamp, vp_in_nI, zup_s, zup_n, upd_s, upd_n, ne_eq, not_true_eq_false, not_false_eq_true] at hc <;> omega)
      | (intro hc; exact absurd rfl hc)
      | intro hc
      | apply And.intro
      | exact Or.inl rfl
      | exact Or.inr rfl
      | (show (_ : Int32) = 0 ∨ _ = 1; simp (disch := first | omega | decide) only [zcn, zkpl, zki, zki1, zk8, zk16, zo32, zlt0, zle0, zeq0, zgt0, zLe0, nI_ltI, nI_leI, nI_eq, nI_add, nI_clamp, vp_in_nI, zup_s, zup_n, upd_s, upd_n, ne_eq, not_true_eq_false, not_false_eq_true, zeq1, true_or, or_true]; done))
  refine zgo 40 [53] ?_
  repeat' (first
    | (exact hE.use f1)
    | (show vp_in _ _; simp (disch := first | omega | decide) only [hd, zcn, zkpl, zki, zki1, zk8, zk16, zo32, zlt0, zle0, zeq0, zgt0, zLe0, nI_ltI, nI_leI, nI_eq, nI_add, nI_clamp, vp_in_nI, zup_s, zup_n, upd_s, upd_n, ne_eq, not_true_eq_false, not_false_eq_true]; done)
    | (intro hc; exfalso; simp (disch := first | omega | decide) only [hd, zcn, zkpl, zki, zki1, zk8, zk16, zo32, zlt0, zle0, zeq0, zgt0, zLe0, nI_ltI, nI_leI, nI_eq, nI_add, nI_clamp, vp_in_nI, zup_s, zup_n, upd_s, upd_n, ne_eq, not_true_eq_false, not_false_eq_true] at hc <;> omega)
    | (intro hc; exact absurd rfl hc)
    | intro hc
    | apply And.intro
    | exact Or.inl rfl
    | exact Or.inr rfl
    | (show (_ : Int32) = 0 ∨ _ = 1; simp (disch := first | omega | decide) only [hd, zcn, zkpl, zki, zki1, zk8, zk16, zo32, zlt0, zle0, zeq0, zgt0, zLe0, nI_ltI, nI_leI, nI_eq, nI_add, nI_clamp, vp_in_nI, zup_s, zup_n, upd_s, upd_n, ne_eq, not_true_eq_false, not_false_eq_true, zeq1, true_or, or_true]; done))
theorem ct_due {m m2 : zM} {i : Nat} {c nn b : Int32} (hi : i < 20) (hd : m 14 8 = nI 0) (hcl : m 0 5 = c) (hE : Ev 98 [.ref 28, .int (nI i), .int c] m (some (.int 1)) m) (hW : Ev 60 [.ref 14, .int (nI 88), .int (nI i)] m (some (.int b)) m2) {Q : zQ} (w : ZW 135 (0, 0, 0, 0) 67 [(2, .int (nI i)), (0, .ref 0), (1, .int nn)] [.int b] (SH, m2) Q) : ZW 135 (0, 0, 0, 0) 23 [(2, .int (nI i)), (0, .ref 0), (1, .int nn)] [] (SH, m) Q := by
  subst hcl
  have f1 : ZW 135 (0, 0, 0, 0) 54 [(2, .int (nI i)), (0, .ref 0), (1, .int nn)] [.int 1] (SH, m) Q := by
    refine zgo 20 [] ?_
    repeat' (first
      | (exact hW.use w)
      | (show vp_in _ _; simp (disch := first | omega | decide) only [z10, zcn, zkpl, zki, zki1, zk8, zk16, zo32, zlt0, zle0, zeq0, zgt0, zLe0, nI_ltI, nI_leI, nI_eq, nI_add, nI_clamp, vp_in_nI, zup_s, zup_n, upd_s, upd_n, ne_eq, not_true_eq_false, not_false_eq_true]; done)
      | (intro hc; exfalso; simp (disch := first | omega | decide) only [z10, zcn, zkpl, zki, zki1, zk8, zk16, zo32, zlt0, zle0, zeq0, zgt0, zLe0, nI_ltI, nI_leI, nI_eq, nI_add, nI_clamp, vp_in_nI, zup_s, zup_n, upd_s, upd_n, ne_eq, not_true_eq_false, not_false_eq_true] at hc <;> omega)
      | (intro hc; exact absurd rfl hc)
      | intro hc
      | apply And.intro
      | exact Or.inl rfl
      | exact Or.inr rfl
      | (show (_ : Int32) = 0 ∨ _ = 1; simp (disch := first | omega | decide) only [z10, zcn, zkpl, zki, zki1, zk8, zk16, zo32, zlt0, zle0, zeq0, zgt0, zLe0, nI_ltI, nI_leI, nI_eq, nI_add, nI_clamp, vp_in_nI, zup_s, zup_n, upd_s, upd_n, ne_eq, not_true_eq_false, not_false_eq_true, zeq1, true_or, or_true]; done))
  refine zgo 40 [53] ?_
  repeat' (first
    | (exact hE.use f1)
    | (show vp_in _ _; simp (disch := first | omega | decide) only [hd, zcn, zkpl, zki, zki1, zk8, zk16, zo32, zlt0, zle0, zeq0, zgt0, zLe0, nI_ltI, nI_leI, nI_eq, nI_add, nI_clamp, vp_in_nI, zup_s, zup_n, upd_s, upd_n, ne_eq, not_true_eq_false, not_false_eq_true]; done)
    | (intro hc; exfalso; simp (disch := first | omega | decide) only [hd, zcn, zkpl, zki, zki1, zk8, zk16, zo32, zlt0, zle0, zeq0, zgt0, zLe0, nI_ltI, nI_leI, nI_eq, nI_add, nI_clamp, vp_in_nI, zup_s, zup_n, upd_s, upd_n, ne_eq, not_true_eq_false, not_false_eq_true] at hc <;> omega)
    | (intro hc; exact absurd rfl hc)
    | intro hc
    | apply And.intro
    | exact Or.inl rfl
    | exact Or.inr rfl
    | (show (_ : Int32) = 0 ∨ _ = 1; simp (disch := first | omega | decide) only [hd, zcn, zkpl, zki, zki1, zk8, zk16, zo32, zlt0, zle0, zeq0, zgt0, zLe0, nI_ltI, nI_leI, nI_eq, nI_add, nI_clamp, vp_in_nI, zup_s, zup_n, upd_s, upd_n, ne_eq, not_true_eq_false, not_false_eq_true, zeq1, true_or, or_true]; done))
theorem ct_ok {m m' : zM} {i : Nat} {nn : Int32} (hi : i < 20) (hR : Ev 25 [.ref 18, .int (nI i)] m none m') {Q : zQ} (w : ZW 135 (0, 0, 0, 0) 23 [(2, .int (nI (i + 1))), (0, .ref 0), (1, .int nn)] [] (SH, m') Q) : ZW 135 (0, 0, 0, 0) 67 [(2, .int (nI i)), (0, .ref 0), (1, .int nn)] [.int 1] (SH, m) Q := by
  refine zgo 20 [] ?_
  repeat' (first
    | (exact hR.use (ct_next hi w))
    | (show vp_in _ _; simp (disch := first | omega | decide) only [z10, zcn, zkpl, zki, zki1, zk8, zk16, zo32, zlt0, zle0, zeq0, zgt0, zLe0, nI_ltI, nI_leI, nI_eq, nI_add, nI_clamp, vp_in_nI, zup_s, zup_n, upd_s, upd_n, ne_eq, not_true_eq_false, not_false_eq_true]; done)
    | (intro hc; exfalso; simp (disch := first | omega | decide) only [z10, zcn, zkpl, zki, zki1, zk8, zk16, zo32, zlt0, zle0, zeq0, zgt0, zLe0, nI_ltI, nI_leI, nI_eq, nI_add, nI_clamp, vp_in_nI, zup_s, zup_n, upd_s, upd_n, ne_eq, not_true_eq_false, not_false_eq_true] at hc <;> omega)
    | (intro hc; exact absurd rfl hc)
    | intro hc
    | apply And.intro
    | exact Or.inl rfl
    | exact Or.inr rfl
    | (show (_ : Int32) = 0 ∨ _ = 1; simp (disch := first | omega | decide) only [z10, zcn, zkpl, zki, zki1, zk8, zk16, zo32, zlt0, zle0, zeq0, zgt0, zLe0, nI_ltI, nI_leI, nI_eq, nI_add, nI_clamp, vp_in_nI, zup_s, zup_n, upd_s, upd_n, ne_eq, not_true_eq_false, not_false_eq_true, zeq1, true_or, or_true]; done))
theorem ct_fl {m : zM} {i : Nat} {nn : Int32} (hi : i < 20) {Q : zQ} (w : ZW 135 (0, 0, 0, 0) 23 [(2, .int (nI (i + 1))), (0, .ref 0), (1, .int nn)] [] (SH, m) Q) : ZW 135 (0, 0, 0, 0) 67 [(2, .int (nI i)), (0, .ref 0), (1, .int nn)] [.int 0] (SH, m) Q := by
  refine zgo 1 [] ?_
  repeat' (first
    | (exact ct_next hi w)
    | (show vp_in _ _; simp (disch := first | omega | decide) only [zcn, zkpl, zki, zki1, zk8, zk16, zo32, zlt0, zle0, zeq0, zgt0, zLe0, nI_ltI, nI_leI, nI_eq, nI_add, nI_clamp, vp_in_nI, zup_s, zup_n, upd_s, upd_n, ne_eq, not_true_eq_false, not_false_eq_true]; done)
    | (intro hc; exfalso; simp (disch := first | omega | decide) only [zcn, zkpl, zki, zki1, zk8, zk16, zo32, zlt0, zle0, zeq0, zgt0, zLe0, nI_ltI, nI_leI, nI_eq, nI_add, nI_clamp, vp_in_nI, zup_s, zup_n, upd_s, upd_n, ne_eq, not_true_eq_false, not_false_eq_true] at hc <;> omega)
    | (intro hc; exact absurd rfl hc)
    | intro hc
    | apply And.intro
    | exact Or.inl rfl
    | exact Or.inr rfl
    | (show (_ : Int32) = 0 ∨ _ = 1; simp (disch := first | omega | decide) only [zcn, zkpl, zki, zki1, zk8, zk16, zo32, zlt0, zle0, zeq0, zgt0, zLe0, nI_ltI, nI_leI, nI_eq, nI_add, nI_clamp, vp_in_nI, zup_s, zup_n, upd_s, upd_n, ne_eq, not_true_eq_false, not_false_eq_true, zeq1, true_or, or_true]; done))
theorem ct_tail {m : zM} {nT : Nat} {c nn : Int32} (hn : nT ≤ 20) (hm : m 28 6 = nI nT) (hd : m 14 8 = nI 0) (hcl : m 0 5 = c) (Q : zQ) (hQ : Q (some (.int c)) (SH, m)) : ∀ (k i : Nat), i + k = 20 → nT ≤ i → ZW 135 (0, 0, 0, 0) 23 [(2, .int (nI i)), (0, .ref 0), (1, .int nn)] [] (SH, m) Q := by
  intro k
  induction k with
  | zero =>
    intro i hi hni
    obtain rfl : i = 20 := by omega
    exact ct_end hcl Q hQ
  | succ k ih =>
    intro i hi hni
    exact ct_no (by omega) hd hcl (ev_due0 c hm hn (by omega) (Or.inl hni)) (ih (i + 1) (by omega) (by omega))
/-- the model's loop -/
def tL (nn : Int32) (R : zLs) : Prop := R = [(0, .ref 42), (1, .int nn)] ∨ ∃ y, R = [(3, .int y), (0, .ref 42), (1, .int nn)]
theorem mt_end {e : zM} {nT i : Nat} {c nn : Int32} {R : zLs} (hR : tL nn R) (hn : nT ≤ 20) (hm : e 42 45 = nI nT) (hcl : e 42 2 = c) (hx : i = nT ∨ (i < nT ∧ e 42 3 = nI 1)) (Q : zQ) (hQ : Q (some (.int c)) (SH, e)) : ZW 206 (0, 0, 0, 0) 27 ((2, .int (nI i)) :: R) [] (SH, e) Q := by
  subst hcl
  rcases hR with rfl | ⟨y, rfl⟩
  · rcases hx with rfl | ⟨h1, h2⟩
    · refine zgo 40 [] ?_
      repeat' (first
        | (show vp_in _ _; simp (disch := first | omega | decide) only [hm, zcn, zkpl, zki, zki1, zk8, zk16, zo32, zlt0, zle0, zeq0, zgt0, zLe0, nI_ltI, nI_leI, nI_eq, nI_add, nI_clamp, vp_in_nI, zup_s, zup_n, upd_s, upd_n, ne_eq, not_true_eq_false, not_false_eq_true]; done)
        | (intro hc; exfalso; simp (disch := first | omega | decide) only [hm, zcn, zkpl, zki, zki1, zk8, zk16, zo32, zlt0, zle0, zeq0, zgt0, zLe0, nI_ltI, nI_leI, nI_eq, nI_add, nI_clamp, vp_in_nI, zup_s, zup_n, upd_s, upd_n, ne_eq, not_true_eq_false, not_false_eq_true] at hc <;> omega)
        | (intro hc; exact absurd rfl hc)
        | intro hc
        | apply And.intro
        | exact hQ
        | (show Q _ (SH, _); simp (disch := first | omega | decide) only [hm, zcn, zkpl, zki, zki1, zk8, zk16, zo32, zlt0, zle0, zeq0, zgt0, zLe0, nI_ltI, nI_leI, nI_eq, nI_add, nI_clamp, vp_in_nI, zup_s, zup_n, upd_s, upd_n, ne_eq, not_true_eq_false, not_false_eq_true]; exact hQ)
        | exact Or.inl rfl
        | exact Or.inr rfl
        | (show (_ : Int32) = 0 ∨ _ = 1; simp (disch := first | omega | decide) only [hm, zcn, zkpl, zki, zki1, zk8, zk16, zo32, zlt0, zle0, zeq0, zgt0, zLe0, nI_ltI, nI_leI, nI_eq, nI_add, nI_clamp, vp_in_nI, zup_s, zup_n, upd_s, upd_n, ne_eq, not_true_eq_false, not_false_eq_true, zeq1, true_or, or_true]; done))
    · refine zgo 40 [] ?_
      repeat' (first
        | (show vp_in _ _; simp (disch := first | omega | decide) only [hm, h2, zcn, zkpl, zki, zki1, zk8, zk16, zo32, zlt0, zle0, zeq0, zgt0, zLe0, nI_ltI, nI_leI, nI_eq, nI_add, nI_clamp, vp_in_nI, zup_s, zup_n, upd_s, upd_n, ne_eq, not_true_eq_false, not_false_eq_true]; done)
        | (intro hc; exfalso; simp (disch := first | omega | decide) only [hm, h2, zcn, zkpl, zki, zki1, zk8, zk16, zo32, zlt0, zle0, zeq0, zgt0, zLe0, nI_ltI, nI_leI, nI_eq, nI_add, nI_clamp, vp_in_nI, zup_s, zup_n, upd_s, upd_n, ne_eq, not_true_eq_false, not_false_eq_true] at hc <;> omega)
        | (intro hc; exact absurd rfl hc)
        | intro hc
        | apply And.intro
        | exact hQ
        | (show Q _ (SH, _); simp (disch := first | omega | decide) only [hm, h2, zcn, zkpl, zki, zki1, zk8, zk16, zo32, zlt0, zle0, zeq0, zgt0, zLe0, nI_ltI, nI_leI, nI_eq, nI_add, nI_clamp, vp_in_nI, zup_s, zup_n, upd_s, upd_n, ne_eq, not_true_eq_false, not_false_eq_true]; exact hQ)
        | exact Or.inl rfl
        | exact Or.inr rfl
        | (show (_ : Int32) = 0 ∨ _ = 1; simp (disch := first | omega | decide) only [hm, h2, zcn, zkpl, zki, zki1, zk8, zk16, zo32, zlt0, zle0, zeq0, zgt0, zLe0, nI_ltI, nI_leI, nI_eq, nI_add, nI_clamp, vp_in_nI, zup_s, zup_n, upd_s, upd_n, ne_eq, not_true_eq_false, not_false_eq_true, zeq1, true_or, or_true]; done))
  · rcases hx with rfl | ⟨h1, h2⟩
    · refine zgo 40 [] ?_
      repeat' (first
        | (show vp_in _ _; simp (disch := first | omega | decide) only [hm, zcn, zkpl, zki, zki1, zk8, zk16, zo32, zlt0, zle0, zeq0, zgt0, zLe0, nI_ltI, nI_leI, nI_eq, nI_add, nI_clamp, vp_in_nI, zup_s, zup_n, upd_s, upd_n, ne_eq, not_true_eq_false, not_false_eq_true]; done)
        | (intro hc; exfalso; simp (disch := first | omega | decide) only [hm, zcn, zkpl, zki, zki1, zk8, zk16, zo32, zlt0, zle0, zeq0, zgt0, zLe0, nI_ltI, nI_leI, nI_eq, nI_add, nI_clamp, vp_in_nI, zup_s, zup_n, upd_s, upd_n, ne_eq, not_true_eq_false, not_false_eq_true] at hc <;> omega)
        | (intro hc; exact absurd rfl hc)
        | intro hc
        | apply And.intro
        | exact hQ
        | (show Q _ (SH, _); simp (disch := first | omega | decide) only [hm, zcn, zkpl, zki, zki1, zk8, zk16, zo32, zlt0, zle0, zeq0, zgt0, zLe0, nI_ltI, nI_leI, nI_eq, nI_add, nI_clamp, vp_in_nI, zup_s, zup_n, upd_s, upd_n, ne_eq, not_true_eq_false, not_false_eq_true]; exact hQ)
        | exact Or.inl rfl
        | exact Or.inr rfl
        | (show (_ : Int32) = 0 ∨ _ = 1; simp (disch := first | omega | decide) only [hm, zcn, zkpl, zki, zki1, zk8, zk16, zo32, zlt0, zle0, zeq0, zgt0, zLe0, nI_ltI, nI_leI, nI_eq, nI_add, nI_clamp, vp_in_nI, zup_s, zup_n, upd_s, upd_n, ne_eq, not_true_eq_false, not_false_eq_true, zeq1, true_or, or_true]; done))
    · refine zgo 40 [] ?_
      repeat' (first
        | (show vp_in _ _; simp (disch := first | omega | decide) only [hm, h2, zcn, zkpl, zki, zki1, zk8, zk16, zo32, zlt0, zle0, zeq0, zgt0, zLe0, nI_ltI, nI_leI, nI_eq, nI_add, nI_clamp, vp_in_nI, zup_s, zup_n, upd_s, upd_n, ne_eq, not_true_eq_false, not_false_eq_true]; done)
        | (intro hc; exfalso; simp (disch := first | omega | decide) only [hm, h2, zcn, zkpl, zki, zki1, zk8, zk16, zo32, zlt0, zle0, zeq0, zgt0, zLe0, nI_ltI, nI_leI, nI_eq, nI_add, nI_clamp, vp_in_nI, zup_s, zup_n, upd_s, upd_n, ne_eq, not_true_eq_false, not_false_eq_true] at hc <;> omega)
        | (intro hc; exact absurd rfl hc)
        | intro hc
        | apply And.intro
        | exact hQ
        | (show Q _ (SH, _); simp (disch := first | omega | decide) only [hm, h2, zcn, zkpl, zki, zki1, zk8, zk16, zo32, zlt0, zle0, zeq0, zgt0, zLe0, nI_ltI, nI_leI, nI_eq, nI_add, nI_clamp, vp_in_nI, zup_s, zup_n, upd_s, upd_n, ne_eq, not_true_eq_false, not_false_eq_true]; exact hQ)
        | exact Or.inl rfl
        | exact Or.inr rfl
        | (show (_ : Int32) = 0 ∨ _ = 1; simp (disch := first | omega | decide) only [hm, h2, zcn, zkpl, zki, zki1, zk8, zk16, zo32, zlt0, zle0, zeq0, zgt0, zLe0, nI_ltI, nI_leI, nI_eq, nI_add, nI_clamp, vp_in_nI, zup_s, zup_n, upd_s, upd_n, ne_eq, not_true_eq_false, not_false_eq_true, zeq1, true_or, or_true]; done))
theorem mt_no {e : zM} {nT i : Nat} {c nn : Int32} {R : zLs} (hR : tL nn R) (hn : nT ≤ 20) (hi : i < nT) (hm : e 42 45 = nI nT) (hd : e 42 3 = nI 0) (hcl : e 42 2 = c) (hx : ¬ e 64 i = nI 3 ∨ ¬ e 65 i ≤ c) {Q : zQ} (w : ZW 206 (0, 0, 0, 0) 27 ((2, .int (nI (i + 1))) :: R) [] (SH, e) Q) : ZW 206 (0, 0, 0, 0) 27 ((2, .int (nI i)) :: R) [] (SH, e) Q := by
  have e1 : nI i + Int32.ofInt 1 = nI (i + 1) := by rw [zki, nI_add]
  rw [← e1] at w
  subst hcl
  by_cases h3 : e 64 i = nI 3
  · have h5 : ¬ e 65 i ≤ e 42 2 := by
      rcases hx with h | h
      · exact absurd h3 h
      · exact h
    have g1 : (e 65 i ≤ e 42 2) = False := eq_false h5
    have g2 : (e 42 2 < e 65 i) = True := eq_true (Int32.not_le.mp h5)
    rcases hR with rfl | ⟨y, rfl⟩
    · refine zgo 40 [] ?_
      repeat' (first
        | (exact w)
        | (show vp_in _ _; simp (disch := first | omega | decide) only [hm, hd, h3, g1, g2, zcn, zkpl, zki, zki1, zk8, zk16, zo32, zlt0, zle0, zeq0, zgt0, zLe0, nI_ltI, nI_leI, nI_eq, nI_add, nI_clamp, vp_in_nI, zup_s, zup_n, upd_s, upd_n, ne_eq, not_true_eq_false, not_false_eq_true]; done)
        | (intro hc; exfalso; simp (disch := first | omega | decide) only [hm, hd, h3, g1, g2, zcn, zkpl, zki, zki1, zk8, zk16, zo32, zlt0, zle0, zeq0, zgt0, zLe0, nI_ltI, nI_leI, nI_eq, nI_add, nI_clamp, vp_in_nI, zup_s, zup_n, upd_s, upd_n, ne_eq, not_true_eq_false, not_false_eq_true] at hc <;> omega)
        | (intro hc; exact absurd rfl hc)
        | intro hc
        | apply And.intro
        | exact Or.inl rfl
        | exact Or.inr rfl
        | (show (_ : Int32) = 0 ∨ _ = 1; simp (disch := first | omega | decide) only [hm, hd, h3, g1, g2, zcn, zkpl, zki, zki1, zk8, zk16, zo32, zlt0, zle0, zeq0, zgt0, zLe0, nI_ltI, nI_leI, nI_eq, nI_add, nI_clamp, vp_in_nI, zup_s, zup_n, upd_s, upd_n, ne_eq, not_true_eq_false, not_false_eq_true, zeq1, true_or, or_true]; done))
    · refine zgo 40 [] ?_
      repeat' (first
        | (exact w)
        | (show vp_in _ _; simp (disch := first | omega | decide) only [hm, hd, h3, g1, g2, zcn, zkpl, zki, zki1, zk8, zk16, zo32, zlt0, zle0, zeq0, zgt0, zLe0, nI_ltI, nI_leI, nI_eq, nI_add, nI_clamp, vp_in_nI, zup_s, zup_n, upd_s, upd_n, ne_eq, not_true_eq_false, not_false_eq_true]; done)
        | (intro hc; exfalso; simp (disch := first | omega | decide) only [hm, hd, h3, g1, g2, zcn, zkpl, zki, zki1, zk8, zk16, zo32, zlt0, zle0, zeq0, zgt0, zLe0, nI_ltI, nI_leI, nI_eq, nI_add, nI_clamp, vp_in_nI, zup_s, zup_n, upd_s, upd_n, ne_eq, not_true_eq_false, not_false_eq_true] at hc <;> omega)
        | (intro hc; exact absurd rfl hc)
        | intro hc
        | apply And.intro
        | exact Or.inl rfl
        | exact Or.inr rfl
        | (show (_ : Int32) = 0 ∨ _ = 1; simp (disch := first | omega | decide) only [hm, hd, h3, g1, g2, zcn, zkpl, zki, zki1, zk8, zk16, zo32, zlt0, zle0, zeq0, zgt0, zLe0, nI_ltI, nI_leI, nI_eq, nI_add, nI_clamp, vp_in_nI, zup_s, zup_n, upd_s, upd_n, ne_eq, not_true_eq_false, not_false_eq_true, zeq1, true_or, or_true]; done))
  · have g1 : (e 64 i = nI 3) = False := eq_false h3
    rcases hR with rfl | ⟨y, rfl⟩
    · refine zgo 40 [] ?_
      repeat' (first
        | (exact w)
        | (show vp_in _ _; simp (disch := first | omega | decide) only [hm, hd, g1, zcn, zkpl, zki, zki1, zk8, zk16, zo32, zlt0, zle0, zeq0, zgt0, zLe0, nI_ltI, nI_leI, nI_eq, nI_add, nI_clamp, vp_in_nI, zup_s, zup_n, upd_s, upd_n, ne_eq, not_true_eq_false, not_false_eq_true]; done)
        | (intro hc; exfalso; simp (disch := first | omega | decide) only [hm, hd, g1, zcn, zkpl, zki, zki1, zk8, zk16, zo32, zlt0, zle0, zeq0, zgt0, zLe0, nI_ltI, nI_leI, nI_eq, nI_add, nI_clamp, vp_in_nI, zup_s, zup_n, upd_s, upd_n, ne_eq, not_true_eq_false, not_false_eq_true] at hc <;> omega)
        | (intro hc; exact absurd rfl hc)
        | intro hc
        | apply And.intro
        | exact Or.inl rfl
        | exact Or.inr rfl
        | (show (_ : Int32) = 0 ∨ _ = 1; simp (disch := first | omega | decide) only [hm, hd, g1, zcn, zkpl, zki, zki1, zk8, zk16, zo32, zlt0, zle0, zeq0, zgt0, zLe0, nI_ltI, nI_leI, nI_eq, nI_add, nI_clamp, vp_in_nI, zup_s, zup_n, upd_s, upd_n, ne_eq, not_true_eq_false, not_false_eq_true, zeq1, true_or, or_true]; done))
    · refine zgo 40 [] ?_
      repeat' (first
        | (exact w)
        | (show vp_in _ _; simp (disch := first | omega | decide) only [hm, hd, g1, zcn, zkpl, zki, zki1, zk8, zk16, zo32, zlt0, zle0, zeq0, zgt0, zLe0, nI_ltI, nI_leI, nI_eq, nI_add, nI_clamp, vp_in_nI, zup_s, zup_n, upd_s, upd_n, ne_eq, not_true_eq_false, not_false_eq_true]; done)
        | (intro hc; exfalso; simp (disch := first | omega | decide) only [hm, hd, g1, zcn, zkpl, zki, zki1, zk8, zk16, zo32, zlt0, zle0, zeq0, zgt0, zLe0, nI_ltI, nI_leI, nI_eq, nI_add, nI_clamp, vp_in_nI, zup_s, zup_n, upd_s, upd_n, ne_eq, not_true_eq_false, not_false_eq_true] at hc <;> omega)
        | (intro hc; exact absurd rfl hc)
        | intro hc
        | apply And.intro
        | exact Or.inl rfl
        | exact Or.inr rfl
        | (show (_ : Int32) = 0 ∨ _ = 1; simp (disch := first | omega | decide) only [hm, hd, g1, zcn, zkpl, zki, zki1, zk8, zk16, zo32, zlt0, zle0, zeq0, zgt0, zLe0, nI_ltI, nI_leI, nI_eq, nI_add, nI_clamp, vp_in_nI, zup_s, zup_n, upd_s, upd_n, ne_eq, not_true_eq_false, not_false_eq_true, zeq1, true_or, or_true]; done))
theorem zup_id {m : zM} {a k : Nat} {x : Int32} (h : m a k = x) : zup m a k x = m := by
  funext b j
  by_cases e : b = a
  · subst e
    rw [zup_s]
    by_cases ej : j = k
    · subst ej
      rw [upd_s, h]
    · rw [upd_n _ ej]
  · rw [zup_n _ e]
theorem mt_due {e e' : zM} {nT i : Nat} {c nn b : Int32} {R : zLs} (hR : tL nn R) (hn : nT ≤ 20) (hi : i < nT) (hm : e 42 45 = nI nT) (hd : e 42 3 = nI 0) (hcl : e 42 2 = c) (h3 : e 64 i = nI 3) (h5 : e 65 i ≤ c) (hE : Ev 191 [.ref 42, .int (nI 88), .int (nI i)] e (some (.int b)) e') (hb : (b = 1 ∧ e' 42 3 = nI 0) ∨ (b = 0 ∧ e' 42 3 = nI 1)) {Q : zQ} (w : ZW 206 (0, 0, 0, 0) 27 [(2, .int (nI (i + 1))), (3, .int b), (0, .ref 42), (1, .int nn)] [] (SH, e') Q) : ZW 206 (0, 0, 0, 0) 27 ((2, .int (nI i)) :: R) [] (SH, e) Q := by
  have e1 : nI i + Int32.ofInt 1 = nI (i + 1) := by rw [zki, nI_add]
  rw [← e1] at w
  subst hcl
  have g1 : (e 65 i ≤ e 42 2) = True := eq_true h5
  have g2 : (e 42 2 < e 65 i) = False := eq_false (Int32.not_lt.mpr h5)
  have fin : ∀ R : zLs, tL nn R → ZW 206 (0, 0, 0, 0) 72 ((2, .int (nI i)) :: R) [.int b] (SH, e') Q := by
    intro R hR
    rcases hb with ⟨rfl, hb⟩ | ⟨rfl, hb⟩
    · have ez : zup e' 42 3 0 = e' := zup_id hb
      rcases hR with rfl | ⟨y, rfl⟩
      · refine zgo 40 [] ?_
        repeat' (first
          | (exact zcg ez w)
          | (show vp_in _ _; simp (disch := first | omega | decide) only [hb, z10, zcn, zkpl, zki, zki1, zk8, zk16, zo32, zlt0, zle0, zeq0, zgt0, zLe0, nI_ltI, nI_leI, nI_eq, nI_add, nI_clamp, vp_in_nI, zup_s, zup_n, upd_s, upd_n, ne_eq, not_true_eq_false, not_false_eq_true]; done)
          | (intro hc; exfalso; simp (disch := first | omega | decide) only [hb, z10, zcn, zkpl, zki, zki1, zk8, zk16, zo32, zlt0, zle0, zeq0, zgt0, zLe0, nI_ltI, nI_leI, nI_eq, nI_add, nI_clamp, vp_in_nI, zup_s, zup_n, upd_s, upd_n, ne_eq, not_true_eq_false, not_false_eq_true] at hc <;> omega)
          | (intro hc; exact absurd rfl hc)
          | intro hc
          | apply And.intro
          | exact Or.inl rfl
          | exact Or.inr rfl
          | (show (_ : Int32) = 0 ∨ _ = 1; simp (disch := first | omega | decide) only [hb, z10, zcn, zkpl, zki, zki1, zk8, zk16, zo32, zlt0, zle0, zeq0, zgt0, zLe0, nI_ltI, nI_leI, nI_eq, nI_add, nI_clamp, vp_in_nI, zup_s, zup_n, upd_s, upd_n, ne_eq, not_true_eq_false, not_false_eq_true, zeq1, true_or, or_true]; done))
      · refine zgo 40 [] ?_
        repeat' (first
          | (exact zcg ez w)
          | (show vp_in _ _; simp (disch := first | omega | decide) only [hb, z10, zcn, zkpl, zki, zki1, zk8, zk16, zo32, zlt0, zle0, zeq0, zgt0, zLe0, nI_ltI, nI_leI, nI_eq, nI_add, nI_clamp, vp_in_nI, zup_s, zup_n, upd_s, upd_n, ne_eq, not_true_eq_false, not_false_eq_true]; done)
          | (intro hc; exfalso; simp (disch := first | omega | decide) only [hb, z10, zcn, zkpl, zki, zki1, zk8, zk16, zo32, zlt0, zle0, zeq0, zgt0, zLe0, nI_ltI, nI_leI, nI_eq, nI_add, nI_clamp, vp_in_nI, zup_s, zup_n, upd_s, upd_n, ne_eq, not_true_eq_false, not_false_eq_true] at hc <;> omega)
          | (intro hc; exact absurd rfl hc)
          | intro hc
          | apply And.intro
          | exact Or.inl rfl
          | exact Or.inr rfl
          | (show (_ : Int32) = 0 ∨ _ = 1; simp (disch := first | omega | decide) only [hb, z10, zcn, zkpl, zki, zki1, zk8, zk16, zo32, zlt0, zle0, zeq0, zgt0, zLe0, nI_ltI, nI_leI, nI_eq, nI_add, nI_clamp, vp_in_nI, zup_s, zup_n, upd_s, upd_n, ne_eq, not_true_eq_false, not_false_eq_true, zeq1, true_or, or_true]; done))
    · have ez : zup e' 42 3 1 = e' := zup_id hb
      rcases hR with rfl | ⟨y, rfl⟩
      · refine zgo 40 [] ?_
        repeat' (first
          | (exact zcg ez w)
          | (show vp_in _ _; simp (disch := first | omega | decide) only [hb, z10, zcn, zkpl, zki, zki1, zk8, zk16, zo32, zlt0, zle0, zeq0, zgt0, zLe0, nI_ltI, nI_leI, nI_eq, nI_add, nI_clamp, vp_in_nI, zup_s, zup_n, upd_s, upd_n, ne_eq, not_true_eq_false, not_false_eq_true]; done)
          | (intro hc; exfalso; simp (disch := first | omega | decide) only [hb, z10, zcn, zkpl, zki, zki1, zk8, zk16, zo32, zlt0, zle0, zeq0, zgt0, zLe0, nI_ltI, nI_leI, nI_eq, nI_add, nI_clamp, vp_in_nI, zup_s, zup_n, upd_s, upd_n, ne_eq, not_true_eq_false, not_false_eq_true] at hc <;> omega)
          | (intro hc; exact absurd rfl hc)
          | intro hc
          | apply And.intro
          | exact Or.inl rfl
          | exact Or.inr rfl
          | (show (_ : Int32) = 0 ∨ _ = 1; simp (disch := first | omega | decide) only [hb, z10, zcn, zkpl, zki, zki1, zk8, zk16, zo32, zlt0, zle0, zeq0, zgt0, zLe0, nI_ltI, nI_leI, nI_eq, nI_add, nI_clamp, vp_in_nI, zup_s, zup_n, upd_s, upd_n, ne_eq, not_true_eq_false, not_false_eq_true, zeq1, true_or, or_true]; done))
      · refine zgo 40 [] ?_
        repeat' (first
          | (exact zcg ez w)
          | (show vp_in _ _; simp (disch := first | omega | decide) only [hb, z10, zcn, zkpl, zki, zki1, zk8, zk16, zo32, zlt0, zle0, zeq0, zgt0, zLe0, nI_ltI, nI_leI, nI_eq, nI_add, nI_clamp, vp_in_nI, zup_s, zup_n, upd_s, upd_n, ne_eq, not_true_eq_false, not_false_eq_true]; done)
          | (intro hc; exfalso; simp (disch := first | omega | decide) only [hb, z10, zcn, zkpl, zki, zki1, zk8, zk16, zo32, zlt0, zle0, zeq0, zgt0, zLe0, nI_ltI, nI_leI, nI_eq, nI_add, nI_clamp, vp_in_nI, zup_s, zup_n, upd_s, upd_n, ne_eq, not_true_eq_false, not_false_eq_true] at hc <;> omega)
          | (intro hc; exact absurd rfl hc)
          | intro hc
          | apply And.intro
          | exact Or.inl rfl
          | exact Or.inr rfl
          | (show (_ : Int32) = 0 ∨ _ = 1; simp (disch := first | omega | decide) only [hb, z10, zcn, zkpl, zki, zki1, zk8, zk16, zo32, zlt0, zle0, zeq0, zgt0, zLe0, nI_ltI, nI_leI, nI_eq, nI_add, nI_clamp, vp_in_nI, zup_s, zup_n, upd_s, upd_n, ne_eq, not_true_eq_false, not_false_eq_true, zeq1, true_or, or_true]; done))
  rcases hR with rfl | ⟨y, rfl⟩
  · refine zgo 40 [] ?_
    repeat' (first
      | (exact hE.use (fin _ (Or.inl rfl)))
      | (show vp_in _ _; simp (disch := first | omega | decide) only [hm, hd, h3, g1, g2, zcn, zkpl, zki, zki1, zk8, zk16, zo32, zlt0, zle0, zeq0, zgt0, zLe0, nI_ltI, nI_leI, nI_eq, nI_add, nI_clamp, vp_in_nI, zup_s, zup_n, upd_s, upd_n, ne_eq, not_true_eq_false, not_false_eq_true]; done)
      | (intro hc; exfalso; simp (disch := first | omega | decide) only [hm, hd, h3, g1, g2, zcn, zkpl, zki, zki1, zk8, zk16, zo32, zlt0, zle0, zeq0, zgt0, zLe0, nI_ltI, nI_leI, nI_eq, nI_add, nI_clamp, vp_in_nI, zup_s, zup_n, upd_s, upd_n, ne_eq, not_true_eq_false, not_false_eq_true] at hc <;> omega)
      | (intro hc; exact absurd rfl hc)
      | intro hc
      | apply And.intro
      | exact Or.inl rfl
      | exact Or.inr rfl
      | (show (_ : Int32) = 0 ∨ _ = 1; simp (disch := first | omega | decide) only [hm, hd, h3, g1, g2, zcn, zkpl, zki, zki1, zk8, zk16, zo32, zlt0, zle0, zeq0, zgt0, zLe0, nI_ltI, nI_leI, nI_eq, nI_add, nI_clamp, vp_in_nI, zup_s, zup_n, upd_s, upd_n, ne_eq, not_true_eq_false, not_false_eq_true, zeq1, true_or, or_true]; done))
  · refine zgo 40 [] ?_
    repeat' (first
      | (exact hE.use (fin _ (Or.inr ⟨y, rfl⟩)))
      | (show vp_in _ _; simp (disch := first | omega | decide) only [hm, hd, h3, g1, g2, zcn, zkpl, zki, zki1, zk8, zk16, zo32, zlt0, zle0, zeq0, zgt0, zLe0, nI_ltI, nI_leI, nI_eq, nI_add, nI_clamp, vp_in_nI, zup_s, zup_n, upd_s, upd_n, ne_eq, not_true_eq_false, not_false_eq_true]; done)
      | (intro hc; exfalso; simp (disch := first | omega | decide) only [hm, hd, h3, g1, g2, zcn, zkpl, zki, zki1, zk8, zk16, zo32, zlt0, zle0, zeq0, zgt0, zLe0, nI_ltI, nI_leI, nI_eq, nI_add, nI_clamp, vp_in_nI, zup_s, zup_n, upd_s, upd_n, ne_eq, not_true_eq_false, not_false_eq_true] at hc <;> omega)
      | (intro hc; exact absurd rfl hc)
      | intro hc
      | apply And.intro
      | exact Or.inl rfl
      | exact Or.inr rfl
      | (show (_ : Int32) = 0 ∨ _ = 1; simp (disch := first | omega | decide) only [hm, hd, h3, g1, g2, zcn, zkpl, zki, zki1, zk8, zk16, zo32, zlt0, zle0, zeq0, zgt0, zLe0, nI_ltI, nI_leI, nI_eq, nI_add, nI_clamp, vp_in_nI, zup_s, zup_n, upd_s, upd_n, ne_eq, not_true_eq_false, not_false_eq_true, zeq1, true_or, or_true]; done))
/-- both loops -/
theorem tick_loop {nT nM c : Nat} {nn : Int32} (hT : nT ≤ 20) : ∀ (k i : Nat) (m : zM) (J : Nat → Nat) (n W d nQ nR : Nat), i + k = nT → (∃ u, IX m u J n W d nT nQ nR nM) → m 0 5 = nI c → ∃ m' J' n' W' d' nQ' nR', (∀ a, a < 14 ∨ 42 ≤ a → m' a = m a) ∧ (∀ Q : zQ, Q (some (.int (nI c))) (SH, m') → ZW 135 (0, 0, 0, 0) 23 [(2, .int (nI i)), (0, .ref 0), (1, .int nn)] [] (SH, m) Q) ∧ ∀ e, IX m e J n W d nT nQ nR nM → e 42 2 = nI c → ∃ e', IX m' e' J' n' W' d' nT nQ' nR' nM ∧ frm e e' ∧ ∀ (Q : zQ) (R : zLs), tL nn R → Q (some (.int (nI c))) (SH, e') → ZW 206 (0, 0, 0, 0) 27 ((2, .int (nI i)) :: R) [] (SH, e) Q := by
  intro k
  induction k with
  | zero =>
    rintro i m J n W d nQ nR hi ⟨u, hI⟩ hcl
    obtain ⟨p1, p2, p3⟩ := hI.p
    refine ⟨m, J, n, W, d, nQ, nR, fun _ _ => rfl, fun Q hQ => ?_, fun e he hec => ⟨e, he, frm.rf e, fun Q R hR hQ => mt_end hR hT he.l.1.2.1 hec (Or.inl (by omega)) Q hQ⟩⟩
    obtain rfl | rfl : d = 0 ∨ d = 1 := by omega
    · exact ct_tail hT hI.l.1.1 p1 hcl Q hQ (20 - i) i (by omega) (by omega)
    · by_cases h20 : i < 20
      · exact ct_down h20 p1 hcl Q hQ
      · obtain rfl : i = 20 := by omega
        exact ct_end hcl Q hQ
  | succ k ih =>
    rintro i m J n W d nQ nR hi ⟨u, hI⟩ hcl
    obtain ⟨p1, p2, p3⟩ := hI.p
    obtain rfl | rfl : d = 0 ∨ d = 1 := by omega
    · obtain rfl := hI.w rfl
      have hrow : ∀ e, IX m e J W W 0 nT nQ nR nM → e 64 i = m 33 i ∧ e 65 i = m 34 i := fun e he => ⟨(he.l.2.2.2.2.1 i (by omega)).2.2.2.1, (he.l.2.2.2.2.1 i (by omega)).2.2.2.2.1⟩
      by_cases hdue : m 33 i = nI 3 ∧ m 34 i ≤ nI c
      · rcases ex_both hI (show i < nT by omega) hdue.1 with ⟨m2, m1, nQ1, e1, e2, e3, e4⟩ | ⟨m2, cc, e1, e3, e4⟩
        · obtain ⟨u1, -, hI1, -⟩ := e4 u hI
          obtain ⟨m', J', n', W', d', nQ', nR', g1, g2, g3⟩ := ih (i + 1) m1 _ _ _ _ _ _ (by omega) ⟨u1, hI1⟩ (by rw [e3 0 (by omega), hcl])
          refine ⟨m', J', n', W', d', nQ', nR', fun a ha => by rw [g1 a ha, e3 a ha], fun Q hQ => ?_, fun e he hec => ?_⟩
          · exact ct_due (by omega) p1 hcl (ev_due1 (nI c) hI.l.1.1 hT (by omega) hdue.1 hdue.2) e1 (ct_ok (by omega) e2 (g2 Q hQ))
          · obtain ⟨x1, x2, x3, x4⟩ := e4 e he
            obtain ⟨e', y1, y2, y3⟩ := g3 x1 x3 (by rw [x4.2.1, hec])
            refine ⟨e', y1, x4.tr y2, fun Q R hR hQ => mt_due hR hT (by omega) he.l.1.2.1 he.p.2.1 hec (by rw [(hrow e he).1, hdue.1]) (by rw [(hrow e he).2]; exact hdue.2) x2 (Or.inl ⟨rfl, x3.p.2.1⟩) (y3 Q _ (Or.inr ⟨1, rfl⟩) hQ)⟩
        · obtain ⟨u1, -, hI1, -⟩ := e4 u hI
          obtain ⟨m', J', n', W', d', nQ', nR', g1, g2, g3⟩ := ih (i + 1) m2 _ _ _ _ _ _ (by omega) ⟨u1, hI1⟩ (by rw [e3 0 (by omega), hcl])
          refine ⟨m', J', n', W', d', nQ', nR', fun a ha => by rw [g1 a ha, e3 a ha], fun Q hQ => ?_, fun e he hec => ?_⟩
          · exact ct_due (by omega) p1 hcl (ev_due1 (nI c) hI.l.1.1 hT (by omega) hdue.1 hdue.2) e1 (ct_fl (by omega) (g2 Q hQ))
          · obtain ⟨x1, x2, x3, x4⟩ := e4 e he
            obtain ⟨e', y1, y2, y3⟩ := g3 x1 x3 (by rw [x4.2.1, hec])
            refine ⟨e', y1, x4.tr y2, fun Q R hR hQ => mt_due hR hT (by omega) he.l.1.2.1 he.p.2.1 hec (by rw [(hrow e he).1, hdue.1]) (by rw [(hrow e he).2]; exact hdue.2) x2 (Or.inr ⟨rfl, x3.p.2.1⟩) (y3 Q _ (Or.inr ⟨0, rfl⟩) hQ)⟩
      · have hor : ¬ m 33 i = nI 3 ∨ ¬ m 34 i ≤ nI c := by
          by_cases g : m 33 i = nI 3
          · exact Or.inr (fun g2 => hdue ⟨g, g2⟩)
          · exact Or.inl g
        obtain ⟨m', J', n', W', d', nQ', nR', g1, g2, g3⟩ := ih (i + 1) m _ _ _ _ _ _ (by omega) ⟨u, hI⟩ hcl
        refine ⟨m', J', n', W', d', nQ', nR', g1, fun Q hQ => ?_, fun e he hec => ?_⟩
        · exact ct_no (by omega) p1 hcl (ev_due0 (nI c) hI.l.1.1 hT (by omega) (Or.inr hor)) (g2 Q hQ)
        · obtain ⟨e', y1, y2, y3⟩ := g3 e he hec
          refine ⟨e', y1, y2, fun Q R hR hQ => mt_no hR hT (by omega) he.l.1.2.1 he.p.2.1 hec (by rw [(hrow e he).1, (hrow e he).2]; exact hor) (y3 Q R hR hQ)⟩
    · refine ⟨m, J, n, W, 1, nQ, nR, fun _ _ => rfl, fun Q hQ => ct_down (by omega) p1 hcl Q hQ, fun e he hec => ⟨e, he, frm.rf e, fun Q R hR hQ => mt_end hR hT he.l.1.2.1 hec (Or.inr ⟨by omega, he.p.2.1⟩) Q hQ⟩⟩
theorem IX_clk {m : zM} {J : Nat → Nat} {n W d nT nQ nR nM : Nat} {x : Int32} (h : IX m m J n W d nT nQ nR nM) : IX (zup m 0 5 x) (zup (zup m 0 5 x) 42 2 x) J n W d nT nQ nR nM := by
  have hm' : ∀ a, 18 ≤ a → a ≤ 41 → a ≠ 40 → zup m 0 5 x a = m a := fun a g1 g2 g3 => by rw [zup_n _ (by omega)]
  obtain ⟨h1, h2, h3, h4, h5, h6, h7, h8, h9, h10⟩ := h
  refine ⟨?_, ?_, ?_, lR_congr h4 hm' (fun a g1 g2 => by rw [zup_n _ (by omega), zup_n _ (by omega)]) (fun f hf => by rw [zup_s, upd_n _ (by omega), zup_n _ (by omega)]), gW_congr h5 hm', ?_, ?_, ?_, h9, h10⟩
  · unfold jR2
    simp (disch := first | omega | decide) only [zcn, zkpl, zki, zki1, zk8, zk16, zo32, zlt0, zle0, zeq0, zgt0, zLe0, nI_ltI, nI_leI, nI_eq, nI_add, nI_clamp, vp_in_nI, zup_s, zup_n, upd_s, upd_n, ne_eq, not_true_eq_false, not_false_eq_true]
    exact h1
  · unfold pR2
    simp (disch := first | omega | decide) only [zcn, zkpl, zki, zki1, zk8, zk16, zo32, zlt0, zle0, zeq0, zgt0, zLe0, nI_ltI, nI_leI, nI_eq, nI_add, nI_clamp, vp_in_nI, zup_s, zup_n, upd_s, upd_n, ne_eq, not_true_eq_false, not_false_eq_true]
    exact h2
  · unfold fR2
    simp (disch := first | omega | decide) only [zcn, zkpl, zki, zki1, zk8, zk16, zo32, zlt0, zle0, zeq0, zgt0, zLe0, nI_ltI, nI_leI, nI_eq, nI_add, nI_clamp, vp_in_nI, zup_s, zup_n, upd_s, upd_n, ne_eq, not_true_eq_false, not_false_eq_true]
    exact h3
  · simp (disch := first | omega | decide) only [zcn, zkpl, zki, zki1, zk8, zk16, zo32, zlt0, zle0, zeq0, zgt0, zLe0, nI_ltI, nI_leI, nI_eq, nI_add, nI_clamp, vp_in_nI, zup_s, zup_n, upd_s, upd_n, ne_eq, not_true_eq_false, not_false_eq_true]
    exact RI_congr h6 hm' (fun _ _ => rfl)
  · unfold kR2
    simp (disch := first | omega | decide) only [zcn, zkpl, zki, zki1, zk8, zk16, zo32, zlt0, zle0, zeq0, zgt0, zLe0, nI_ltI, nI_leI, nI_eq, nI_add, nI_clamp, vp_in_nI, zup_s, zup_n, upd_s, upd_n, ne_eq, not_true_eq_false, not_false_eq_true]
    exact h7
  · simp (disch := first | omega | decide) only [zcn, zkpl, zki, zki1, zk8, zk16, zo32, zlt0, zle0, zeq0, zgt0, zLe0, nI_ltI, nI_leI, nI_eq, nI_add, nI_clamp, vp_in_nI, zup_s, zup_n, upd_s, upd_n, ne_eq, not_true_eq_false, not_false_eq_true]
    exact h8
