/-! the class's ledger: what one kind of record does -/
theorem zdq_far {m : zM} {n a : Nat} (h1 : a ≠ 35) (h2 : a ≠ 28) : zdq m n a = m a := by
  unfold zdq
  rw [zup_n _ h2, zshl_far h1]
theorem zdq_28 {m : zM} {n f : Nat} (h : f ≠ 8) : zdq m n 28 f = m 28 f := by
  unfold zdq
  rw [zup_s, upd_n _ h, zshl_far (by decide)]
def clw (m : zM) (q t : Nat) : zM := zup (zdq m q) 33 t (nI 2)
theorem ev_letWait {m : zM} {n q t : Nat} (hn : n ≤ 20) (ht : t < n) (h1 : 1 ≤ q) (hq : q ≤ 20) (hm : m 28 6 = nI n) (hmq : m 28 8 = nI q) : Ev 24 [.ref 18, .int (nI t)] m none (clw m q t) := by
  intro Q hQ
  refine zgo 40 [] ?_
  refine (ev_drop hq h1 hmq).use ?_
  refine zgo 40 [] ?_
  refine (ev_become (n := n) (nI 2) (by rw [zdq_28 (by decide), hm]) hn ht).use ?_
  refine zgo 40 [] ?_
  exact hQ
def clh (m : zM) (q t d : Nat) (dl : Int32) : zM := zup (zup (zup (zdq m q) 33 t (nI 3)) 34 t dl) 21 d (m 21 d + m 30 t)
theorem ev_hold {m : zM} {n q t d : Nat} (dl : Int32) (hn : n ≤ 20) (ht : t < n) (h1 : 1 ≤ q) (hq : q ≤ 20) (hd : d < 4) (hm : m 28 6 = nI n) (hmq : m 28 8 = nI q) (hdb : m 31 t = nI d) : Ev 23 [.ref 18, .int (nI t), .int dl] m none (clh m q t d dl) := by
  intro Q hQ
  have e28 : zdq m q 28 6 = nI n := by rw [zdq_28 (by decide), hm]
  refine zgo 40 [] ?_
  refine (ev_drop hq h1 hmq).use ?_
  refine zgo 40 [] ?_
  refine (ev_become (n := n) (nI 3) e28 hn ht).use ?_
  refine zgo 40 [] ?_
  refine (ev_setDeadline (n := n) dl (by simp (disch := first | omega | decide) only [e28, zcn, zkpl, zki, zki1, zk8, zk16, zo32, zlt0, zle0, zeq0, zgt0, zLe0, nI_ltI, nI_leI, nI_eq, nI_add, nI_clamp, vp_in_nI, zup_s, zup_n, upd_s, upd_n, ne_eq, not_true_eq_false, not_false_eq_true]) hn ht).use ?_
  refine zgo 40 [] ?_
  refine (ev_debtorOf (n := n) (by simp (disch := first | omega | decide) only [e28, zcn, zkpl, zki, zki1, zk8, zk16, zo32, zlt0, zle0, zeq0, zgt0, zLe0, nI_ltI, nI_leI, nI_eq, nI_add, nI_clamp, vp_in_nI, zup_s, zup_n, upd_s, upd_n, ne_eq, not_true_eq_false, not_false_eq_true]) hn ht).use ?_
  refine zgo 40 [] ?_
  refine (ev_amountOf (n := n) (by simp (disch := first | omega | decide) only [e28, zcn, zkpl, zki, zki1, zk8, zk16, zo32, zlt0, zle0, zeq0, zgt0, zLe0, nI_ltI, nI_leI, nI_eq, nI_add, nI_clamp, vp_in_nI, zup_s, zup_n, upd_s, upd_n, ne_eq, not_true_eq_false, not_false_eq_true]) hn ht).use ?_
  refine zgo 40 [] ?_
  have e31 : zup (zup (zdq m q) 33 t (nI 3)) 34 t dl 31 t = nI d := by simp (disch := first | omega | decide) only [zdq_far, hdb, zcn, zkpl, zki, zki1, zk8, zk16, zo32, zlt0, zle0, zeq0, zgt0, zLe0, nI_ltI, nI_leI, nI_eq, nI_add, nI_clamp, vp_in_nI, zup_s, zup_n, upd_s, upd_n, ne_eq, not_true_eq_false, not_false_eq_true]
  have e30 : zup (zup (zdq m q) 33 t (nI 3)) 34 t dl 30 t = m 30 t := by simp (disch := first | omega | decide) only [zdq_far, zcn, zkpl, zki, zki1, zk8, zk16, zo32, zlt0, zle0, zeq0, zgt0, zLe0, nI_ltI, nI_leI, nI_eq, nI_add, nI_clamp, vp_in_nI, zup_s, zup_n, upd_s, upd_n, ne_eq, not_true_eq_false, not_false_eq_true]
  show ZM 6 0 0 [.ref 19, .int (zup (zup (zdq m q) 33 t (nI 3)) 34 t dl 31 t), .int (zup (zup (zdq m q) 33 t (nI 3)) 34 t dl 30 t)] (SH, zup (zup (zdq m q) 33 t (nI 3)) 34 t dl) _
  rw [e31, e30]
  refine (ev_reserve (m 30 t) hd).use ?_
  refine zgo 40 [] ?_
  refine zcq rfl ?_ hQ
  unfold clh
  simp (disch := first | omega | decide) only [zdq_far, zcn, zkpl, zki, zki1, zk8, zk16, zo32, zlt0, zle0, zeq0, zgt0, zLe0, nI_ltI, nI_leI, nI_eq, nI_add, nI_clamp, vp_in_nI, zup_s, zup_n, upd_s, upd_n, ne_eq, not_true_eq_false, not_false_eq_true]
def cend (m : zM) (t r : Nat) (s : Int32) : zM := zup (zup (zup (zup m 33 t s) 37 r (nI t)) 38 r s) 36 4 (nI (r + 1))
theorem ev_end {m : zM} {n t r : Nat} (s : Int32) (hn : n ≤ 20) (ht : t < n) (hr : r < 40) (hm : m 28 6 = nI n) (hR : m 36 4 = nI r) : Ev 30 [.ref 18, .int (nI t), .int s] m none (cend m t r s) := by
  intro Q hQ
  refine zgo 40 [] ?_
  refine (ev_become (n := n) s hm hn ht).use ?_
  refine zgo 40 [] ?_
  refine (ev_radd (n := r) (nI t) s (by simp (disch := first | omega | decide) only [hR, zcn, zkpl, zki, zki1, zk8, zk16, zo32, zlt0, zle0, zeq0, zgt0, zLe0, nI_ltI, nI_leI, nI_eq, nI_add, nI_clamp, vp_in_nI, zup_s, zup_n, upd_s, upd_n, ne_eq, not_true_eq_false, not_false_eq_true]) hr).use ?_
  refine zgo 40 [] ?_
  exact hQ
def crj (m : zM) (n t d r : Nat) : zM := zwk (cend (zup m 21 d (m 21 d + -(m 30 t))) t r (nI 5)) 33 31 35 28 8 (nI d) 0 n
theorem ev_reject {m : zM} {n q t d r : Nat} (hn : n ≤ 20) (ht : t < n) (hr : r < 40) (hd : d < 4) (hm : m 28 6 = nI n) (hmq : m 28 8 = nI q) (hR : m 36 4 = nI r) (hdb : m 31 t = nI d) (hcn : q + cnt (upd (m 33) t (nI 5)) (nI 2) n ≤ 20) : Ev 25 [.ref 18, .int (nI t)] m none (crj m n t d r) := by
  intro Q hQ
  refine zgo 40 [] ?_
  refine (ev_debtorOf (n := n) hm hn ht).use ?_
  refine zgo 40 [] ?_
  refine (ev_amountOf (n := n) hm hn ht).use ?_
  refine zgo 40 [] ?_
  show ZM 6 0 0 [.ref 19, .int (m 31 t), .int (-(m 30 t))] (SH, m) _
  rw [hdb]
  refine (ev_reserve (-(m 30 t)) hd).use ?_
  refine zgo 40 [] ?_
  refine (ev_end (n := n) (r := r) (nI 5) hn ht hr (by simp (disch := first | omega | decide) only [hm, zcn, zkpl, zki, zki1, zk8, zk16, zo32, zlt0, zle0, zeq0, zgt0, zLe0, nI_ltI, nI_leI, nI_eq, nI_add, nI_clamp, vp_in_nI, zup_s, zup_n, upd_s, upd_n, ne_eq, not_true_eq_false, not_false_eq_true]) (by simp (disch := first | omega | decide) only [hR, zcn, zkpl, zki, zki1, zk8, zk16, zo32, zlt0, zle0, zeq0, zgt0, zLe0, nI_ltI, nI_leI, nI_eq, nI_add, nI_clamp, vp_in_nI, zup_s, zup_n, upd_s, upd_n, ne_eq, not_true_eq_false, not_false_eq_true])).use ?_
  refine zgo 40 [] ?_
  refine (ev_debtorOf (n := n) (by unfold cend; simp (disch := first | omega | decide) only [hm, zcn, zkpl, zki, zki1, zk8, zk16, zo32, zlt0, zle0, zeq0, zgt0, zLe0, nI_ltI, nI_leI, nI_eq, nI_add, nI_clamp, vp_in_nI, zup_s, zup_n, upd_s, upd_n, ne_eq, not_true_eq_false, not_false_eq_true]) hn ht).use ?_
  refine zgo 40 [] ?_
  have e31 : cend (zup m 21 d (m 21 d + -(m 30 t))) t r (nI 5) 31 t = nI d := by unfold cend; simp (disch := first | omega | decide) only [hdb, zcn, zkpl, zki, zki1, zk8, zk16, zo32, zlt0, zle0, zeq0, zgt0, zLe0, nI_ltI, nI_leI, nI_eq, nI_add, nI_clamp, vp_in_nI, zup_s, zup_n, upd_s, upd_n, ne_eq, not_true_eq_false, not_false_eq_true]
  show ZM 105 0 0 [.ref 28, .int (cend (zup m 21 d (m 21 d + -(m 30 t))) t r (nI 5) 31 t)] (SH, cend (zup m 21 d (m 21 d + -(m 30 t))) t r (nI 5)) _
  rw [e31]
  refine (ev_wake (q := q) (nI d) hn (by unfold cend; simp (disch := first | omega | decide) only [hm, zcn, zkpl, zki, zki1, zk8, zk16, zo32, zlt0, zle0, zeq0, zgt0, zLe0, nI_ltI, nI_leI, nI_eq, nI_add, nI_clamp, vp_in_nI, zup_s, zup_n, upd_s, upd_n, ne_eq, not_true_eq_false, not_false_eq_true]) (by unfold cend; simp (disch := first | omega | decide) only [hmq, zcn, zkpl, zki, zki1, zk8, zk16, zo32, zlt0, zle0, zeq0, zgt0, zLe0, nI_ltI, nI_leI, nI_eq, nI_add, nI_clamp, vp_in_nI, zup_s, zup_n, upd_s, upd_n, ne_eq, not_true_eq_false, not_false_eq_true]) (by unfold cend; simp (disch := first | omega | decide) only [zcn, zkpl, zki, zki1, zk8, zk16, zo32, zlt0, zle0, zeq0, zgt0, zLe0, nI_ltI, nI_leI, nI_eq, nI_add, nI_clamp, vp_in_nI, zup_s, zup_n, upd_s, upd_n, ne_eq, not_true_eq_false, not_false_eq_true]; exact hcn)).use ?_
  refine zgo 40 [] ?_
  exact hQ
def cbk (m : zM) (a e : Nat) (x : Int32) : zM := zup (zup (zup m (24 + a) e x) 22 a (nI (e + 1))) 20 a (m 20 a + x)
theorem cbk_far {m : zM} {a e b : Nat} {x : Int32} (ha : a < 4) (h1 : b ≠ 20) (h2 : b ≠ 22) (h3 : b < 24 ∨ 28 ≤ b) : cbk m a e x b = m b := by
  unfold cbk
  rw [zup_n _ h1, zup_n _ h2, zup_n _ (by omega)]
theorem cbk_22 {m : zM} {a b e : Nat} {x : Int32} (ha : a < 4) (h : b ≠ a) : cbk m a e x 22 b = m 22 b := by
  unfold cbk
  rw [zup_n _ (by decide), zup_s, upd_n _ h, zup_n _ (by omega)]
def cst (m : zM) (n t d c r ed ec : Nat) : zM := zwk (cend (cbk (cbk (zup m 21 d (m 21 d + -(m 30 t))) d ed (-(m 30 t))) c ec (m 30 t)) t r (nI 4)) 33 31 35 28 8 (nI c) 0 n
theorem ev_settle {m : zM} {n q t d c r ed ec : Nat} (hn : n ≤ 20) (ht : t < n) (hr : r < 40) (hd : d < 4) (hc4 : c < 4) (hdc : c ≠ d) (hed : ed < 40) (hec : ec < 40) (hm : m 28 6 = nI n) (hmq : m 28 8 = nI q) (hR : m 36 4 = nI r) (hdb : m 31 t = nI d) (hcr : m 32 t = nI c) (h22d : m 22 d = nI ed) (h22c : m 22 c = nI ec) (hcn : q + cnt (upd (m 33) t (nI 4)) (nI 2) n ≤ 20) : Ev 28 [.ref 18, .int (nI t)] m none (cst m n t d c r ed ec) := by
  intro Q hQ
  refine zgo 40 [] ?_
  refine (ev_amountOf (n := n) hm hn ht).use ?_
  refine zgo 40 [] ?_
  refine (ev_debtorOf (n := n) hm hn ht).use ?_
  refine zgo 40 [] ?_
  show ZM 6 0 0 [.ref 19, .int (m 31 t), .int (-(m 30 t))] (SH, m) _
  rw [hdb]
  refine (ev_reserve (-(m 30 t)) hd).use ?_
  refine zgo 40 [] ?_
  refine (ev_debtorOf (n := n) (by simp (disch := first | omega | decide) only [hm, zcn, zkpl, zki, zki1, zk8, zk16, zo32, zlt0, zle0, zeq0, zgt0, zLe0, nI_ltI, nI_leI, nI_eq, nI_add, nI_clamp, vp_in_nI, zup_s, zup_n, upd_s, upd_n, ne_eq, not_true_eq_false, not_false_eq_true]) hn ht).use ?_
  refine zgo 40 [] ?_
  have e31 : zup m 21 d (m 21 d + -(m 30 t)) 31 t = nI d := by simp (disch := first | omega | decide) only [hdb, zcn, zkpl, zki, zki1, zk8, zk16, zo32, zlt0, zle0, zeq0, zgt0, zLe0, nI_ltI, nI_leI, nI_eq, nI_add, nI_clamp, vp_in_nI, zup_s, zup_n, upd_s, upd_n, ne_eq, not_true_eq_false, not_false_eq_true]
  show ZM 7 0 0 [.ref 19, .int (zup m 21 d (m 21 d + -(m 30 t)) 31 t), .int (-(m 30 t))] (SH, zup m 21 d (m 21 d + -(m 30 t))) _
  rw [e31]
  refine (ev_book (e := ed) (-(m 30 t)) hd (by simp (disch := first | omega | decide) only [h22d, zcn, zkpl, zki, zki1, zk8, zk16, zo32, zlt0, zle0, zeq0, zgt0, zLe0, nI_ltI, nI_leI, nI_eq, nI_add, nI_clamp, vp_in_nI, zup_s, zup_n, upd_s, upd_n, ne_eq, not_true_eq_false, not_false_eq_true]) hed).use ?_
  refine zgo 40 [] ?_
  show ZM 96 0 0 [.ref 28, .int (nI t)] (SH, cbk (zup m 21 d (m 21 d + -(m 30 t))) d ed (-(m 30 t))) _
  generalize hM : cbk (zup m 21 d (m 21 d + -(m 30 t))) d ed (-(m 30 t)) = M1 at *
  have f1 : ∀ b, b ≠ 20 → b ≠ 21 → b ≠ 22 → (b < 24 ∨ 28 ≤ b) → M1 b = m b := fun b g1 g2 g3 g4 => by
    rw [← hM, cbk_far hd g1 g3 g4, zup_n _ g2]
  have e28 : M1 28 = m 28 := f1 28 (by decide) (by decide) (by decide) (by decide)
  have e32 : M1 32 t = nI c := by rw [f1 32 (by decide) (by decide) (by decide) (by decide), hcr]
  have e22 : M1 22 c = nI ec := by rw [← hM, cbk_22 hd hdc, zup_n _ (by decide), h22c]
  refine (ev_creditorOf (n := n) (by rw [e28, hm]) hn ht).use ?_
  refine zgo 40 [] ?_
  show ZM 7 0 0 [.ref 19, .int (M1 32 t), .int (m 30 t)] (SH, M1) _
  rw [e32]
  refine (ev_book (e := ec) (m 30 t) hc4 e22 hec).use ?_
  refine zgo 40 [] ?_
  show ZM 30 0 0 [.ref 18, .int (nI t), .int (nI 4)] (SH, cbk M1 c ec (m 30 t)) _
  generalize hM2 : cbk M1 c ec (m 30 t) = M2 at *
  have f2 : ∀ b, b ≠ 20 → b ≠ 21 → b ≠ 22 → (b < 24 ∨ 28 ≤ b) → M2 b = m b := fun b g1 g2 g3 g4 => by
    rw [← hM2, cbk_far hc4 g1 g3 g4, f1 b g1 g2 g3 g4]
  have g28 : M2 28 = m 28 := f2 28 (by decide) (by decide) (by decide) (by decide)
  have g36 : M2 36 = m 36 := f2 36 (by decide) (by decide) (by decide) (by decide)
  have g32 : M2 32 = m 32 := f2 32 (by decide) (by decide) (by decide) (by decide)
  have g33 : M2 33 = m 33 := f2 33 (by decide) (by decide) (by decide) (by decide)
  refine (ev_end (n := n) (r := r) (nI 4) hn ht hr (by rw [g28, hm]) (by rw [g36, hR])).use ?_
  refine zgo 40 [] ?_
  refine (ev_creditorOf (n := n) (by unfold cend; simp (disch := first | omega | decide) only [g28, hm, zcn, zkpl, zki, zki1, zk8, zk16, zo32, zlt0, zle0, zeq0, zgt0, zLe0, nI_ltI, nI_leI, nI_eq, nI_add, nI_clamp, vp_in_nI, zup_s, zup_n, upd_s, upd_n, ne_eq, not_true_eq_false, not_false_eq_true]) hn ht).use ?_
  refine zgo 40 [] ?_
  have h32 : cend M2 t r (nI 4) 32 t = nI c := by unfold cend; simp (disch := first | omega | decide) only [g32, hcr, zcn, zkpl, zki, zki1, zk8, zk16, zo32, zlt0, zle0, zeq0, zgt0, zLe0, nI_ltI, nI_leI, nI_eq, nI_add, nI_clamp, vp_in_nI, zup_s, zup_n, upd_s, upd_n, ne_eq, not_true_eq_false, not_false_eq_true]
  show ZM 105 0 0 [.ref 28, .int (cend M2 t r (nI 4) 32 t)] (SH, cend M2 t r (nI 4)) _
  rw [h32]
  refine (ev_wake (q := q) (nI c) hn (by unfold cend; simp (disch := first | omega | decide) only [g28, hm, zcn, zkpl, zki, zki1, zk8, zk16, zo32, zlt0, zle0, zeq0, zgt0, zLe0, nI_ltI, nI_leI, nI_eq, nI_add, nI_clamp, vp_in_nI, zup_s, zup_n, upd_s, upd_n, ne_eq, not_true_eq_false, not_false_eq_true]) (by unfold cend; simp (disch := first | omega | decide) only [g28, hmq, zcn, zkpl, zki, zki1, zk8, zk16, zo32, zlt0, zle0, zeq0, zgt0, zLe0, nI_ltI, nI_leI, nI_eq, nI_add, nI_clamp, vp_in_nI, zup_s, zup_n, upd_s, upd_n, ne_eq, not_true_eq_false, not_false_eq_true]) (by unfold cend; simp (disch := first | omega | decide) only [g33, zcn, zkpl, zki, zki1, zk8, zk16, zo32, zlt0, zle0, zeq0, zgt0, zLe0, nI_ltI, nI_leI, nI_eq, nI_add, nI_clamp, vp_in_nI, zup_s, zup_n, upd_s, upd_n, ne_eq, not_true_eq_false, not_false_eq_true]; exact hcn)).use ?_
  refine zgo 40 [] ?_
  unfold cst at hQ
  rw [hM, hM2] at hQ
  exact hQ
def cgb (m : zM) (n t d c r ed ec : Nat) (x : Int32) : zM := zwk (cend (cbk (cbk m c ec (-x)) d ed x) t r (nI 6)) 33 31 35 28 8 (nI d) 0 n
theorem ev_giveBack {m : zM} {n q t d c r ed ec : Nat} (x : Int32) (hn : n ≤ 20) (ht : t < n) (hr : r < 40) (hd : d < 4) (hc4 : c < 4) (hdc : c ≠ d) (hed : ed < 40) (hec : ec < 40) (hm : m 28 6 = nI n) (hmq : m 28 8 = nI q) (hR : m 36 4 = nI r) (hdb : m 31 t = nI d) (hcr : m 32 t = nI c) (h22d : m 22 d = nI ed) (h22c : m 22 c = nI ec) (hcn : q + cnt (upd (m 33) t (nI 6)) (nI 2) n ≤ 20) : Ev 29 [.ref 18, .int (nI t), .int x] m none (cgb m n t d c r ed ec x) := by
  intro Q hQ
  refine zgo 40 [] ?_
  refine (ev_creditorOf (n := n) hm hn ht).use ?_
  refine zgo 40 [] ?_
  show ZM 7 0 0 [.ref 19, .int (m 32 t), .int (-x)] (SH, m) _
  rw [hcr]
  refine (ev_book (e := ec) (-x) hc4 h22c hec).use ?_
  refine zgo 40 [] ?_
  show ZM 95 0 0 [.ref 28, .int (nI t)] (SH, cbk m c ec (-x)) _
  generalize hM : cbk m c ec (-x) = M1 at *
  have f1 : ∀ b, b ≠ 20 → b ≠ 22 → (b < 24 ∨ 28 ≤ b) → M1 b = m b := fun b g1 g3 g4 => by
    rw [← hM, cbk_far hc4 g1 g3 g4]
  have e28 : M1 28 = m 28 := f1 28 (by decide) (by decide) (by decide)
  have e31 : M1 31 t = nI d := by rw [f1 31 (by decide) (by decide) (by decide), hdb]
  have e22 : M1 22 d = nI ed := by rw [← hM, cbk_22 hc4 (Ne.symm hdc), h22d]
  refine (ev_debtorOf (n := n) (by rw [e28, hm]) hn ht).use ?_
  refine zgo 40 [] ?_
  show ZM 7 0 0 [.ref 19, .int (M1 31 t), .int x] (SH, M1) _
  rw [e31]
  refine (ev_book (e := ed) x hd e22 hed).use ?_
  refine zgo 40 [] ?_
  show ZM 30 0 0 [.ref 18, .int (nI t), .int (nI 6)] (SH, cbk M1 d ed x) _
  generalize hM2 : cbk M1 d ed x = M2 at *
  have f2 : ∀ b, b ≠ 20 → b ≠ 22 → (b < 24 ∨ 28 ≤ b) → M2 b = m b := fun b g1 g3 g4 => by
    rw [← hM2, cbk_far hd g1 g3 g4, f1 b g1 g3 g4]
  have g28 : M2 28 = m 28 := f2 28 (by decide) (by decide) (by decide)
  have g36 : M2 36 = m 36 := f2 36 (by decide) (by decide) (by decide)
  have g31 : M2 31 = m 31 := f2 31 (by decide) (by decide) (by decide)
  have g33 : M2 33 = m 33 := f2 33 (by decide) (by decide) (by decide)
  refine (ev_end (n := n) (r := r) (nI 6) hn ht hr (by rw [g28, hm]) (by rw [g36, hR])).use ?_
  refine zgo 40 [] ?_
  refine (ev_debtorOf (n := n) (by unfold cend; simp (disch := first | omega | decide) only [g28, hm, zcn, zkpl, zki, zki1, zk8, zk16, zo32, zlt0, zle0, zeq0, zgt0, zLe0, nI_ltI, nI_leI, nI_eq, nI_add, nI_clamp, vp_in_nI, zup_s, zup_n, upd_s, upd_n, ne_eq, not_true_eq_false, not_false_eq_true]) hn ht).use ?_
  refine zgo 40 [] ?_
  have h31 : cend M2 t r (nI 6) 31 t = nI d := by unfold cend; simp (disch := first | omega | decide) only [g31, hdb, zcn, zkpl, zki, zki1, zk8, zk16, zo32, zlt0, zle0, zeq0, zgt0, zLe0, nI_ltI, nI_leI, nI_eq, nI_add, nI_clamp, vp_in_nI, zup_s, zup_n, upd_s, upd_n, ne_eq, not_true_eq_false, not_false_eq_true]
  show ZM 105 0 0 [.ref 28, .int (cend M2 t r (nI 6) 31 t)] (SH, cend M2 t r (nI 6)) _
  rw [h31]
  refine (ev_wake (q := q) (nI d) hn (by unfold cend; simp (disch := first | omega | decide) only [g28, hm, zcn, zkpl, zki, zki1, zk8, zk16, zo32, zlt0, zle0, zeq0, zgt0, zLe0, nI_ltI, nI_leI, nI_eq, nI_add, nI_clamp, vp_in_nI, zup_s, zup_n, upd_s, upd_n, ne_eq, not_true_eq_false, not_false_eq_true]) (by unfold cend; simp (disch := first | omega | decide) only [g28, hmq, zcn, zkpl, zki, zki1, zk8, zk16, zo32, zlt0, zle0, zeq0, zgt0, zLe0, nI_ltI, nI_leI, nI_eq, nI_add, nI_clamp, vp_in_nI, zup_s, zup_n, upd_s, upd_n, ne_eq, not_true_eq_false, not_false_eq_true]) (by unfold cend; simp (disch := first | omega | decide) only [g33, zcn, zkpl, zki, zki1, zk8, zk16, zo32, zlt0, zle0, zeq0, zgt0, zLe0, nI_ltI, nI_leI, nI_eq, nI_add, nI_clamp, vp_in_nI, zup_s, zup_n, upd_s, upd_n, ne_eq, not_true_eq_false, not_false_eq_true]; exact hcn)).use ?_
  refine zgo 40 [] ?_
  unfold cgb at hQ
  rw [hM, hM2] at hQ
  exact hQ
theorem ev_rcopy {m : zM} {n r : Nat} (hm : m 36 4 = nI n) (hn : n ≤ 40) (hr : r < n) : Ev 72 [.ref 36, .int (nI r)] m none (zup m 40 r (m 40 r + nI 1)) := by
  intro Q hQ
  refine zgo 60 [65] ?_
  repeat' (first
    | (show vp_in _ _; simp (disch := first | omega | decide) only [hm, z10, zcn, zkpl, zki, zki1, zk8, zk16, zo32, zlt0, zle0, zeq0, zgt0, zLe0, nI_ltI, nI_leI, nI_eq, nI_add, nI_clamp, vp_in_nI, zup_s, zup_n, upd_s, upd_n, ne_eq, not_true_eq_false, not_false_eq_true]; done)
    | (intro hc; exfalso; simp (disch := first | omega | decide) only [hm, z10, zcn, zkpl, zki, zki1, zk8, zk16, zo32, zlt0, zle0, zeq0, zgt0, zLe0, nI_ltI, nI_leI, nI_eq, nI_add, nI_clamp, vp_in_nI, zup_s, zup_n, upd_s, upd_n, ne_eq, not_true_eq_false, not_false_eq_true] at hc <;> omega)
    | (intro hc; exact absurd rfl hc)
    | intro hc
    | apply And.intro
    | exact hQ
    | (show Q _ (SH, _); simp (disch := first | omega | decide) only [hm, z10, zcn, zkpl, zki, zki1, zk8, zk16, zo32, zlt0, zle0, zeq0, zgt0, zLe0, nI_ltI, nI_leI, nI_eq, nI_add, nI_clamp, vp_in_nI, zup_s, zup_n, upd_s, upd_n, ne_eq, not_true_eq_false, not_false_eq_true]; exact hQ)
    | exact Or.inl rfl
    | exact Or.inr rfl
    | (show (_ : Int32) = 0 ∨ _ = 1; simp (disch := first | omega | decide) only [hm, z10, zcn, zkpl, zki, zki1, zk8, zk16, zo32, zlt0, zle0, zeq0, zgt0, zLe0, nI_ltI, nI_leI, nI_eq, nI_add, nI_clamp, vp_in_nI, zup_s, zup_n, upd_s, upd_n, ne_eq, not_true_eq_false, not_false_eq_true, zeq1, true_or, or_true]; done))
theorem ev_rmark {m : zM} {n r : Nat} (hm : m 36 4 = nI n) (hn : n ≤ 40) (hr : r < n) : Ev 73 [.ref 36, .int (nI r)] m none (zup m 39 r 1) := by
  intro Q hQ
  refine zgo 60 [65] ?_
  repeat' (first
    | (show vp_in _ _; simp (disch := first | omega | decide) only [hm, z10, zboo1, zcn, zkpl, zki, zki1, zk8, zk16, zo32, zlt0, zle0, zeq0, zgt0, zLe0, nI_ltI, nI_leI, nI_eq, nI_add, nI_clamp, vp_in_nI, zup_s, zup_n, upd_s, upd_n, ne_eq, not_true_eq_false, not_false_eq_true]; done)
    | (intro hc; exfalso; simp (disch := first | omega | decide) only [hm, z10, zboo1, zcn, zkpl, zki, zki1, zk8, zk16, zo32, zlt0, zle0, zeq0, zgt0, zLe0, nI_ltI, nI_leI, nI_eq, nI_add, nI_clamp, vp_in_nI, zup_s, zup_n, upd_s, upd_n, ne_eq, not_true_eq_false, not_false_eq_true] at hc <;> omega)
    | (intro hc; exact absurd rfl hc)
    | intro hc
    | apply And.intro
    | exact hQ
    | (show Q _ (SH, _); simp (disch := first | omega | decide) only [hm, z10, zboo1, zcn, zkpl, zki, zki1, zk8, zk16, zo32, zlt0, zle0, zeq0, zgt0, zLe0, nI_ltI, nI_leI, nI_eq, nI_add, nI_clamp, vp_in_nI, zup_s, zup_n, upd_s, upd_n, ne_eq, not_true_eq_false, not_false_eq_true]; exact hQ)
    | exact Or.inl rfl
    | exact Or.inr rfl
    | (show (_ : Int32) = 0 ∨ _ = 1; simp (disch := first | omega | decide) only [hm, z10, zboo1, zcn, zkpl, zki, zki1, zk8, zk16, zo32, zlt0, zle0, zeq0, zgt0, zLe0, nI_ltI, nI_leI, nI_eq, nI_add, nI_clamp, vp_in_nI, zup_s, zup_n, upd_s, upd_n, ne_eq, not_true_eq_false, not_false_eq_true, zeq1, true_or, or_true]; done))
/-- the least report that is not marked, or n -/
def lum (f : Nat → Int32) (i : Nat) : Nat → Nat
  | 0 => i
  | k + 1 => if f i = 0 then i else lum f (i + 1) k
theorem lum_le (f : Nat → Int32) : ∀ (k i : Nat), i ≤ lum f i k ∧ lum f i k ≤ i + k
  | 0, i => ⟨Nat.le_refl _, Nat.le_refl _⟩
  | k + 1, i => by
    unfold lum
    split
    · omega
    · have := lum_le f k (i + 1)
      omega
theorem lum_ext {f g : Nat → Int32} : ∀ (k i : Nat), (∀ j, i ≤ j → j < i + k → f j = g j) → lum f i k = lum g i k
  | 0, _, _ => rfl
  | k + 1, i, h => by
    unfold lum
    rw [h i (Nat.le_refl _) (by omega), lum_ext k (i + 1) (fun j h1 h2 => h j (by omega) (by omega))]
theorem ev_first_loop {m : zM} {n : Nat} (hm : m 36 4 = nI n) (hn : n ≤ 40) (hb : ∀ j, j < n → m 39 j = 0 ∨ m 39 j = 1) (Q : zQ) : ∀ (k i : Nat) (x : Int32), i + k = n → x = nI i → Q (some (.int (if lum (m 39) i k = n then -1 else nI (lum (m 39) i k)))) (SH, m) → ZW 71 (0, 0, 0, 0) 2 [(1, .int x), (0, .ref 36)] [] (SH, m) Q := by
  intro k
  induction k with
  | zero =>
    intro i x hi hx hQ
    rw [show lum (m 39) i 0 = i from rfl, if_pos (by omega)] at hQ
    refine zgo 40 [] ?_
    repeat' (first
      | (show vp_in _ _; simp (disch := first | omega | decide) only [hx, hm, zcn, zkpl, zki, zki1, zk8, zk16, zo32, zlt0, zle0, zeq0, zgt0, zLe0, nI_ltI, nI_leI, nI_eq, nI_add, nI_clamp, vp_in_nI, zup_s, zup_n, upd_s, upd_n, ne_eq, not_true_eq_false, not_false_eq_true]; done)
      | (intro hc; exfalso; simp (disch := first | omega | decide) only [hx, hm, zcn, zkpl, zki, zki1, zk8, zk16, zo32, zlt0, zle0, zeq0, zgt0, zLe0, nI_ltI, nI_leI, nI_eq, nI_add, nI_clamp, vp_in_nI, zup_s, zup_n, upd_s, upd_n, ne_eq, not_true_eq_false, not_false_eq_true] at hc <;> omega)
      | (intro hc; exact absurd rfl hc)
      | intro hc
      | apply And.intro
      | exact hQ
      | (show Q _ (SH, _); simp (disch := first | omega | decide) only [hx, hm, zcn, zkpl, zki, zki1, zk8, zk16, zo32, zlt0, zle0, zeq0, zgt0, zLe0, nI_ltI, nI_leI, nI_eq, nI_add, nI_clamp, vp_in_nI, zup_s, zup_n, upd_s, upd_n, ne_eq, not_true_eq_false, not_false_eq_true]; exact hQ)
      | exact Or.inl rfl
      | exact Or.inr rfl
      | (show (_ : Int32) = 0 ∨ _ = 1; simp (disch := first | omega | decide) only [hx, hm, zcn, zkpl, zki, zki1, zk8, zk16, zo32, zlt0, zle0, zeq0, zgt0, zLe0, nI_ltI, nI_leI, nI_eq, nI_add, nI_clamp, vp_in_nI, zup_s, zup_n, upd_s, upd_n, ne_eq, not_true_eq_false, not_false_eq_true, zeq1, true_or, or_true]; done))
  | succ k ih =>
    intro i x hi hx hQ
    subst hx
    rw [lum] at hQ
    rcases hb i (by omega) with h0 | h1
    · rw [if_pos h0, if_neg (by omega)] at hQ
      refine zgo 40 [] ?_
      repeat' (first
        | (show vp_in _ _; simp (disch := first | omega | decide) only [hm, h0, eq_self, zcn, zkpl, zki, zki1, zk8, zk16, zo32, zlt0, zle0, zeq0, zgt0, zLe0, nI_ltI, nI_leI, nI_eq, nI_add, nI_clamp, vp_in_nI, zup_s, zup_n, upd_s, upd_n, ne_eq, not_true_eq_false, not_false_eq_true]; done)
        | (intro hc; exfalso; simp (disch := first | omega | decide) only [hm, h0, eq_self, zcn, zkpl, zki, zki1, zk8, zk16, zo32, zlt0, zle0, zeq0, zgt0, zLe0, nI_ltI, nI_leI, nI_eq, nI_add, nI_clamp, vp_in_nI, zup_s, zup_n, upd_s, upd_n, ne_eq, not_true_eq_false, not_false_eq_true] at hc <;> omega)
        | (intro hc; exact absurd rfl hc)
        | intro hc
        | apply And.intro
        | exact hQ
        | (show Q _ (SH, _); simp (disch := first | omega | decide) only [hm, h0, eq_self, zcn, zkpl, zki, zki1, zk8, zk16, zo32, zlt0, zle0, zeq0, zgt0, zLe0, nI_ltI, nI_leI, nI_eq, nI_add, nI_clamp, vp_in_nI, zup_s, zup_n, upd_s, upd_n, ne_eq, not_true_eq_false, not_false_eq_true]; exact hQ)
        | exact Or.inl rfl
        | exact Or.inr rfl
        | (show (_ : Int32) = 0 ∨ _ = 1; simp (disch := first | omega | decide) only [hm, h0, eq_self, zcn, zkpl, zki, zki1, zk8, zk16, zo32, zlt0, zle0, zeq0, zgt0, zLe0, nI_ltI, nI_leI, nI_eq, nI_add, nI_clamp, vp_in_nI, zup_s, zup_n, upd_s, upd_n, ne_eq, not_true_eq_false, not_false_eq_true, zeq1, true_or, or_true]; done))
    · have e0 : ¬ m 39 i = 0 := by rw [h1]; decide
      rw [if_neg e0] at hQ
      refine zgo 40 [] ?_
      repeat' (first
        | (exact ih (i + 1) _ (by omega) (show nI i + Int32.ofInt 1 = nI (i + 1) by rw [zki, nI_add]) hQ)
        | (show vp_in _ _; simp (disch := first | omega | decide) only [hm, h1, z10, eq_self, zcn, zkpl, zki, zki1, zk8, zk16, zo32, zlt0, zle0, zeq0, zgt0, zLe0, nI_ltI, nI_leI, nI_eq, nI_add, nI_clamp, vp_in_nI, zup_s, zup_n, upd_s, upd_n, ne_eq, not_true_eq_false, not_false_eq_true]; done)
        | (intro hc; exfalso; simp (disch := first | omega | decide) only [hm, h1, z10, eq_self, zcn, zkpl, zki, zki1, zk8, zk16, zo32, zlt0, zle0, zeq0, zgt0, zLe0, nI_ltI, nI_leI, nI_eq, nI_add, nI_clamp, vp_in_nI, zup_s, zup_n, upd_s, upd_n, ne_eq, not_true_eq_false, not_false_eq_true] at hc <;> omega)
        | (intro hc; exact absurd rfl hc)
        | intro hc
        | apply And.intro
        | exact Or.inl rfl
        | exact Or.inr rfl
        | (show (_ : Int32) = 0 ∨ _ = 1; simp (disch := first | omega | decide) only [hm, h1, z10, eq_self, zcn, zkpl, zki, zki1, zk8, zk16, zo32, zlt0, zle0, zeq0, zgt0, zLe0, nI_ltI, nI_leI, nI_eq, nI_add, nI_clamp, vp_in_nI, zup_s, zup_n, upd_s, upd_n, ne_eq, not_true_eq_false, not_false_eq_true, zeq1, true_or, or_true]; done))
theorem ev_first {m : zM} {n : Nat} (hm : m 36 4 = nI n) (hn : n ≤ 40) (hb : ∀ j, j < n → m 39 j = 0 ∨ m 39 j = 1) : Ev 71 [.ref 36] m (some (.int (if lum (m 39) 0 n = n then -1 else nI (lum (m 39) 0 n)))) m := by
  intro Q hQ
  refine zgo 5 [] ?_
  exact ev_first_loop hm hn hb Q n 0 _ (by omega) rfl hQ
