/-! a record goes to both journals -/
def jR2 (m u : zM) (J : Nat → Nat) (n W : Nat) : Prop := m 14 1 = nI n ∧ u 42 36 = nI n ∧ n ≤ 5247 ∧ (∀ j, j < n → J j < 256 ∧ u 58 j = nI (J j) ∧ m 15 j &&& 255 = nI (J j)) ∧ m 14 2 = nI W ∧ W ≤ n
def pR2 (m u : zM) (d : Nat) : Prop := m 14 8 = nI d ∧ u 42 3 = nI d ∧ d ≤ 1
def fR2 (m u : zM) : Prop := (m 14 5 = 0 ∧ u 42 4 = -1) ∨ ∃ l c, l ≤ 50 ∧ c ≤ 300 ∧ m 14 5 = 1 ∧ m 14 6 = nI l ∧ u 42 4 = nI l ∧ m 14 7 = nI c ∧ u 42 5 = nI c
def kR2 (m u : zM) (nR : Nat) : Prop := (∀ r, r < nR → m 40 r = u 74 r) ∧ (∀ r, nR ≤ r → r < 64 → u 74 r = 0) ∧ ∀ r, nR ≤ r → r < 40 → m 40 r = 0
/-- what the class's ledger keeps -/
def dN (m : zM) (nT : Nat) : Prop := ∀ i j, i < nT → j < nT → m 29 i = m 29 j → i = j
def gW (m : zM) (nT nQ nR nM W : Nat) : Prop := cW m nT nQ nR ∧ bW m nT nR nM ∧ jB m nT nR W ∧ (∀ r, nR ≤ r → r < 40 → m 39 r = 0) ∧ dN m nT
/-- all that holds between two calls, but the text and the clock: the class's side in m, the model's in u -/
def IX (m u : zM) (J : Nat → Nat) (n W d nT nQ nR nM : Nat) : Prop := (jR2 m u J n W) ∧ (pR2 m u d) ∧ (fR2 m u) ∧ (lR u m nT nQ nR nM) ∧ (gW m nT nQ nR nM W) ∧ (RI m (u 42 0) J W nT nQ nR nM) ∧ (kR2 m u nR) ∧ (m 19 0 = u 42 1) ∧ (d = 0 → W = n) ∧ (n ≤ W + 1 ∨ n < W + 3 + J (W + 1))
theorem IX.j {m u : zM} {J : Nat → Nat} {n W d nT nQ nR nM : Nat} (h : IX m u J n W d nT nQ nR nM) : jR2 m u J n W := h.1
theorem IX.p {m u : zM} {J : Nat → Nat} {n W d nT nQ nR nM : Nat} (h : IX m u J n W d nT nQ nR nM) : pR2 m u d := h.2.1
theorem IX.f {m u : zM} {J : Nat → Nat} {n W d nT nQ nR nM : Nat} (h : IX m u J n W d nT nQ nR nM) : fR2 m u := h.2.2.1
theorem IX.l {m u : zM} {J : Nat → Nat} {n W d nT nQ nR nM : Nat} (h : IX m u J n W d nT nQ nR nM) : lR u m nT nQ nR nM := h.2.2.2.1
theorem IX.g {m u : zM} {J : Nat → Nat} {n W d nT nQ nR nM : Nat} (h : IX m u J n W d nT nQ nR nM) : gW m nT nQ nR nM W := h.2.2.2.2.1
theorem IX.ri {m u : zM} {J : Nat → Nat} {n W d nT nQ nR nM : Nat} (h : IX m u J n W d nT nQ nR nM) : RI m (u 42 0) J W nT nQ nR nM := h.2.2.2.2.2.1
theorem IX.k {m u : zM} {J : Nat → Nat} {n W d nT nQ nR nM : Nat} (h : IX m u J n W d nT nQ nR nM) : kR2 m u nR := h.2.2.2.2.2.2.1
theorem IX.lim {m u : zM} {J : Nat → Nat} {n W d nT nQ nR nM : Nat} (h : IX m u J n W d nT nQ nR nM) : m 19 0 = u 42 1 := h.2.2.2.2.2.2.2.1
theorem IX.w {m u : zM} {J : Nat → Nat} {n W d nT nQ nR nM : Nat} (h : IX m u J n W d nT nQ nR nM) : d = 0 → W = n := h.2.2.2.2.2.2.2.2.1
theorem IX.t {m u : zM} {J : Nat → Nat} {n W d nT nQ nR nM : Nat} (h : IX m u J n W d nT nQ nR nM) : n ≤ W + 1 ∨ n < W + 3 + J (W + 1) := h.2.2.2.2.2.2.2.2.2
theorem RI_congr {m m' : zM} {op : Int32} {J J' : Nat → Nat} {W nT nQ nR nM : Nat} (h : RI m op J W nT nQ nR nM) (hm : ∀ a, 18 ≤ a → a ≤ 41 → a ≠ 40 → m' a = m a) (hJ : ∀ j, j < W → J' j = J j) : RI m' op J' W nT nQ nR nM := by
  intro u b h1 h2 h3 h4 h5
  obtain ⟨u', e1, e2, e3⟩ := h u b (fun j hj => by rw [h1 j hj, hJ j hj]) h2 h3 h4 h5
  refine ⟨u', e1, ?_, e3⟩
  exact lR_congr e2 hm (fun _ _ _ => rfl) (fun _ _ => rfl)
theorem gW_congr {m m' : zM} {nT nQ nR nM W : Nat} (h : gW m nT nQ nR nM W) (hm : ∀ a, 18 ≤ a → a ≤ 41 → a ≠ 40 → m' a = m a) : gW m' nT nQ nR nM W := by
  obtain ⟨⟨h1, h2, h3⟩, ⟨h4, h5⟩, h6, h7, h8⟩ := h
  have e33 := hm 33 (by omega) (by omega) (by omega)
  have e39 := hm 39 (by omega) (by omega) (by omega)
  refine ⟨⟨fun t ht => tx_same (h1 t ht) (by rw [e33]) (hm 31 (by omega) (by omega) (by omega)) (hm 32 (by omega) (by omega) (by omega)) (hm 30 (by omega) (by omega) (by omega)), qW_congr h2 e33 (hm 35 (by omega) (by omega) (by omega)) (by rw [hm 28 (by omega) (by omega) (by omega)]), by rw [e33]; exact h3⟩, ⟨h4, fun a ha => ?_⟩, ?_, fun r g1 g2 => ?_, by unfold dN; rw [hm 29 (by omega) (by omega) (by omega)]; exact h8⟩
  · rw [hm 22 (by omega) (by omega) (by omega)]
    exact h5 a ha
  · unfold jB
    rw [e33, e39]
    exact h6
  · rw [e39]
    exact h7 r g1 g2
/-- the class wrote it whole: what it and the power then are -/
def okC (m m2 u : zM) (n d : Nat) (D : Nat → Nat) : Prop := (∀ a, a ≠ 14 → a ≠ 15 → a ≠ 16 → m2 a = m a) ∧ (m2 14 1 = nI (n + (d + 1))) ∧ (m2 14 2 = nI (n + (d + 1))) ∧ (m2 14 8 = nI 0) ∧ (∀ j, j < n → m2 15 j = m 15 j) ∧ (∀ j, j < d + 1 → m2 15 (n + j) &&& 255 = nI (zrec D d j)) ∧ ((u 42 4 = -1 ∧ m2 14 5 = 0) ∨ ∃ l c, l ≤ 50 ∧ c ≤ 300 ∧ u 42 4 = nI (l + 1) ∧ m2 14 5 = 1 ∧ m2 14 6 = nI l ∧ m2 14 7 = nI c ∧ u 42 5 = nI c)
theorem okC.far {m m2 u : zM} {n d : Nat} {D : Nat → Nat} (h : okC m m2 u n d D) : ∀ a, a ≠ 14 → a ≠ 15 → a ≠ 16 → m2 a = m a := h.1
theorem okC.len {m m2 u : zM} {n d : Nat} {D : Nat → Nat} (h : okC m m2 u n d D) : m2 14 1 = nI (n + (d + 1)) := h.2.1
theorem okC.who {m m2 u : zM} {n d : Nat} {D : Nat → Nat} (h : okC m m2 u n d D) : m2 14 2 = nI (n + (d + 1)) := h.2.2.1
theorem okC.dwn {m m2 u : zM} {n d : Nat} {D : Nat → Nat} (h : okC m m2 u n d D) : m2 14 8 = nI 0 := h.2.2.2.1
theorem okC.old {m m2 u : zM} {n d : Nat} {D : Nat → Nat} (h : okC m m2 u n d D) : ∀ j, j < n → m2 15 j = m 15 j := h.2.2.2.2.1
theorem okC.new {m m2 u : zM} {n d : Nat} {D : Nat → Nat} (h : okC m m2 u n d D) : ∀ j, j < d + 1 → m2 15 (n + j) &&& 255 = nI (zrec D d j) := h.2.2.2.2.2.1
theorem okC.pow {m m2 u : zM} {n d : Nat} {D : Nat → Nat} (h : okC m m2 u n d D) : (u 42 4 = -1 ∧ m2 14 5 = 0) ∨ ∃ l c, l ≤ 50 ∧ c ≤ 300 ∧ u 42 4 = nI (l + 1) ∧ m2 14 5 = 1 ∧ m2 14 6 = nI l ∧ m2 14 7 = nI c ∧ u 42 5 = nI c := h.2.2.2.2.2.2
def flC (m m2 u : zM) (n d c : Nat) (D : Nat → Nat) : Prop := (∀ a, a ≠ 14 → a ≠ 15 → a ≠ 16 → m2 a = m a) ∧ (m2 14 1 = nI (n + min c d)) ∧ (m2 14 2 = nI n) ∧ (m2 14 8 = nI 1) ∧ (∀ j, j < n → m2 15 j = m 15 j) ∧ (∀ j, j < min c d → m2 15 (n + j) &&& 255 = nI (zrec D d j)) ∧ (m2 14 5 = 0) ∧ (c ≤ 300) ∧ (u 42 4 = 0) ∧ (u 42 5 = nI c)
theorem flC.far {m m2 u : zM} {n d c : Nat} {D : Nat → Nat} (h : flC m m2 u n d c D) : ∀ a, a ≠ 14 → a ≠ 15 → a ≠ 16 → m2 a = m a := h.1
theorem flC.len {m m2 u : zM} {n d c : Nat} {D : Nat → Nat} (h : flC m m2 u n d c D) : m2 14 1 = nI (n + min c d) := h.2.1
theorem flC.who {m m2 u : zM} {n d c : Nat} {D : Nat → Nat} (h : flC m m2 u n d c D) : m2 14 2 = nI n := h.2.2.1
theorem flC.dwn {m m2 u : zM} {n d c : Nat} {D : Nat → Nat} (h : flC m m2 u n d c D) : m2 14 8 = nI 1 := h.2.2.2.1
theorem flC.old {m m2 u : zM} {n d c : Nat} {D : Nat → Nat} (h : flC m m2 u n d c D) : ∀ j, j < n → m2 15 j = m 15 j := h.2.2.2.2.1
theorem flC.new {m m2 u : zM} {n d c : Nat} {D : Nat → Nat} (h : flC m m2 u n d c D) : ∀ j, j < min c d → m2 15 (n + j) &&& 255 = nI (zrec D d j) := h.2.2.2.2.2.1
theorem flC.off {m m2 u : zM} {n d c : Nat} {D : Nat → Nat} (h : flC m m2 u n d c D) : m2 14 5 = 0 := h.2.2.2.2.2.2.1
theorem flC.c300 {m m2 u : zM} {n d c : Nat} {D : Nat → Nat} (h : flC m m2 u n d c D) : c ≤ 300 := h.2.2.2.2.2.2.2.1
theorem flC.arm {m m2 u : zM} {n d c : Nat} {D : Nat → Nat} (h : flC m m2 u n d c D) : u 42 4 = 0 := h.2.2.2.2.2.2.2.2.1
theorem flC.byt {m m2 u : zM} {n d c : Nat} {D : Nat → Nat} (h : flC m m2 u n d c D) : u 42 5 = nI c := h.2.2.2.2.2.2.2.2.2
theorem wr_c {m u m1 : zM} {J : Nat → Nat} {n d nT nQ nR nM : Nat} {D : Nat → Nat} (h : IX m u J n n 0 nT nQ nR nM) (h1 : ∀ a, a ≠ 14 → a ≠ 16 → m1 a = m a) (h14 : ∀ f, f ≠ 4 → m1 14 f = m 14 f) (hz : zPre m1 n d D) : (∃ m2, Ev 61 [.ref 14] m1 (some (.int 1)) m2 ∧ okC m m2 u n d D) ∨ ∃ m2 c, Ev 61 [.ref 14] m1 (some (.int 0)) m2 ∧ flC m m2 u n d c D := by
  obtain ⟨p1, p2, p3⟩ := h.p
  have e15 : m1 15 = m 15 := h1 15 (by decide) (by decide)
  rcases h.f with ⟨f1, f2⟩ | ⟨l, c, hl, hc, f1, f2, f3, f4, f5⟩
  · obtain ⟨m2, g1, ⟨c1, c2, c3, c4, c5, c6, c7, c8⟩, g3⟩ := cw_A hz (by rw [h14 5 (by decide), f1])
    refine Or.inl ⟨m2, g1, ⟨fun a a1 a2 a3 => by rw [c1 a a1 a2 a3, h1 a a1 a3], c2, c3, by rw [c4, h14 8 (by decide), p1], fun j hj => by rw [c7 j hj, e15], c8, Or.inl ⟨f2, by rw [c6, h14 5 (by decide), f1]⟩⟩⟩
  · rcases Nat.eq_zero_or_pos l with rfl | hl0
    · obtain ⟨m2, g1, ⟨c1, c2, c3, c4, c5, c6, c7⟩⟩ := cw_C (c := c) hz (by rw [h14 5 (by decide), f1]) (by rw [h14 6 (by decide), f2]) (by rw [h14 7 (by decide), f4]) hc
      exact Or.inr ⟨m2, c, g1, ⟨fun a a1 a2 a3 => by rw [c1 a a1 a2 a3, h1 a a1 a3], c2, by rw [c3, h14 2 (by decide), h.j.2.2.2.2.1], c4, fun j hj => by rw [c6 j hj, e15], c7, c5, hc, f3, f5⟩⟩
    · obtain ⟨l', rfl⟩ : ∃ l', l = l' + 1 := ⟨l - 1, by omega⟩
      obtain ⟨m2, g1, ⟨c1, c2, c3, c4, c5, c6, c7, c8⟩, g3⟩ := cw_B hz (by rw [h14 5 (by decide), f1]) (by rw [h14 6 (by decide), f2]) (by omega)
      exact Or.inl ⟨m2, g1, ⟨fun a a1 a2 a3 => by rw [c1 a a1 a2 a3, h1 a a1 a3], c2, c3, by rw [c4, h14 8 (by decide), p1], fun j hj => by rw [c7 j hj, e15], c8, Or.inr ⟨l', c, by omega, hc, f3, by rw [c6, h14 5 (by decide), f1], g3, by rw [c5, h14 7 (by decide), f4], f5⟩⟩⟩
/-- what the model's write leaves -/
def fr (x u' : zM) : Prop := (∀ a, a < 42 ∨ (43 ≤ a ∧ a ≤ 57) ∨ 74 ≤ a → u' a = x a) ∧ ∀ f, f ≠ 3 → f ≠ 4 → f ≠ 36 → f ≠ 38 → f ≠ 45 → f ≠ 47 → f ≠ 55 → u' 42 f = x 42 f
theorem mU_far {u : zM} {n d c a : Nat} {D : Nat → Nat} {x y : Int32} (h : a ≠ 42) (h2 : a ≠ 58) : mU u n d c D x y a = u a := by
  unfold mU
  rw [zup_n _ h, zup_n _ h, zup_n _ h, zwj_far h2]
theorem mU_42 {u : zM} {n d c f : Nat} {D : Nat → Nat} {x y : Int32} (h : f ≠ 36) (h2 : f ≠ 4) (h3 : f ≠ 3) : mU u n d c D x y 42 f = u 42 f := by
  unfold mU
  rw [zup_s, upd_n _ h3, zup_s, upd_n _ h2, zup_s, upd_n _ h, zwj_far (by decide)]
theorem mU_58 {u : zM} {n d c : Nat} {D : Nat → Nat} {x y : Int32} : mU u n d c D x y 58 = zwj u n (zrec D d) 0 c 58 := by
  unfold mU
  rw [zup_n _ (by decide), zup_n _ (by decide), zup_n _ (by decide)]
theorem mU_fr {u v : zM} {n d c : Nat} {D : Nat → Nat} {x y : Int32} (h : mF (mU u n d c D x y) v) : fr u v := by
  refine ⟨fun a ha => ?_, fun f f1 f2 f3 f4 f5 f6 f7 => ?_⟩
  · rw [h.1 a (by omega), mU_far (by omega) (by omega)]
  · rw [h.2 f f4 f5 f6 f7, mU_42 f3 f2 f1]
theorem zrec_lt {D : Nat → Nat} {d j : Nat} (h : ∀ i, i < d → D i < 256) (h3 : d ≤ 257) (hj : j < d + 1) : zrec D d j < 256 := by
  unfold zrec
  by_cases e : j = d
  · rw [if_pos e]
    have := Nat.mod_lt (nsum (fun i => if i = 1 then d - 2 else D i) 0 d) (show 251 > 0 by decide)
    omega
  · rw [if_neg e]
    by_cases e1 : j = 1
    · rw [if_pos e1]
      omega
    · rw [if_neg e1]
      exact h j (by omega)
theorem zrec_1 {D : Nat → Nat} {d : Nat} (h : 3 ≤ d) : zrec D d 1 = d - 2 := by
  unfold zrec
  rw [if_neg (by omega), if_pos rfl]
theorem wj_J {x u : zM} {J D : Nat → Nat} {n d k : Nat} (hJ : ∀ j, j < n → u 58 j = nI (J j)) (h58 : x 58 = u 58) {a b : Int32} : ∀ j, j < n + k → mU x n d k D a b 58 j = nI (jx J n (zrec D d) j) := by
  intro j hj
  rw [mU_58]
  by_cases e : j < n
  · rw [zwj_old _ _ _ _ _ _ (by omega), jx_lo e, h58, hJ j e]
  · obtain ⟨i, rfl⟩ : ∃ i, j = n + i := ⟨j - n, by omega⟩
    rw [zwj_new _ _ _ _ _ _ (by omega) (by omega), jx_hi]
/-- the model writes it whole too -/
theorem wr_ok {m m2 m' u x : zM} {J : Nat → Nat} {n d nT nQ nR nM nT' nQ' nR' nM' : Nat} {D : Nat → Nat} (h : IX m u J n n 0 nT nQ nR nM) (hC : okC m m2 u n d D) (hm : ∀ a, a < 18 → m' a = m2 a) (hx : ∀ a, 43 ≤ a → a ≠ 57 → a ≠ 74 → x a = u a) (hxf : ∀ f, f ≠ 34 → x 42 f = u 42 f) (hp : mPre x n d D)
    (hRI : RI m' (u 42 0) (jx J n (zrec D d)) (n + (d + 1)) nT' nQ' nR' nM') (hg : gW m' nT' nQ' nR' nM' (n + (d + 1))) (hk : kR2 m' x nR') (hlim : m' 19 0 = m 19 0) : ∃ u', Ev 190 [.ref 42, .int (nI (D 0))] x (some (.int 1)) u' ∧ IX m' u' (jx J n (zrec D d)) (n + (d + 1)) (n + (d + 1)) 0 nT' nQ' nR' nM' ∧ fr x u' := by
  obtain ⟨q1, q2, q3, q4, q5, q6, q7⟩ := id hp
  obtain ⟨p1, p2, p3⟩ := h.p
  obtain ⟨j1, j2, j3, j4, j5, j6⟩ := h.j
  have hx58 := hx 58 (by decide) (by decide) (by decide)
  have main : ∀ a : Int32, fR2 m2 (fun c f => if c = 42 ∧ f = 4 then a else u c f) → (∀ u', Ev 203 [.ref 42] (mU x n d (d + 1) D a 0) (some (.int (nI (n + (d + 1))))) u' → Ev 190 [.ref 42, .int (nI (D 0))] x (some (.int 1)) u') → ∃ u', Ev 190 [.ref 42, .int (nI (D 0))] x (some (.int 1)) u' ∧ IX m' u' (jx J n (zrec D d)) (n + (d + 1)) (n + (d + 1)) 0 nT' nQ' nR' nM' ∧ fr x u' := by
    intro a hfR hev
    have hJ := wj_J (x := x) (u := u) (J := J) (D := D) (n := n) (d := d) (k := d + 1) (fun j hj => (j4 j hj).2.1) hx58 (a := a) (b := 0)
    have h36 : mU x n d (d + 1) D a 0 42 36 = nI (n + (d + 1)) := by unfold mU; simp (disch := first | omega | decide) only [zcn, zkpl, zki, zki1, zk8, zk16, zo32, zlt0, zle0, zeq0, zgt0, zLe0, nI_ltI, nI_leI, nI_eq, nI_add, nI_clamp, vp_in_nI, zup_s, zup_n, upd_s, upd_n, ne_eq, not_true_eq_false, not_false_eq_true]
    have h04 : mU x n d (d + 1) D a 0 42 4 = a := by unfold mU; simp (disch := first | omega | decide) only [zcn, zkpl, zki, zki1, zk8, zk16, zo32, zlt0, zle0, zeq0, zgt0, zLe0, nI_ltI, nI_leI, nI_eq, nI_add, nI_clamp, vp_in_nI, zup_s, zup_n, upd_s, upd_n, ne_eq, not_true_eq_false, not_false_eq_true]
    have h03 : mU x n d (d + 1) D a 0 42 3 = 0 := by unfold mU; simp (disch := first | omega | decide) only [zcn, zkpl, zki, zki1, zk8, zk16, zo32, zlt0, zle0, zeq0, zgt0, zLe0, nI_ltI, nI_leI, nI_eq, nI_add, nI_clamp, vp_in_nI, zup_s, zup_n, upd_s, upd_n, ne_eq, not_true_eq_false, not_false_eq_true]
    obtain ⟨u', e1, e2, e3⟩ := RI_end hRI hJ h36 (Nat.le_refl _) (by omega) (by rw [mU_42 (by decide) (by decide) (by decide), hxf 0 (by decide)]) (Or.inl (by omega))
    have hfr := mU_fr e2
    have e58 : u' 58 = mU x n d (d + 1) D a 0 58 := e2.1 58 (by omega)
    have e4 : u' 42 4 = a := by rw [e2.2 4 (by decide) (by decide) (by decide) (by decide), h04]
    have e5 : u' 42 5 = u 42 5 := by rw [e2.2 5 (by decide) (by decide) (by decide) (by decide), mU_42 (by decide) (by decide) (by decide), hxf 5 (by decide)]
    have e74 : u' 74 = x 74 := hfr.1 74 (by omega)
    refine ⟨u', hev u' e1, ⟨⟨by rw [hm 14 (by decide), hC.len], by rw [e2.2 36 (by decide) (by decide) (by decide) (by decide), h36], by omega, fun j hj => ⟨?_, by rw [e58, hJ j hj], ?_⟩, by rw [hm 14 (by decide), hC.who], Nat.le_refl _⟩, ⟨by rw [hm 14 (by decide), hC.dwn], by rw [e2.2 3 (by decide) (by decide) (by decide) (by decide), h03]; rfl, by decide⟩, ?_, e3, hg, ?_, ?_, ?_, fun _ => rfl, Or.inl (by omega)⟩, hfr⟩
    · by_cases e : j < n
      · rw [jx_lo e]
        exact (j4 j e).1
      · obtain ⟨i, rfl⟩ : ∃ i, j = n + i := ⟨j - n, by omega⟩
        rw [jx_hi]
        exact zrec_lt q4 q3 (by omega)
    · rw [hm 15 (by decide)]
      by_cases e : j < n
      · rw [jx_lo e, hC.old j e]
        exact (j4 j e).2.2
      · obtain ⟨i, rfl⟩ : ∃ i, j = n + i := ⟨j - n, by omega⟩
        rw [jx_hi]
        exact hC.new i (by omega)
    · unfold fR2
      rw [hm 14 (by decide), e4, e5]
      exact hfR
    · rw [hfr.2 0 (by decide) (by decide) (by decide) (by decide) (by decide) (by decide) (by decide), hxf 0 (by decide)]
      exact hRI
    · unfold kR2
      rw [e74]
      exact hk
    · rw [hlim, h.lim, hfr.2 1 (by decide) (by decide) (by decide) (by decide) (by decide) (by decide) (by decide), hxf 1 (by decide)]
  have hd3 : x 42 3 = 0 := by rw [hxf 3 (by decide), p2]; rfl
  rcases hC.pow with ⟨w1, w2⟩ | ⟨l, c, hl, hcc, w1, w2, w3, w4, w5⟩
  · exact main (-1) (Or.inl ⟨w2, rfl⟩) (fun u' hu' => mw_A hp hd3 (by rw [hxf 4 (by decide), w1]) hu')
  · exact main (nI l) (Or.inr ⟨l, c, hl, hcc, w2, w3, rfl, w4, w5⟩) (fun u' hu' => mw_B hp hd3 hl (by rw [hxf 4 (by decide), w1]) hu')
/-- the power fails in the model too -/
theorem wr_fl' {m m2 m' u x : zM} {J : Nat → Nat} {n d c nT nQ nR nM : Nat} {D : Nat → Nat} (h : IX m u J n n 0 nT nQ nR nM) (hC : flC m m2 u n d c D) (hm : ∀ a, a < 42 → a ≠ 40 → m' a = m2 a) (hx : ∀ a, 43 ≤ a → a ≠ 57 → a ≠ 74 → x a = u a) (hxf : ∀ f, f ≠ 34 → x 42 f = u 42 f) (hp : mPre x n d D) (hk : kR2 m' x nR) : ∃ u', Ev 190 [.ref 42, .int (nI (D 0))] x (some (.int 0)) u' ∧ IX m' u' (jx J n (zrec D d)) (n + min c d) n 1 nT nQ nR nM ∧ fr x u' := by
  obtain ⟨q1, q2, q3, q4, q5, q6, q7⟩ := id hp
  obtain ⟨p1, p2, p3⟩ := h.p
  obtain ⟨j1, j2, j3, j4, j5, j6⟩ := h.j
  have hmin : min c d ≤ d := Nat.min_le_right _ _
  have hx58 := hx 58 (by decide) (by decide) (by decide)
  have hm' : ∀ a, 18 ≤ a → a ≤ 41 → a ≠ 40 → m' a = m a := fun a g1 g2 g3 => by rw [hm a (by omega) g3, hC.far a (by omega) (by omega) (by omega)]
  have hJ := wj_J (x := x) (u := u) (J := J) (D := D) (n := n) (d := d) (k := min c d) (fun j hj => (j4 j hj).2.1) hx58 (a := -1) (b := 1)
  have h36 : mU x n d (min c d) D (-1) 1 42 36 = nI (n + min c d) := by unfold mU; simp (disch := first | omega | decide) only [zcn, zkpl, zki, zki1, zk8, zk16, zo32, zlt0, zle0, zeq0, zgt0, zLe0, nI_ltI, nI_leI, nI_eq, nI_add, nI_clamp, vp_in_nI, zup_s, zup_n, upd_s, upd_n, ne_eq, not_true_eq_false, not_false_eq_true]
  have h04 : mU x n d (min c d) D (-1) 1 42 4 = -1 := by unfold mU; simp (disch := first | omega | decide) only [zcn, zkpl, zki, zki1, zk8, zk16, zo32, zlt0, zle0, zeq0, zgt0, zLe0, nI_ltI, nI_leI, nI_eq, nI_add, nI_clamp, vp_in_nI, zup_s, zup_n, upd_s, upd_n, ne_eq, not_true_eq_false, not_false_eq_true]
  have h03 : mU x n d (min c d) D (-1) 1 42 3 = 1 := by unfold mU; simp (disch := first | omega | decide) only [zcn, zkpl, zki, zki1, zk8, zk16, zo32, zlt0, zle0, zeq0, zgt0, zLe0, nI_ltI, nI_leI, nI_eq, nI_add, nI_clamp, vp_in_nI, zup_s, zup_n, upd_s, upd_n, ne_eq, not_true_eq_false, not_false_eq_true]
  have ri := RI_congr h.ri (J' := jx J n (zrec D d)) hm' (fun j hj => jx_lo hj)
  have tl : n + min c d ≤ n + 1 ∨ n + min c d < n + 3 + jx J n (zrec D d) (n + 1) := by
    rw [jx_hi, zrec_1 q2]
    omega
  obtain ⟨u', e1, e2, e3⟩ := RI_end (b := n + min c d) ri (fun j hj => hJ j (by omega)) h36 (by omega) (by omega) (by rw [mU_42 (by decide) (by decide) (by decide), hxf 0 (by decide)]) (by
    by_cases e : min c d ≤ 1
    · exact Or.inl (by omega)
    · refine Or.inr ⟨d - 2, ?_, by omega, by omega⟩
      rw [hJ (n + 1) (by omega), jx_hi, zrec_1 q2])
  have hfr := mU_fr e2
  have e58 : u' 58 = mU x n d (min c d) D (-1) 1 58 := e2.1 58 (by omega)
  have e4 : u' 42 4 = -1 := by rw [e2.2 4 (by decide) (by decide) (by decide) (by decide), h04]
  have e74 : u' 74 = x 74 := hfr.1 74 (by omega)
  have hev := mw_C hp (by rw [hxf 3 (by decide), p2]; rfl) hC.c300 (by rw [hxf 4 (by decide), hC.arm]) (by rw [hxf 5 (by decide), hC.byt]) e1
  refine ⟨u', hev, ⟨⟨by rw [hm 14 (by decide) (by decide), hC.len], by rw [e2.2 36 (by decide) (by decide) (by decide) (by decide), h36], by omega, fun j hj => ⟨?_, by rw [e58, hJ j hj], ?_⟩, by rw [hm 14 (by decide) (by decide), hC.who], by omega⟩, ⟨by rw [hm 14 (by decide) (by decide), hC.dwn], by rw [e2.2 3 (by decide) (by decide) (by decide) (by decide), h03]; rfl, by decide⟩, Or.inl ⟨by rw [hm 14 (by decide) (by decide), hC.off], e4⟩, e3, gW_congr h.g hm', ?_, ?_, ?_, fun e => absurd e (by decide), tl⟩, hfr⟩
  · by_cases e : j < n
    · rw [jx_lo e]
      exact (j4 j e).1
    · obtain ⟨i, rfl⟩ : ∃ i, j = n + i := ⟨j - n, by omega⟩
      rw [jx_hi]
      exact zrec_lt q4 q3 (by omega)
  · rw [hm 15 (by decide) (by decide)]
    by_cases e : j < n
    · rw [jx_lo e, hC.old j e]
      exact (j4 j e).2.2
    · obtain ⟨i, rfl⟩ : ∃ i, j = n + i := ⟨j - n, by omega⟩
      rw [jx_hi]
      exact hC.new i (by omega)
  · rw [hfr.2 0 (by decide) (by decide) (by decide) (by decide) (by decide) (by decide) (by decide), hxf 0 (by decide)]
    exact ri
  · unfold kR2
    rw [e74]
    exact hk
  · rw [hm' 19 (by decide) (by decide) (by decide), h.lim, hfr.2 1 (by decide) (by decide) (by decide) (by decide) (by decide) (by decide) (by decide), hxf 1 (by decide)]

theorem wr_fl {m m2 m' u x : zM} {J : Nat → Nat} {n d c nT nQ nR nM : Nat} {D : Nat → Nat} (h : IX m u J n n 0 nT nQ nR nM) (hC : flC m m2 u n d c D) (hm : ∀ a, a < 42 → a ≠ 40 → m' a = m2 a) (hx : ∀ a, 43 ≤ a → a ≠ 57 → a ≠ 74 → x a = u a) (hxf : ∀ f, f ≠ 34 → x 42 f = u 42 f) (hp : mPre x n d D) (hk : kR2 m' x nR) : ∃ u' n' J', Ev 190 [.ref 42, .int (nI (D 0))] x (some (.int 0)) u' ∧ IX m' u' J' n' n 1 nT nQ nR nM ∧ fr x u' := by
  obtain ⟨u', e1, e2, e3⟩ := wr_fl' h hC hm hx hxf hp hk
  exact ⟨u', _, _, e1, e2, e3⟩
