/-! a transaction read by the model -/
def mS (u : zM) (s : pS) : Prop := mV u s ∧ ∀ i, i < s 0 1 → rt u s i
def tr1 (u : zM) (s : pS) (i : Nat) : Prop := u 48 i = nI (tb s i) ∧ u 49 i = nI (te s i)
def nG (u u' : zM) : Prop := (∀ a, a < 42 ∨ a = 43 ∨ 57 ≤ a → u' a = u a) ∧ ∀ f, f < 22 ∨ 32 < f → u' 42 f = u 42 f
def mgo (s : pS) (u u' : zM) : Prop := nG u u' ∧ mS u' s ∧ ∀ i, i < s 0 1 → tr1 u s i → tr1 u' s i
theorem mgo.tr {s : pS} {u u' u'' : zM} (h : mgo s u u') (h' : mgo s u' u'') : mgo s u u'' := ⟨⟨fun a ha => (h'.1.1 a ha).trans (h.1.1 a ha), fun f hf => (h'.1.2 f hf).trans (h.1.2 f hf)⟩, h'.2.1, fun i hi g => h'.2.2 i hi (h.2.2 i hi g)⟩
theorem mgo_r {s : pS} {u : zM} (h : mS u s) : mgo s u u := ⟨⟨fun _ _ => rfl, fun _ _ => rfl⟩, h, fun _ _ g => g⟩
theorem mV.cg {u u' : zM} {s : pS} (h : mV u s) (h1 : u' 42 14 = u 42 14) (h2 : ∀ a, a = 44 ∨ a = 45 ∨ a = 46 ∨ a = 47 ∨ a = 50 → u' a = u a) : mV u' s := by
  unfold mV
  rw [h1, h2 44 (by decide), h2 45 (by decide), h2 46 (by decide), h2 47 (by decide), h2 50 (by decide)]
  exact h
theorem mgo_tm {s : pS} {u : zM} (h : mS u s) {i : Nat} : mgo s u (tmm u s i) ∧ tr1 (tmm u s i) s i := by
  have e48 : tmm u s i 48 = upd (u 48) i (nI (tb s i)) := rfl
  have e49 : tmm u s i 49 = upd (u 49) i (nI (te s i)) := rfl
  have ft : ∀ a, a ≠ 48 → a ≠ 49 → tmm u s i a = u a := fun a h1 h2 => by
    unfold tmm
    rw [zup_n _ h2, zup_n _ h1]
  have hti : tr1 (tmm u s i) s i := ⟨by rw [e48, upd_s], by rw [e49, upd_s]⟩
  refine ⟨⟨⟨fun a ha => ft a (by omega) (by omega), fun f hf => by rw [ft 42 (by decide) (by decide)]⟩, ⟨h.1.cg (by rw [ft 42 (by decide) (by decide)]) (fun a ha => ft a (by omega) (by omega)), fun j hj => ?_⟩, fun j hj g => ?_⟩, hti⟩
  · by_cases e : j = i
    · rw [e]
      exact Or.inr hti
    · unfold rt
      rw [e48, e49, upd_n _ e, upd_n _ e]
      exact h.2 j hj
  · by_cases e : j = i
    · rw [e]
      exact hti
    · unfold tr1
      rw [e48, e49, upd_n _ e, upd_n _ e]
      exact g
theorem mgo_w {s : pS} {u : zM} (h : mS u s) {a k : Nat} (x : Int32) (ha : 52 ≤ a ∧ a ≤ 56) : mgo s u (zup u a k x) := by
  have ft : ∀ b, b < 52 → zup u a k x b = u b := fun b hb => zup_n _ (by omega)
  refine ⟨⟨fun b hb => zup_n _ (by omega), fun f hf => by rw [ft 42 (by decide)]⟩, ⟨h.1.cg (by rw [ft 42 (by decide)]) (fun b hb => ft b (by omega)), fun j hj => ?_⟩, fun j hj g => ?_⟩
  · unfold rt
    rw [ft 48 (by decide), ft 49 (by decide)]
    exact h.2 j hj
  · unfold tr1
    rw [ft 48 (by decide), ft 49 (by decide)]
    exact g
theorem mgo_f {s : pS} {u : zM} (h : mS u s) {f : Nat} (x : Int32) (hf : 22 ≤ f ∧ f ≤ 32) : mgo s u (zup u 42 f x) := by
  have ft : ∀ b, b ≠ 42 → zup u 42 f x b = u b := fun b hb => zup_n _ hb
  refine ⟨⟨fun b hb => ft b (by omega), fun g hg => by rw [zup_s, upd_n _ (by omega)]⟩, ⟨h.1.cg (by rw [zup_s, upd_n _ (by omega)]) (fun b hb => ft b (by omega)), fun j hj => ?_⟩, fun j hj g => ?_⟩
  · unfold rt
    rw [ft 48 (by decide), ft 49 (by decide)]
    exact h.2 j hj
  · unfold tr1
    rw [ft 48 (by decide), ft 49 (by decide)]
    exact g
theorem mS.uv {s : pS} {u : zM} (hs : mdy s) (h : mS u s) {i : Nat} (hi : i < s 0 1) (ht : tr1 u s i) : uV u s i (tb s i) (vlen s i) := by
  have hb := (hs.1.2.2 i hi).2.2.1
  obtain ⟨t1, t2, t3⟩ := tbe hb.1
  have := hs.1.2.1
  refine ⟨hs.1.1, h.1.2.2.1, ht.1, ?_, ?_, by omega⟩
  · rw [ht.2]
    unfold vlen
    congr 1
    omega
  · unfold vlen
    omega
theorem nv37_b {f : Nat → Nat} {b l : Nat} (h1 : 1 ≤ l) (hl : l ≤ 4) (h : nOK f b l) : 1 ≤ nv37 f l 0 b ∧ nv37 f l 0 b < 2000000 := by
  have h' : ∀ j, j < l → 1 ≤ v37 (f (b + j)) ∧ v37 (f (b + j)) ≤ 36 := fun j hj => by
    have := h j hj
    unfold isN at this
    unfold v37
    split <;> omega
  rcases (show l = 1 ∨ l = 2 ∨ l = 3 ∨ l = 4 by omega) with rfl | rfl | rfl | rfl
  · have a0 := h' 0 (by omega)
    simp only [nv37]
    simp only [Nat.add_zero] at a0
    omega
  · have a0 := h' 0 (by omega)
    have a1 := h' 1 (by omega)
    simp only [nv37]
    simp only [Nat.add_zero] at a0
    omega
  · have a0 := h' 0 (by omega)
    have a1 := h' 1 (by omega)
    have a2 : 1 ≤ v37 (f (b + 1 + 1)) ∧ v37 (f (b + 1 + 1)) ≤ 36 := h' 2 (by omega)
    simp only [nv37]
    simp only [Nat.add_zero] at a0
    omega
  · have a0 := h' 0 (by omega)
    have a1 := h' 1 (by omega)
    have a2 : 1 ≤ v37 (f (b + 1 + 1)) ∧ v37 (f (b + 1 + 1)) ≤ 36 := h' 2 (by omega)
    have a3 : 1 ≤ v37 (f (b + 1 + 1 + 1)) ∧ v37 (f (b + 1 + 1 + 1)) ≤ 36 := h' 3 (by omega)
    simp only [nv37]
    simp only [Nat.add_zero] at a0
    omega
/-- the values of transaction t, element e -/
def vT (u : zM) (s : pS) (t e : Nat) : Prop := u 52 t = nI (nv37 (s 8) (vlen s (e + 1)) 0 (tb s (e + 1))) ∧ u 53 t = nI (s 8 (tb s (e + 2)) - 65) ∧ u 54 t = nI (s 8 (tb s (e + 3)) - 65) ∧ u 55 (2 * t) = nI (dvl (s 8) 2 0 (tb s (e + 2) + 1)) ∧ u 55 (2 * t + 1) = nI (dvl (s 8) 2 0 (tb s (e + 3) + 1)) ∧ ∃ v, AM (s 8) (tb s (e + 4)) (vlen s (e + 4)) v ∧ u 56 t = nI v
theorem PT_ch {s : pS} (h : lay s) {e : Nat} (he : e < s 0 1) (hp : PT s e) : ∀ k, k < 4 → lfO s e k (rl 1 (k + 1)) (e + 1 + k) := by
  intro k hk
  obtain ⟨p1, p2, p3, p4⟩ := hp
  obtain ⟨q1, q2, q3, q4, q5⟩ := p4 k hk
  exact ⟨ch_is (by omega) q1 q2 (PT_kc h he (fun i hi => ⟨(p4 i hi).1, (p4 i hi).2.1⟩) k (by omega)), q3, q4⟩
theorem lf_seq {s : pS} (h : lay s) {e : Nat} {c : Nat → Nat} : ∀ k, (∀ j, j ≤ k → ∃ i, lfO s e j (c j) i) → ∀ j, j ≤ k → lfO s e j (c j) (e + 1 + j) := by
  intro k
  induction k with
  | zero =>
    intro hj j h0
    obtain rfl : j = 0 := by omega
    obtain ⟨i, g⟩ := hj 0 (by omega)
    obtain rfl := ch_first h g.1
    exact g
  | succ k ih =>
    intro hj j h0
    by_cases e1 : j ≤ k
    · exact ih (fun j hj' => hj j (by omega)) j e1
    · obtain rfl : j = k + 1 := by omega
      have g := ih (fun j hj' => hj j (by omega)) k (Nat.le_refl k)
      obtain ⟨i, gi⟩ := hj (k + 1) (by omega)
      obtain ⟨a1, a2, a3, a4⟩ := ch_some g.1
      have := ch_next h a1 a2 a3 a4 (x := e + 1 + k + 1) (by omega) (fun j h1 h2 => by omega) (fun hN => leaf_d h g.2.2 hN) gi.1
      rw [show e + 1 + (k + 1) = e + 1 + k + 1 by omega, ← this]
      exact gi
/-- the four leaves of a transaction: the first k of them trimmed -/
theorem lf_run {s : pS} (hs : mdy s) (h : lay s) {e : Nat} (he : e < 75) {c : Nat → Nat} (k : Nat) (hk : k ≤ 10) (hc8 : c k ≤ 126) {x y z : Int32} (hx : x = nI e) (hy : y = nI k) (hz : z = nI (c k)) {u : zM} (hm : mS u s) (hprev : ∀ j, j < k → lfO s e j (c j) (e + 1 + j)) : (lfO s e k (c k) (e + 1 + k) ∧ Ev 173 [.ref 42, .int x, .int y, .int z] u (some (.int 1)) (tmm u s (e + 1 + k))) ∨ ((¬ ∃ i, lfO s e k (c k) i) ∧ Ev 173 [.ref 42, .int x, .int y, .int z] u (some (.int 0)) u) := by
  have hl := es_leaf hs hm.1 e k (c k) hx hy hz he hk hc8 hm.2
  rcases Classical.em (∃ i, lfO s e k (c k) i) with g | g
  · have gk := lf_seq h k (c := c) (fun j hj => by
      by_cases e1 : j = k
      · rw [e1]
        exact g
      · exact ⟨_, hprev j (by omega)⟩) k (Nat.le_refl k)
    exact Or.inl ⟨gk, hl.1 _ gk⟩
  · exact Or.inr ⟨g, hl.2 g⟩
