/-! the shape of a valid document: by depths as the class sees it, by parents as the model does -/
def lay (s : pS) : Prop := 0 < s 0 1 ∧ s 3 0 = 0 ∧ ∀ i, 0 < i → i < s 0 1 → s 9 i < i ∧ s 3 (s 9 i) + 1 = s 3 i ∧ ∀ j, s 9 i < j → j < i → s 3 i ≤ s 3 j
theorem kc_m {f : Nat → Nat} {e : Nat} {a : Nat} : ∀ n, kc f e a ≤ kc f e (a + n) := by
  intro n
  induction n with
  | zero => exact Nat.le_refl _
  | succ n ih =>
    rw [show a + (n + 1) = (a + n) + 1 by omega, kc]
    omega
theorem kc_mono {f : Nat → Nat} {e a b : Nat} (h : a ≤ b) : kc f e a ≤ kc f e b := by
  have := kc_m (f := f) (e := e) (a := a) (b - a)
  rwa [show a + (b - a) = b by omega] at this
theorem kc_1 {f : Nat → Nat} {e a : Nat} (h0 : a ≠ 0) (h : f a = e) : kc f e (a + 1) = kc f e a + 1 := by
  rw [kc, if_pos ⟨h0, h⟩]
theorem kc_z {f : Nat → Nat} {e a : Nat} (h : f a ≠ e) : kc f e (a + 1) = kc f e a := by
  rw [kc, if_neg (fun g => h g.2), Nat.add_zero]
theorem ch_some {s : pS} {e k c : Nat} (h : chF (s 9) e (s 0 1) 0 k = some c) : 0 < c ∧ c < s 0 1 ∧ s 9 c = e ∧ kc (s 9) e c = k := by
  obtain ⟨a1, a2, a3, a4, a5⟩ := (ch_spec (f := s 9) (e := e) (s 0 1) 0 k).1 c h
  refine ⟨by omega, by omega, a4, ?_⟩
  rw [a5, kc]
  omega
theorem ch_none {s : pS} {e k : Nat} (h : chF (s 9) e (s 0 1) 0 k = none) : kc (s 9) e (s 0 1) ≤ k := by
  have := (ch_spec (f := s 9) (e := e) (s 0 1) 0 k).2 h
  rw [Nat.zero_add, kc] at this
  omega
theorem ch_is {s : pS} {e k c : Nat} (h0 : 0 < c) (h1 : c < s 0 1) (h2 : s 9 c = e) (h3 : kc (s 9) e c = k) : chF (s 9) e (s 0 1) 0 k = some c := by
  have k1 := kc_1 (f := s 9) (e := e) (a := c) (by omega) h2
  cases ho : chF (s 9) e (s 0 1) 0 k with
  | none =>
    have := ch_none ho
    have := kc_mono (f := s 9) (e := e) (a := c + 1) (b := s 0 1) (by omega)
    omega
  | some c' =>
    obtain ⟨a1, a2, a3, a4⟩ := ch_some ho
    have k2 := kc_1 (f := s 9) (e := e) (a := c') (by omega) a3
    by_cases e1 : c = c'
    · rw [e1]
    · exfalso
      by_cases e2 : c < c'
      · have := kc_mono (f := s 9) (e := e) (a := c + 1) (b := c') (by omega)
        omega
      · have := kc_mono (f := s 9) (e := e) (a := c' + 1) (b := c) (by omega)
        omega
theorem dep0 {s : pS} (h : lay s) {i : Nat} (hi : i < s 0 1) (hd : s 3 i = 0) : i = 0 := by
  by_cases e : i = 0
  · exact e
  · have := (h.2.2 i (by omega) hi).2.1
    omega
theorem ch_first {s : pS} (h : lay s) {e c : Nat} (hc' : chF (s 9) e (s 0 1) 0 0 = some c) : c = e + 1 := by
  obtain ⟨a1, a2, a3, a4⟩ := ch_some hc'
  obtain ⟨l1, l2, l3⟩ := h.2.2 c a1 a2
  by_cases e1 : c = e + 1
  · exact e1
  · exfalso
    obtain ⟨q1, q2, q3⟩ := h.2.2 (e + 1) (by omega) (by omega)
    have d1 := l3 (e + 1) (by omega) (by omega)
    rw [a3] at l2
    have : s 9 (e + 1) = e := by
      by_cases g : s 9 (e + 1) = e
      · exact g
      · have := q3 e (by omega) (by omega)
        omega
    have := kc_1 (f := s 9) (e := e) (a := e + 1) (by omega) this
    have := kc_mono (f := s 9) (e := e) (a := e + 1 + 1) (b := c) (by omega)
    omega
/-- the next that lies beside c, its own lying up to x -/
theorem ch_next {s : pS} (h : lay s) {e c x k c' : Nat} (c0 : 0 < c) (cN : c < s 0 1) (hf : s 9 c = e) (hk : kc (s 9) e c = k) (hx : c < x) (hin : ∀ j, c < j → j < x → s 3 c < s 3 j) (hout : x < s 0 1 → s 3 x ≤ s 3 c) (hc' : chF (s 9) e (s 0 1) 0 (k + 1) = some c') : c' = x := by
  obtain ⟨a1, a2, a3, a4⟩ := ch_some hc'
  obtain ⟨l1, l2, l3⟩ := h.2.2 c' a1 a2
  obtain ⟨q1, q2, q3⟩ := h.2.2 c c0 cN
  rw [a3] at l1 l2 l3
  rw [hf] at q1 q2 q3
  have g1 : c < c' := by
    by_cases g : c < c'
    · exact g
    · have := kc_mono (f := s 9) (e := e) (a := c') (b := c) (by omega)
      omega
  have g2 : x ≤ c' := by
    by_cases g : x ≤ c'
    · exact g
    · have := hin c' g1 (by omega)
      omega
  by_cases e1 : c' = x
  · exact e1
  · exfalso
    have d1 := hout (by omega)
    have d2 := l3 x (by omega) (by omega)
    obtain ⟨p1, p2, p3⟩ := h.2.2 x (by omega) (by omega)
    have pe : s 9 x = e := by
      by_cases g : s 9 x = e
      · exact g
      · by_cases g' : s 9 x < e
        · have := p3 e g' (by omega)
          omega
        · have := l3 (s 9 x) (by omega) (by omega)
          omega
    have k1 := kc_1 (f := s 9) (e := e) (a := c) (by omega) hf
    have k2 := kc_1 (f := s 9) (e := e) (a := x) (by omega) pe
    have := kc_mono (f := s 9) (e := e) (a := c + 1) (b := x) (by omega)
    have := kc_mono (f := s 9) (e := e) (a := x + 1) (b := c') (by omega)
    omega
theorem leaf_d {s : pS} (h : lay s) {c : Nat} (hl : kc (s 9) c (s 0 1) = 0) (hN : c + 1 < s 0 1) : s 3 (c + 1) ≤ s 3 c := by
  obtain ⟨q1, q2, q3⟩ := h.2.2 (c + 1) (by omega) hN
  by_cases e : s 9 (c + 1) = c
  · have := kc_1 (f := s 9) (e := c) (a := c + 1) (by omega) e
    have := kc_mono (f := s 9) (e := c) (a := c + 1 + 1) (b := s 0 1) (by omega)
    omega
  · exact q3 c (by omega) (by omega)
theorem kc_e {s : pS} (h : lay s) {e : Nat} (he : e < s 0 1) : kc (s 9) e (e + 1) = 0 := by
  refine kc_0 _ (fun j h0 h1 => ?_)
  have := (h.2.2 j h0 (by omega)).1
  omega
/-- a transaction, as the model sees it -/
def PT (s : pS) (e : Nat) : Prop := s 2 e = 84 ∧ kc (s 9) e (s 0 1) = 4 ∧ s 6 e = 0 ∧ ∀ i, i < 4 → (e + 1 + i < s 0 1 ∧ s 9 (e + 1 + i) = e ∧ s 2 (e + 1 + i) = rl 1 (i + 1) ∧ kc (s 9) (e + 1 + i) (s 0 1) = 0 ∧ gV s (e + 1 + i))
theorem PT_kc {s : pS} (h : lay s) {e : Nat} (he : e < s 0 1) (hf : ∀ i, i < 4 → (e + 1 + i < s 0 1 ∧ s 9 (e + 1 + i) = e)) : ∀ i, i ≤ 4 → kc (s 9) e (e + 1 + i) = i := by
  intro i
  induction i with
  | zero => intro _; exact kc_e h he
  | succ i ih =>
    intro hi
    rw [show e + 1 + (i + 1) = (e + 1 + i) + 1 by omega, kc_1 (by omega) (hf i (by omega)).2, ih (by omega)]
theorem PT_out {s : pS} (h : lay s) {e : Nat} (e0 : 0 < e) (he : e < s 0 1) (hp : PT s e) : (∀ j, e < j → j < e + 5 → s 3 e < s 3 j) ∧ (e + 5 < s 0 1 → s 3 (e + 5) ≤ s 3 e) := by
  obtain ⟨p1, p2, p3, p4⟩ := hp
  have hd : ∀ i, i < 4 → s 3 (e + 1 + i) = s 3 e + 1 := fun i hi => by
    obtain ⟨q1, q2, _⟩ := p4 i hi
    have := (h.2.2 (e + 1 + i) (by omega) q1).2.1
    rw [q2] at this
    omega
  refine ⟨fun j h1 h2 => ?_, fun hN => ?_⟩
  · have := hd (j - (e + 1)) (by omega)
    rw [show e + 1 + (j - (e + 1)) = j by omega] at this
    omega
  · have d1 := leaf_d h (p4 3 (by omega)).2.2.2.1 (show e + 1 + 3 + 1 < s 0 1 by omega)
    rw [hd 3 (by omega)] at d1
    have d1 : s 3 (e + 5) ≤ s 3 e + 1 := d1
    obtain ⟨q1, q2, q3⟩ := h.2.2 (e + 5) (by omega) hN
    by_cases g : s 3 (e + 5) ≤ s 3 e
    · exact g
    · exfalso
      have pe : s 9 (e + 5) = e := by
        by_cases g' : s 9 (e + 5) = e
        · exact g'
        · by_cases g2 : s 9 (e + 5) < e
          · have := q3 e g2 (by omega)
            omega
          · have := hd (s 9 (e + 5) - (e + 1)) (by omega)
            rw [show e + 1 + (s 9 (e + 5) - (e + 1)) = s 9 (e + 5) by omega] at this
            omega
      have k0 := PT_kc h he (fun i hi => ⟨(p4 i hi).1, (p4 i hi).2.1⟩) 4 (Nat.le_refl 4)
      have k1 := kc_1 (f := s 9) (e := e) (a := e + 5) (by omega) pe
      have k0 : kc (s 9) e (e + 5) = 4 := k0
      have := kc_mono (f := s 9) (e := e) (a := e + 5 + 1) (b := s 0 1) (by omega)
      omega
/-- a leaf of the message, as the model sees it -/
def LF (s : pS) (i c : Nat) : Prop := i < s 0 1 ∧ s 9 i = 0 ∧ s 2 i = c ∧ kc (s 9) i (s 0 1) = 0 ∧ gV s i
theorem lay_end {s : pS} (h : lay s) {c x k : Nat} (cN : c < s 0 1) (c0 : 0 < c) (hf : s 9 c = 0) (hk : kc (s 9) 0 c = k) (hK : kc (s 9) 0 (s 0 1) = k + 1) (hx : c < x) (hout : x < s 0 1 → s 3 x ≤ s 3 c) : s 0 1 ≤ x := by
  by_cases g : s 0 1 ≤ x
  · exact g
  · exfalso
    have d1 := hout (by omega)
    obtain ⟨q1, q2, q3⟩ := h.2.2 c c0 cN
    rw [hf, h.2.1] at q2
    obtain ⟨p1, p2, p3⟩ := h.2.2 x (by omega) (by omega)
    have : s 9 x = 0 := dep0 h (by omega) (by omega)
    have k1 := kc_1 (f := s 9) (e := 0) (a := c) (by omega) hf
    have k2 := kc_1 (f := s 9) (e := 0) (a := x) (by omega) this
    have := kc_mono (f := s 9) (e := 0) (a := c + 1) (b := x) (by omega)
    have := kc_mono (f := s 9) (e := 0) (a := x + 1) (b := s 0 1) (by omega)
    omega
/-- the parents in a valid message -/
def pz (i : Nat) : Nat := if i < 4 then 0 else if (i - 4) % 5 = 0 then 0 else i - (i - 4) % 5
def dz (i : Nat) : Nat := if i = 0 then 0 else if i < 4 then 1 else if (i - 4) % 5 = 0 then 1 else 2
theorem par_z {s : pS} (h : lay s) (hd : ∀ i, i < s 0 1 → s 3 i = dz i) : ∀ i, 0 < i → i < s 0 1 → s 9 i = pz i := by
  intro i h0 hi
  obtain ⟨q1, q2, q3⟩ := h.2.2 i h0 hi
  have d1 := hd i hi
  have d2 := hd (s 9 i) (by omega)
  unfold dz at d1
  unfold pz
  by_cases e1 : i < 4
  · rw [if_neg (by omega), if_pos e1] at d1
    rw [if_pos e1]
    exact dep0 h (by omega) (by omega)
  · rw [if_neg (by omega), if_neg e1] at d1
    rw [if_neg e1]
    by_cases e2 : (i - 4) % 5 = 0
    · rw [if_pos e2] at d1
      rw [if_pos e2]
      exact dep0 h (by omega) (by omega)
    · rw [if_neg e2] at d1
      rw [if_neg e2]
      have hq : i - (i - 4) % 5 < s 0 1 := by omega
      have dq := hd (i - (i - 4) % 5) hq
      have hz : dz (i - (i - 4) % 5) = 1 := by
        unfold dz
        rw [if_neg (by omega), if_neg (by omega), if_pos (by omega)]
      by_cases e3 : s 9 i = i - (i - 4) % 5
      · exact e3
      · exfalso
        by_cases e4 : s 9 i < i - (i - 4) % 5
        · have := q3 _ e4 (by omega)
          omega
        · unfold dz at d2
          rw [if_neg (by omega), if_neg (by omega), if_neg (by omega)] at d2
          omega
theorem kc_cg {f g : Nat → Nat} {e : Nat} : ∀ n, (∀ i, 0 < i → i < n → f i = g i) → kc f e n = kc g e n := by
  intro n
  induction n with
  | zero => intro _; rfl
  | succ n ih =>
    intro h
    rw [kc, kc, ih (fun i h0 h1 => h i h0 (by omega))]
    by_cases e : n = 0
    · subst e
      rfl
    · rw [h n (by omega) (by omega)]
theorem kc_pz0 : kc pz 0 4 = 3 ∧ kc pz 0 9 = 4 ∧ kc pz 0 14 = 5 ∧ kc pz 0 19 = 6 := by decide
theorem kc_pzl : ∀ N, (N = 4 ∨ N = 9 ∨ N = 14 ∨ N = 19) → ∀ i, i < N → (0 < i ∧ (i < 4 ∨ (i - 4) % 5 ≠ 0) → kc pz i N = 0) ∧ (4 ≤ i ∧ (i - 4) % 5 = 0 → kc pz i N = 4) := by
  intro N hN
  rcases hN with rfl | rfl | rfl | rfl <;> decide
theorem kc_pze : ∀ i, i < 20 → kc pz 0 i = (if i ≤ 1 then 0 else if i ≤ 4 then i - 1 else 3 + (i - 5) / 5 + 1) := by decide
