/-! valid for the class and valid for the model -/
def VP (s : pS) (n : Nat) : Prop := s 6 0 = 0 ∧ kc (s 9) 0 (s 0 1) = 3 + n ∧ (LF s 1 73 ∧ LF s 2 78 ∧ LF s 3 83) ∧ ∀ t, t < n → (4 + 5 * t < s 0 1 ∧ s 9 (4 + 5 * t) = 0 ∧ kc (s 9) 0 (4 + 5 * t) = 3 + t ∧ PT s (4 + 5 * t))
def VQ (s : pS) (c : Nat) : Prop := s 6 0 = 0 ∧ kc (s 9) 0 (s 0 1) = 3 ∧ LF s 1 73 ∧ LF s 2 79 ∧ LF s 3 c
theorem LF_d {s : pS} (h : lay s) {i c : Nat} (h0 : 0 < i) (hl : LF s i c) : s 3 i = 1 := by
  have := (h.2.2 i h0 hl.1).2.1
  rw [hl.2.1, h.2.1] at this
  omega
theorem LF_kc {s : pS} (h : lay s) {c1 c2 c3 : Nat} (h1 : LF s 1 c1) (h2 : LF s 2 c2) (h3 : LF s 3 c3) : kc (s 9) 0 1 = 0 ∧ kc (s 9) 0 2 = 1 ∧ kc (s 9) 0 3 = 2 ∧ kc (s 9) 0 4 = 3 := by
  have k1 : kc (s 9) 0 1 = 0 := kc_e h (e := 0) h.1
  have k2 : kc (s 9) 0 2 = kc (s 9) 0 1 + 1 := kc_1 (f := s 9) (e := 0) (a := 1) (by omega) h1.2.1
  have k3 : kc (s 9) 0 3 = kc (s 9) 0 2 + 1 := kc_1 (f := s 9) (e := 0) (a := 2) (by omega) h2.2.1
  have k4 : kc (s 9) 0 4 = kc (s 9) 0 3 + 1 := kc_1 (f := s 9) (e := 0) (a := 3) (by omega) h3.2.1
  omega
theorem VP_cl {s : pS} (h : lay s) (h80 : s 2 0 = 80) {n : Nat} (n1 : 1 ≤ n) (n3 : n ≤ 3) (hv : VP s n) : clV s := by
  obtain ⟨v1, v2, ⟨v3, v4, v5⟩, v6⟩ := hv
  obtain ⟨w1, w2, w3, w4⟩ := v6 (n - 1) (by omega)
  obtain ⟨o1, o2⟩ := PT_out h (by omega) w1 w4
  have e1 := lay_end h w1 (by omega) w2 w3 (by rw [v2]; omega) (x := 4 + 5 * (n - 1) + 5) (by omega) o2
  have e2 := (w4.2.2.2 3 (by omega)).1
  refine Or.inl ⟨h80, n, n1, n3, by omega, ⟨⟨h.1, h80, h.2.1, v1⟩, fun i g1 g2 => ?_⟩, fun t ht => ?_⟩
  · have g2 : i < 4 := g2
    have : i = 1 ∨ i = 2 ∨ i = 3 := by omega
    unfold rwO
    rw [Nat.zero_add]
    rcases this with rfl | rfl | rfl
    · exact ⟨⟨v3.1, v3.2.2.1, LF_d h (by omega) v3⟩, v3.2.2.2.2⟩
    · exact ⟨⟨v4.1, v4.2.2.1, LF_d h (by omega) v4⟩, v4.2.2.2.2⟩
    · exact ⟨⟨v5.1, v5.2.2.1, LF_d h (by omega) v5⟩, v5.2.2.2.2⟩
  · obtain ⟨x1, x2, x3, x4⟩ := v6 t ht
    have d1 : s 3 (4 + 5 * t) = 1 := by
      have := (h.2.2 (4 + 5 * t) (by omega) x1).2.1
      rw [x2, h.2.1] at this
      omega
    refine ⟨⟨x1, x4.1, d1, x4.2.2.1⟩, fun i g1 g2 => ?_⟩
    have g2 : i < 5 := g2
    obtain ⟨y1, y2, y3, y4, y5⟩ := x4.2.2.2 (i - 1) (by omega)
    have ei : 4 + 5 * t + 1 + (i - 1) = 4 + 5 * t + i := by omega
    rw [ei] at y1 y2 y3 y5
    rw [show i - 1 + 1 = i by omega] at y3
    have d2 := (h.2.2 (4 + 5 * t + i) (by omega) y1).2.1
    rw [y2, d1] at d2
    exact ⟨⟨y1, y3, d2.symm⟩, y5⟩
theorem cl_dz {s : pS} {n : Nat} (hN : s 0 1 = 4 + 5 * n) {j : Nat} (h0 : trO s 0 j 0) (hj : nl j = 4) (ht : ∀ t, t < n → trO s (4 + 5 * t) 1 1) : ∀ i, i < s 0 1 → s 3 i = dz i := by
  intro i hi
  unfold dz
  by_cases e0 : i = 0
  · rw [if_pos e0, e0]
    exact h0.1.2.2.1
  · rw [if_neg e0]
    by_cases e1 : i < 4
    · rw [if_pos e1]
      have := (h0.2 i (by omega) (by omega)).1.2.2
      rwa [Nat.zero_add] at this
    · rw [if_neg e1]
      have tt := ht ((i - 4) / 5) (by omega)
      by_cases e2 : (i - 4) % 5 = 0
      · rw [if_pos e2]
        have := tt.1.2.2.1
        rwa [show 4 + 5 * ((i - 4) / 5) = i by omega] at this
      · rw [if_neg e2]
        have := (tt.2 ((i - 4) % 5) (by omega) (show (i - 4) % 5 < 5 by omega)).1.2.2
        rwa [show 4 + 5 * ((i - 4) / 5) + (i - 4) % 5 = i by omega] at this
theorem cl_VP {s : pS} (h : lay s) (h80 : s 2 0 = 80) (hv : clV s) : ∃ n, 1 ≤ n ∧ n ≤ 3 ∧ s 0 1 = 4 + 5 * n ∧ VP s n := by
  rcases hv with ⟨_, n, n1, n3, hN, t0, tt⟩ | hv | hv
  · refine ⟨n, n1, n3, hN, ?_⟩
    have hd := cl_dz hN t0 rfl tt
    have hp := par_z h hd
    have hN4 : s 0 1 = 4 ∨ s 0 1 = 9 ∨ s 0 1 = 14 ∨ s 0 1 = 19 := by omega
    have hkc : ∀ e b, b ≤ s 0 1 → kc (s 9) e b = kc pz e b := fun e b hb => kc_cg b (fun i g1 g2 => hp i g1 (by omega))
    have hkl := kc_pzl (s 0 1) hN4
    have lf : ∀ i c, 1 ≤ i → i < 4 → rl 0 i = c → LF s i c := by
      intro i c g1 g2 gc
      obtain ⟨⟨a1, a2, a3⟩, a4⟩ := t0.2 i g1 g2
      rw [Nat.zero_add] at a1 a2 a3 a4
      refine ⟨a1, ?_, by rw [a2, gc], ?_, a4⟩
      · rw [hp i (by omega) a1, pz, if_pos g2]
      · rw [hkc i _ (Nat.le_refl _)]
        exact (hkl i a1).1 ⟨by omega, by omega⟩
    refine ⟨t0.1.2.2.2, ?_, ⟨lf 1 73 (by omega) (by omega) rfl, lf 2 78 (by omega) (by omega) rfl, lf 3 83 (by omega) (by omega) rfl⟩, fun t ht => ?_⟩
    · rw [hkc 0 _ (Nat.le_refl _)]
      have := kc_pz0
      rcases (show n = 1 ∨ n = 2 ∨ n = 3 by omega) with rfl | rfl | rfl
      · rw [hN]
        exact this.2.1
      · rw [hN]
        exact this.2.2.1
      · rw [hN]
        exact this.2.2.2
    · obtain ⟨b1, b2⟩ := tt t ht
      refine ⟨b1.1, ?_, ?_, b1.2.1, ?_, b1.2.2.2, fun i hi => ?_⟩
      · rw [hp _ (by omega) b1.1, pz, if_neg (by omega), if_pos (by omega)]
      · rw [hkc 0 _ (by omega), kc_pze _ (by omega), if_neg (by omega)]
        rcases (show t = 0 ∨ t = 1 ∨ t = 2 by omega) with rfl | rfl | rfl <;> decide
      · rw [hkc _ _ (Nat.le_refl _)]
        exact (hkl _ b1.1).2 ⟨by omega, by omega⟩
      · obtain ⟨⟨a1, a2, a3⟩, a4⟩ := b2 (i + 1) (by omega) (show i + 1 < 5 by omega)
        rw [show 4 + 5 * t + (i + 1) = 4 + 5 * t + 1 + i by omega] at a1 a2 a3 a4
        refine ⟨a1, ?_, a2, ?_, a4⟩
        · rw [hp _ (by omega) a1, pz, if_neg (by omega), if_neg (by omega)]
          omega
        · rw [hkc _ _ (Nat.le_refl _)]
          exact (hkl _ a1).1 ⟨by omega, by omega⟩
  · omega
  · omega
theorem VQ_cl {s : pS} (h : lay s) {c : Nat} (hc' : (s 2 0 = 81 ∧ c = 86) ∨ (s 2 0 = 82 ∧ c = 65)) (hv : VQ s c) : clV s := by
  obtain ⟨v1, v2, v3, v4, v5⟩ := hv
  have hk := LF_kc h v3 v4 v5
  have e1 := lay_end h v5.1 (by omega) v5.2.1 hk.2.2.1 v2 (x := 4) (by omega) (fun g => leaf_d h v5.2.2.2.1 g)
  have e2 := v5.1
  have tr : ∀ j, (s 2 0 = rl j 0) → nl j = 4 → rl j 1 = 73 → rl j 2 = 79 → rl j 3 = c → trO s 0 j 0 := by
    intro j j0 jn j1 j2 j3
    refine ⟨⟨h.1, j0, h.2.1, v1⟩, fun i g1 g2 => ?_⟩
    rw [jn] at g2
    unfold rwO
    rw [Nat.zero_add]
    rcases (show i = 1 ∨ i = 2 ∨ i = 3 by omega) with rfl | rfl | rfl
    · exact ⟨⟨v3.1, by rw [v3.2.2.1, j1], LF_d h (by omega) v3⟩, v3.2.2.2.2⟩
    · exact ⟨⟨v4.1, by rw [v4.2.2.1, j2], LF_d h (by omega) v4⟩, v4.2.2.2.2⟩
    · exact ⟨⟨v5.1, by rw [v5.2.2.1, j3], LF_d h (by omega) v5⟩, v5.2.2.2.2⟩
  rcases hc' with ⟨g1, rfl⟩ | ⟨g1, rfl⟩
  · exact Or.inr (Or.inl ⟨g1, by omega, tr 2 g1 rfl rfl rfl rfl⟩)
  · exact Or.inr (Or.inr ⟨g1, by omega, tr 3 g1 rfl rfl rfl rfl⟩)
theorem cl_VQ {s : pS} (h : lay s) {c : Nat} (hc' : (s 2 0 = 81 ∧ c = 86) ∨ (s 2 0 = 82 ∧ c = 65)) (hv : clV s) : s 0 1 = 4 ∧ VQ s c := by
  have core : ∀ j, s 0 1 = 4 → trO s 0 j 0 → nl j = 4 → rl j 1 = 73 → rl j 2 = 79 → rl j 3 = c → VQ s c := by
    intro j hN t0 jn j1 j2 j3
    have hd := cl_dz (n := 0) hN t0 jn (fun t ht => absurd ht (Nat.not_lt_zero t))
    have hp := par_z h hd
    have hkc : ∀ e b, b ≤ s 0 1 → kc (s 9) e b = kc pz e b := fun e b hb => kc_cg b (fun i g1 g2 => hp i g1 (by omega))
    have hkl := kc_pzl (s 0 1) (Or.inl hN)
    have lf : ∀ i c, 1 ≤ i → i < 4 → rl j i = c → LF s i c := by
      intro i c g1 g2 gc
      obtain ⟨⟨a1, a2, a3⟩, a4⟩ := t0.2 i g1 (by omega)
      rw [Nat.zero_add] at a1 a2 a3 a4
      refine ⟨a1, ?_, by rw [a2, gc], ?_, a4⟩
      · rw [hp i (by omega) a1, pz, if_pos g2]
      · rw [hkc i _ (Nat.le_refl _)]
        exact (hkl i a1).1 ⟨by omega, by omega⟩
    refine ⟨t0.1.2.2.2, ?_, lf 1 73 (by omega) (by omega) j1, lf 2 79 (by omega) (by omega) j2, lf 3 c (by omega) (by omega) j3⟩
    rw [hkc 0 _ (Nat.le_refl _), hN]
    exact kc_pz0.1
  rcases hv with hv | ⟨g1, g2, g3⟩ | ⟨g1, g2, g3⟩
  · omega
  · obtain rfl : c = 86 := by omega
    exact ⟨g2, core 2 g2 g3 rfl rfl rfl rfl⟩
  · obtain rfl : c = 65 := by omega
    exact ⟨g2, core 3 g2 g3 rfl rfl rfl rfl⟩
/-- what makes a value good -/
def vlen (s : pS) (k : Nat) : Nat := te s k - tb s k
theorem nv8_b {f : Nat → Nat} {b l : Nat} (hl : l ≤ 4) (h : nOK f b l) : nv8 f l 0 b ≤ 2054847098 := by
  have h' : ∀ j, j < l → f (b + j) ≤ 122 := fun j hj => by
    have := h j hj
    unfold isN at this
    omega
  rcases (show l = 0 ∨ l = 1 ∨ l = 2 ∨ l = 3 ∨ l = 4 by omega) with rfl | rfl | rfl | rfl | rfl
  · simp only [nv8]
    omega
  · have := h' 0 (by omega)
    simp only [nv8]
    simp only [Nat.add_zero] at this
    omega
  · have a0 := h' 0 (by omega)
    have a1 := h' 1 (by omega)
    simp only [nv8]
    simp only [Nat.add_zero] at a0
    omega
  · have a0 := h' 0 (by omega)
    have a1 := h' 1 (by omega)
    have a2 : f (b + 1 + 1) ≤ 122 := h' 2 (by omega)
    simp only [nv8]
    simp only [Nat.add_zero] at a0
    omega
  · have a0 := h' 0 (by omega)
    have a1 := h' 1 (by omega)
    have a2 : f (b + 1 + 1) ≤ 122 := h' 2 (by omega)
    have a3 : f (b + 1 + 1 + 1) ≤ 122 := h' 3 (by omega)
    simp only [nv8]
    simp only [Nat.add_zero] at a0
    omega
theorem gV_I {s : pS} {k : Nat} (hk : s 2 k = 73 ∨ s 2 k = 69 ∨ s 2 k = 79) : gV s k ↔ (1 ≤ vlen s k ∧ vlen s k ≤ 4 ∧ nOK (s 8) (tb s k) (vlen s k)) := by
  constructor
  · rintro ⟨r, h1, h2⟩
    rcases h1 with ⟨_, ⟨g1, g2⟩ | ⟨g1, g2⟩⟩ | ⟨g, _⟩ | ⟨g, _⟩ | ⟨g, _⟩ | ⟨g, _⟩
    · exact g2
    · exact absurd g1 h2
    all_goals omega
  · intro g
    refine ⟨_, Or.inl ⟨hk, Or.inl ⟨rfl, g⟩⟩, fun e => ?_⟩
    have := nv8_b g.2.1 g.2.2
    exact of_eq_false (nIn1 (v := nv8 (s 8) (vlen s k) 0 (tb s k)) (by omega)) e
theorem gV_N {s : pS} {k : Nat} (hk : s 2 k = 78) : gV s k ↔ (1 ≤ vlen s k ∧ vlen s k ≤ 2 ∧ dOK (s 8) (tb s k) (vlen s k)) := by
  constructor
  · rintro ⟨r, h1, h2⟩
    rcases h1 with ⟨g, _⟩ | ⟨_, ⟨g1, g2⟩ | ⟨g1, g2⟩⟩ | ⟨g, _⟩ | ⟨g, _⟩ | ⟨g, _⟩
    · omega
    · exact g2
    · exact absurd g1 h2
    all_goals omega
  · intro g
    refine ⟨_, Or.inr (Or.inl ⟨hk, Or.inl ⟨rfl, g⟩⟩), fun e => ?_⟩
    have := dvl_b2 g.2.2 g.2.1
    exact of_eq_false (nIn1 (v := dvl (s 8) (vlen s k) 0 (tb s k)) (by omega)) e
theorem gV_D {s : pS} {k : Nat} (hk : s 2 k = 68 ∨ s 2 k = 67) : gV s k ↔ aOK (s 8) (tb s k) (vlen s k) := by
  constructor
  · rintro ⟨r, h1, h2⟩
    rcases h1 with ⟨g, _⟩ | ⟨g, _⟩ | ⟨_, ⟨g1, g2⟩ | ⟨g1, g2⟩⟩ | ⟨g, _⟩ | ⟨g, _⟩
    · omega
    · omega
    · exact g2
    · exact absurd g1 h2
    all_goals omega
  · intro g
    refine ⟨_, Or.inr (Or.inr (Or.inl ⟨hk, Or.inl ⟨rfl, g⟩⟩)), fun e => ?_⟩
    have := dvl_b2 g.2.2 (by omega)
    have := g.2.1
    exact of_eq_false (nIn1 (v := 1000 + 100 * (s 8 (tb s k) - 65) + dvl (s 8) 2 0 (tb s k + 1)) (by omega)) e
theorem gV_V {s : pS} {k : Nat} (hk : s 2 k = 86) : gV s k ↔ vOK (s 8) (tb s k) (vlen s k) := by
  constructor
  · rintro ⟨r, h1, h2⟩
    rcases h1 with ⟨g, _⟩ | ⟨g, _⟩ | ⟨g, _⟩ | ⟨_, ⟨g1, g2⟩ | ⟨g1, g2⟩⟩ | ⟨g, _⟩
    · omega
    · omega
    · omega
    · exact g2
    · exact absurd g1 h2
    all_goals omega
  · intro g
    refine ⟨_, Or.inr (Or.inr (Or.inr (Or.inl ⟨hk, Or.inl ⟨rfl, g⟩⟩))), fun e => ?_⟩
    have : s 8 (tb s k) ≤ 82 := by
      unfold vOK at g
      omega
    exact of_eq_false (nIn1 (v := s 8 (tb s k)) (by omega)) e
theorem gV_A {s : pS} {k : Nat} (hk : s 2 k = 83 ∨ s 2 k = 65) : gV s k ↔ ∃ v, AM (s 8) (tb s k) (vlen s k) v := by
  constructor
  · rintro ⟨r, h1, h2⟩
    rcases h1 with ⟨g, _⟩ | ⟨g, _⟩ | ⟨g, _⟩ | ⟨g, _⟩ | ⟨_, ⟨v, g1, g2⟩ | ⟨g1, g2⟩⟩
    · omega
    · omega
    · omega
    · omega
    · exact ⟨v, g1⟩
    · exact absurd g1 h2
  · rintro ⟨v, g⟩
    refine ⟨_, Or.inr (Or.inr (Or.inr (Or.inr ⟨hk, Or.inl ⟨v, g, rfl⟩⟩))), fun e => ?_⟩
    have := AM_le g
    exact of_eq_false (nIn1 (v := v) (by omega)) e
