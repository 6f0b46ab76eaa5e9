/-! a message: its kind, its number of transactions, names, numbers, places and digits, by the places of the class's values -/
def seg (f : Nat → Nat) : Nat → Nat → List Nat
  | 0, _ => []
  | n + 1, b => f b :: seg f n (b + 1)
def txt (s : pS) (k : Nat) : List Nat := seg (s 8) (vlen s k) (tb s k)
theorem nv8_seg {f : Nat → Nat} : ∀ n v b, nv8 f n v b = (seg f n b).foldl (fun x c => 256 * x + c) v := by
  intro n
  induction n with
  | zero => intro v b; rfl
  | succ n ih => intro v b; rw [nv8, seg, List.foldl_cons, ih]
theorem nv37_seg {f : Nat → Nat} : ∀ n v b, nv37 f n v b = (seg f n b).foldl (fun x c => 37 * x + v37 c) v := by
  intro n
  induction n with
  | zero => intro v b; rfl
  | succ n ih => intro v b; rw [nv37, seg, List.foldl_cons, ih]
theorem seg_len {f : Nat → Nat} : ∀ n b, (seg f n b).length = n := by
  intro n
  induction n with
  | zero => intro b; rfl
  | succ n ih => intro b; rw [seg, List.length_cons, ih]
theorem seg_mem {f : Nat → Nat} {c : Nat} : ∀ n b, c ∈ seg f n b → ∃ j, j < n ∧ c = f (b + j) := by
  intro n
  induction n with
  | zero => intro b h; exact absurd h (List.not_mem_nil)
  | succ n ih =>
    intro b h
    rw [seg] at h
    rcases List.mem_cons.1 h with rfl | h
    · exact ⟨0, by omega, rfl⟩
    · obtain ⟨j, h1, h2⟩ := ih (b + 1) h
      exact ⟨j + 1, by omega, by rw [h2]; congr 1; omega⟩
theorem txt_nm {s : pS} {k : Nat} (h : 1 ≤ vlen s k ∧ vlen s k ≤ 4 ∧ nOK (s 8) (tb s k) (vlen s k)) : nmOk (txt s k) ∧ nv8 (s 8) (vlen s k) 0 (tb s k) = n8 (txt s k) ∧ nv37 (s 8) (vlen s k) 0 (tb s k) = n37 (txt s k) := by
  refine ⟨⟨?_, ?_, fun c hc' => ?_⟩, nv8_seg _ _ _, nv37_seg _ _ _⟩
  · unfold txt
    rw [seg_len]
    exact h.1
  · unfold txt
    rw [seg_len]
    exact h.2.1
  · obtain ⟨j, h1, h2⟩ := seg_mem _ _ hc'
    rw [h2]
    exact h.2.2 j h1
def okM (K n : Nat) (nm : Nat → List Nat) (vl pl dg : Nat → Nat) : Prop := ((K = 80 ∧ 1 ≤ n ∧ n ≤ 3) ∨ (K = 81 ∧ n = 0) ∨ (K = 82 ∧ n = 0)) ∧ nmOk (nm 1) ∧ (K ≠ 80 → nmOk (nm 2)) ∧ (K = 80 → vl 2 ≤ 99 ∧ 1 ≤ vl 3 ∧ vl 3 ≤ 99999999) ∧ (K = 81 → vl 3 = 65 ∨ vl 3 = 82) ∧ (K = 82 → 1 ≤ vl 3 ∧ vl 3 ≤ 99999999) ∧ ∀ t, t < n → nmOk (nm (5 + 5 * t)) ∧ (pl (6 + 5 * t) ≤ 3 ∧ dg (6 + 5 * t) ≤ 99) ∧ (pl (7 + 5 * t) ≤ 3 ∧ dg (7 + 5 * t) ≤ 99) ∧ 1 ≤ vl (8 + 5 * t) ∧ vl (8 + 5 * t) ≤ 99999999
def cM (m : zM) (K n : Nat) (nm : Nat → List Nat) (vl pl dg : Nat → Nat) : Prop := (m 11 3 = nI K ∧ m 11 4 = nI n) ∧ m 13 1 = nI (n8 (nm 1)) ∧ (K = 80 → m 13 2 = nI (vl 2)) ∧ (K ≠ 80 → m 13 2 = nI (n8 (nm 2))) ∧ m 13 3 = nI (vl 3) ∧ ∀ t, t < n → m 13 (5 + 5 * t) = nI (n8 (nm (5 + 5 * t))) ∧ m 13 (6 + 5 * t) = nI (1000 + 100 * pl (6 + 5 * t) + dg (6 + 5 * t)) ∧ m 13 (7 + 5 * t) = nI (1000 + 100 * pl (7 + 5 * t) + dg (7 + 5 * t)) ∧ m 13 (8 + 5 * t) = nI (vl (8 + 5 * t))
def uM (u : zM) (K n : Nat) (nm : Nat → List Nat) (vl pl dg : Nat → Nat) : Prop := u 42 22 = nI (n37 (nm 1)) ∧ (K = 80 → u 42 30 = nI n ∧ u 42 23 = nI (vl 2) ∧ u 42 24 = nI (vl 3)) ∧ (K ≠ 80 → u 42 31 = nI (n37 (nm 2))) ∧ (K = 81 → u 42 32 = nI (if vl 3 = 65 then 1 else 0)) ∧ (K = 82 → u 56 0 = nI (vl 3)) ∧ ∀ t, t < n → u 52 t = nI (n37 (nm (5 + 5 * t))) ∧ u 53 t = nI (pl (6 + 5 * t)) ∧ u 54 t = nI (pl (7 + 5 * t)) ∧ u 55 (2 * t) = nI (dg (6 + 5 * t)) ∧ u 55 (2 * t + 1) = nI (dg (7 + 5 * t)) ∧ u 56 t = nI (vl (8 + 5 * t))
/-- the document behind it -/
def dM (s : pS) (K n : Nat) (nm : Nat → List Nat) (vl pl dg : Nat → Nat) : Prop := (s 2 0 = K ∧ s 0 1 = 4 + 5 * n) ∧ txt s 1 = nm 1 ∧ (K = 80 → (1 ≤ vlen s 2 ∧ vlen s 2 ≤ 2 ∧ dOK (s 8) (tb s 2) (vlen s 2)) ∧ dvl (s 8) (vlen s 2) 0 (tb s 2) = vl 2 ∧ AM (s 8) (tb s 3) (vlen s 3) (vl 3)) ∧ (K ≠ 80 → txt s 2 = nm 2) ∧ (K = 81 → txt s 3 = [vl 3]) ∧ (K = 82 → AM (s 8) (tb s 3) (vlen s 3) (vl 3)) ∧ ∀ t, t < n → txt s (5 + 5 * t) = nm (5 + 5 * t) ∧ txt s (6 + 5 * t) = [65 + pl (6 + 5 * t), 48 + dg (6 + 5 * t) / 10, 48 + dg (6 + 5 * t) % 10] ∧ txt s (7 + 5 * t) = [65 + pl (7 + 5 * t), 48 + dg (7 + 5 * t) / 10, 48 + dg (7 + 5 * t) % 10] ∧ AM (s 8) (tb s (8 + 5 * t)) (vlen s (8 + 5 * t)) (vl (8 + 5 * t))
theorem acc_txt {s : pS} {k : Nat} (h : aOK (s 8) (tb s k) (vlen s k)) : s 8 (tb s k) - 65 ≤ 3 ∧ dvl (s 8) 2 0 (tb s k + 1) ≤ 99 ∧ txt s k = [65 + (s 8 (tb s k) - 65), 48 + dvl (s 8) 2 0 (tb s k + 1) / 10, 48 + dvl (s 8) 2 0 (tb s k + 1) % 10] := by
  obtain ⟨h1, h2, h3⟩ := h
  have d0 := h3 0 (by omega)
  have d1 : isD (s 8 (tb s k + 1 + 1)) := h3 1 (by omega)
  rw [Nat.add_zero] at d0
  unfold isD at d0 d1
  have e : dvl (s 8) 2 0 (tb s k + 1) = 10 * (s 8 (tb s k + 1) - 48) + (s 8 (tb s k + 1 + 1) - 48) := by
    simp only [dvl]
    omega
  refine ⟨by omega, by omega, ?_⟩
  unfold txt
  rw [h1, e]
  simp only [seg]
  congr 1
  · omega
  · congr 1
    · omega
    · congr 1
      omega
theorem val_I {s : pS} {m : zM} {k : Nat} (h : valO s m k) (hk : s 2 k = 73 ∨ s 2 k = 69 ∨ s 2 k = 79) : nmOk (txt s k) ∧ m 13 k = nI (n8 (txt s k)) := by
  obtain ⟨h1, h2⟩ := h
  have g := (gV_I hk).1 ⟨_, h1, h2⟩
  obtain ⟨t1, t2, t3⟩ := txt_nm g
  refine ⟨t1, ?_⟩
  rw [← t2]
  exact cvR_u h1 (Or.inl ⟨hk, Or.inl ⟨rfl, g⟩⟩)
theorem val_D {s : pS} {m : zM} {k : Nat} (h : valO s m k) (hk : s 2 k = 68 ∨ s 2 k = 67) : aOK (s 8) (tb s k) (vlen s k) ∧ m 13 k = nI (1000 + 100 * (s 8 (tb s k) - 65) + dvl (s 8) 2 0 (tb s k + 1)) := by
  obtain ⟨h1, h2⟩ := h
  have g := (gV_D hk).1 ⟨_, h1, h2⟩
  exact ⟨g, cvR_u h1 (Or.inr (Or.inr (Or.inl ⟨hk, Or.inl ⟨rfl, g⟩⟩)))⟩
theorem val_N {s : pS} {m : zM} {k : Nat} (h : valO s m k) (hk : s 2 k = 78) : (1 ≤ vlen s k ∧ vlen s k ≤ 2 ∧ dOK (s 8) (tb s k) (vlen s k)) ∧ m 13 k = nI (dvl (s 8) (vlen s k) 0 (tb s k)) := by
  obtain ⟨h1, h2⟩ := h
  have g := (gV_N hk).1 ⟨_, h1, h2⟩
  exact ⟨g, cvR_u h1 (Or.inr (Or.inl ⟨hk, Or.inl ⟨rfl, g⟩⟩))⟩
theorem val_V {s : pS} {m : zM} {k : Nat} (h : valO s m k) (hk : s 2 k = 86) : vOK (s 8) (tb s k) (vlen s k) ∧ m 13 k = nI (s 8 (tb s k)) := by
  obtain ⟨h1, h2⟩ := h
  have g := (gV_V hk).1 ⟨_, h1, h2⟩
  exact ⟨g, cvR_u h1 (Or.inr (Or.inr (Or.inr (Or.inl ⟨hk, Or.inl ⟨rfl, g⟩⟩))))⟩
theorem val_A {s : pS} {m : zM} {k v : Nat} (h : valO s m k) (hk : s 2 k = 83 ∨ s 2 k = 65) (hv : AM (s 8) (tb s k) (vlen s k) v) : m 13 k = nI v := by
  obtain ⟨h1, h2⟩ := h
  exact cvR_u h1 (Or.inr (Or.inr (Or.inr (Or.inr ⟨hk, Or.inl ⟨v, hv, rfl⟩⟩))))
theorem AM_pos {f : Nat → Nat} {b l v : Nat} (h : AM f b l v) : 1 ≤ v := by
  obtain ⟨p, _, _, _, _, g, _⟩ := h
  exact g
theorem ms_ex {s : pS} {n : Nat} (hv : clV s) (hsz : (s 2 0 = 80 ∧ 1 ≤ n ∧ n ≤ 3 ∧ s 0 1 = 4 + 5 * n) ∨ (s 2 0 ≠ 80 ∧ n = 0 ∧ s 0 1 = 4)) {m0 : zM} (hm0 : clW s m0 n) : ∃ K nm vl pl dg, okM K n nm vl pl dg ∧ dM s K n nm vl pl dg ∧ (∀ m, clW s m n → cM m K n nm vl pl dg) ∧ ∀ u, mvW u s → uM u K n nm vl pl dg := by
  have hch : ∀ k, ∃ v, AM (s 8) (tb s k) (vlen s k) v ∨ ¬ ∃ v, AM (s 8) (tb s k) (vlen s k) v := fun k => by
    rcases Classical.em (∃ v, AM (s 8) (tb s k) (vlen s k) v) with ⟨v, g⟩ | g
    · exact ⟨v, Or.inl g⟩
    · exact ⟨0, Or.inr g⟩
  obtain ⟨av, hav⟩ := Classical.axiomOfChoice hch
  have hA : ∀ k, gV s k → (s 2 k = 83 ∨ s 2 k = 65) → AM (s 8) (tb s k) (vlen s k) (av k) := fun k g1 g2 => by
    rcases hav k with g | g
    · exact g
    · exact absurd ((gV_A g2).1 g1) g
  obtain ⟨w1, w2, w3, w4⟩ := hm0
  have gv : ∀ {k}, valO s m0 k → gV s k := fun h => ⟨_, h⟩
  rcases hv with ⟨k0, n', n1, n3, hN, t0, tt⟩ | ⟨k0, hN, t0⟩ | ⟨k0, hN, t0⟩
  · obtain rfl : n' = n := by omega
    have L1 : s 2 1 = 73 := (t0.2 1 (by omega) (show 1 < 4 by omega)).1.2.1
    have L2 : s 2 2 = 78 := (t0.2 2 (by omega) (show 2 < 4 by omega)).1.2.1
    have L3 : s 2 3 = 83 := (t0.2 3 (by omega) (show 3 < 4 by omega)).1.2.1
    have LT : ∀ t, t < n' → s 2 (5 + 5 * t) = 69 ∧ s 2 (6 + 5 * t) = 68 ∧ s 2 (7 + 5 * t) = 67 ∧ s 2 (8 + 5 * t) = 65 := fun t ht => by
      have g := (tt t ht).2
      have g1 := (g 1 (by omega) (show 1 < 5 by omega)).1.2.1
      have g2 := (g 2 (by omega) (show 2 < 5 by omega)).1.2.1
      have g3 := (g 3 (by omega) (show 3 < 5 by omega)).1.2.1
      have g4 := (g 4 (by omega) (show 4 < 5 by omega)).1.2.1
      rw [show 4 + 5 * t + 1 = 5 + 5 * t by omega] at g1
      rw [show 4 + 5 * t + 2 = 6 + 5 * t by omega] at g2
      rw [show 4 + 5 * t + 3 = 7 + 5 * t by omega] at g3
      rw [show 4 + 5 * t + 4 = 8 + 5 * t by omega] at g4
      exact ⟨g1, g2, g3, g4⟩
    have VT : ∀ {m : zM}, clW s m n' → ∀ t, t < n' → valO s m (5 + 5 * t) ∧ valO s m (6 + 5 * t) ∧ valO s m (7 + 5 * t) ∧ valO s m (8 + 5 * t) := fun hw t ht => by
      have g := hw.2.2.2 t ht
      have g1 := g 1 (by omega) (by omega)
      have g2 := g 2 (by omega) (by omega)
      have g3 := g 3 (by omega) (by omega)
      have g4 := g 4 (by omega) (by omega)
      rw [show 4 + 5 * t + 1 = 5 + 5 * t by omega] at g1
      rw [show 4 + 5 * t + 2 = 6 + 5 * t by omega] at g2
      rw [show 4 + 5 * t + 3 = 7 + 5 * t by omega] at g3
      rw [show 4 + 5 * t + 4 = 8 + 5 * t by omega] at g4
      exact ⟨g1, g2, g3, g4⟩
    have A3 := hA 3 (gv (w3 3 (by omega) (by omega))) (Or.inl L3)
    have N2 := (val_N (w3 2 (by omega) (by omega)) L2).1
    have AT : ∀ t, t < n' → AM (s 8) (tb s (8 + 5 * t)) (vlen s (8 + 5 * t)) (av (8 + 5 * t)) := fun t ht => hA _ (gv (VT ⟨w1, w2, w3, w4⟩ t ht).2.2.2) (Or.inr (LT t ht).2.2.2)
    refine ⟨80, txt s, fun k => if k = 2 then dvl (s 8) (vlen s 2) 0 (tb s 2) else av k, fun k => s 8 (tb s k) - 65, fun k => dvl (s 8) 2 0 (tb s k + 1), ?_, ?_, fun m hw => ?_, fun u hu => ?_⟩
    · refine ⟨Or.inl ⟨rfl, n1, n3⟩, (val_I (w3 1 (by omega) (by omega)) (Or.inl L1)).1, fun g => absurd rfl g, fun _ => ⟨?_, AM_pos A3, AM_le A3⟩, fun g => by omega, fun g => by omega, fun t ht => ?_⟩
      · exact dvl_b2 N2.2.2 N2.2.1
      · obtain ⟨v1, v2, v3, v4⟩ := VT ⟨w1, w2, w3, w4⟩ t ht
        obtain ⟨l1, l2, l3, l4⟩ := LT t ht
        have a2 := acc_txt (val_D v2 (Or.inl l2)).1
        have a3 := acc_txt (val_D v3 (Or.inr l3)).1
        refine ⟨(val_I v1 (Or.inr (Or.inl l1))).1, ⟨a2.1, a2.2.1⟩, ⟨a3.1, a3.2.1⟩, ?_⟩
        show 1 ≤ (if 8 + 5 * t = 2 then _ else av (8 + 5 * t)) ∧ (if 8 + 5 * t = 2 then _ else av (8 + 5 * t)) ≤ 99999999
        rw [if_neg (by omega)]
        exact ⟨AM_pos (AT t ht), AM_le (AT t ht)⟩
    · refine ⟨⟨k0, hN⟩, rfl, fun _ => ⟨N2, rfl, A3⟩, fun g => absurd rfl g, fun g => by omega, fun g => by omega, fun t ht => ?_⟩
      obtain ⟨v1, v2, v3, v4⟩ := VT ⟨w1, w2, w3, w4⟩ t ht
      obtain ⟨l1, l2, l3, l4⟩ := LT t ht
      refine ⟨rfl, (acc_txt (val_D v2 (Or.inl l2)).1).2.2, (acc_txt (val_D v3 (Or.inr l3)).1).2.2, ?_⟩
      show AM _ _ _ (if 8 + 5 * t = 2 then _ else av (8 + 5 * t))
      rw [if_neg (by omega)]
      exact AT t ht
    · have hw' := hw
      obtain ⟨x1, x2, x3, x4⟩ := hw
      refine ⟨⟨by rw [x1, k0], x2⟩, (val_I (x3 1 (by omega) (by omega)) (Or.inl L1)).2, fun _ => (val_N (x3 2 (by omega) (by omega)) L2).2, fun g => absurd rfl g, val_A (x3 3 (by omega) (by omega)) (Or.inl L3) A3, fun t ht => ?_⟩
      obtain ⟨v1, v2, v3, v4⟩ := VT hw' t ht
      obtain ⟨l1, l2, l3, l4⟩ := LT t ht
      refine ⟨(val_I v1 (Or.inr (Or.inl l1))).2, (val_D v2 (Or.inl l2)).2, (val_D v3 (Or.inr l3)).2, ?_⟩
      show _ = nI (if 8 + 5 * t = 2 then _ else av (8 + 5 * t))
      rw [if_neg (by omega)]
      exact val_A v4 (Or.inr l4) (AT t ht)
    · obtain ⟨y1, y2, y3⟩ := hu
      rcases y3 with ⟨_, n'', z1, z2, z3, z4, z5, ⟨v, z6, z7⟩, z8⟩ | ⟨g, _⟩ | ⟨g, _⟩
      · obtain rfl : n'' = n' := by omega
        have I1 := (gV_I (Or.inl L1)).1 (gv (w3 1 (by omega) (by omega)))
        refine ⟨by rw [y1, (txt_nm I1).2.2], fun _ => ⟨z4, z5, by rw [z7, AM_u z6 A3]; rfl⟩, fun g => absurd rfl g, fun g => by omega, fun g => by omega, fun t ht => ?_⟩
        obtain ⟨v1, v2, v3, v4⟩ := VT ⟨w1, w2, w3, w4⟩ t ht
        obtain ⟨l1, l2, l3, l4⟩ := LT t ht
        obtain ⟨_, ⟨q1, q2, q3, q4, q5, v', q6, q7⟩, _⟩ := z8 t ht
        rw [show 4 + 5 * t + 1 = 5 + 5 * t by omega] at q1
        rw [show 4 + 5 * t + 2 = 6 + 5 * t by omega] at q2 q4
        rw [show 4 + 5 * t + 3 = 7 + 5 * t by omega] at q3 q5
        rw [show 4 + 5 * t + 4 = 8 + 5 * t by omega] at q6
        have I5 := (gV_I (Or.inr (Or.inl l1))).1 (gv v1)
        refine ⟨by rw [q1, (txt_nm I5).2.2], q2, q3, q4, q5, ?_⟩
        show _ = nI (if 8 + 5 * t = 2 then _ else av (8 + 5 * t))
        rw [if_neg (by omega), q7, AM_u q6 (AT t ht)]
      · omega
      · omega
  · obtain rfl : n = 0 := by omega
    have L1 : s 2 1 = 73 := (t0.2 1 (by omega) (show 1 < 4 by omega)).1.2.1
    have L2 : s 2 2 = 79 := (t0.2 2 (by omega) (show 2 < 4 by omega)).1.2.1
    have L3 : s 2 3 = 86 := (t0.2 3 (by omega) (show 3 < 4 by omega)).1.2.1
    have V3 := (val_V (w3 3 (by omega) (by omega)) L3).1
    refine ⟨81, txt s, fun k => s 8 (tb s k), fun k => 0, fun k => 0, ?_, ?_, fun m hw => ?_, fun u hu => ?_⟩
    · exact ⟨Or.inr (Or.inl ⟨rfl, rfl⟩), (val_I (w3 1 (by omega) (by omega)) (Or.inl L1)).1, fun _ => (val_I (w3 2 (by omega) (by omega)) (Or.inr (Or.inr L2))).1, fun g => by omega, fun _ => V3.2, fun g => by omega, fun t ht => absurd ht (Nat.not_lt_zero t)⟩
    · refine ⟨⟨k0, hN⟩, rfl, fun g => by omega, fun _ => rfl, fun _ => ?_, fun g => by omega, fun t ht => absurd ht (Nat.not_lt_zero t)⟩
      unfold txt
      rw [V3.1]
      rfl
    · obtain ⟨x1, x2, x3, x4⟩ := hw
      exact ⟨⟨by rw [x1, k0], x2⟩, (val_I (x3 1 (by omega) (by omega)) (Or.inl L1)).2, fun g => by omega, fun _ => (val_I (x3 2 (by omega) (by omega)) (Or.inr (Or.inr L2))).2, (val_V (x3 3 (by omega) (by omega)) L3).2, fun t ht => absurd ht (Nat.not_lt_zero t)⟩
    · obtain ⟨y1, y2, y3⟩ := hu
      rcases y3 with ⟨g, _⟩ | ⟨_, z1, z2, z3⟩ | ⟨g, _⟩
      · omega
      · have I1 := (gV_I (Or.inl L1)).1 (gv (w3 1 (by omega) (by omega)))
        have I2 := (gV_I (Or.inr (Or.inr L2))).1 (gv (w3 2 (by omega) (by omega)))
        exact ⟨by rw [y1, (txt_nm I1).2.2], fun g => by omega, fun _ => by rw [z2, (txt_nm I2).2.2], fun _ => z3, fun g => by omega, fun t ht => absurd ht (Nat.not_lt_zero t)⟩
      · omega
  · obtain rfl : n = 0 := by omega
    have L1 : s 2 1 = 73 := (t0.2 1 (by omega) (show 1 < 4 by omega)).1.2.1
    have L2 : s 2 2 = 79 := (t0.2 2 (by omega) (show 2 < 4 by omega)).1.2.1
    have L3 : s 2 3 = 65 := (t0.2 3 (by omega) (show 3 < 4 by omega)).1.2.1
    have A3 := hA 3 (gv (w3 3 (by omega) (by omega))) (Or.inr L3)
    refine ⟨82, txt s, av, fun k => 0, fun k => 0, ?_, ?_, fun m hw => ?_, fun u hu => ?_⟩
    · exact ⟨Or.inr (Or.inr ⟨rfl, rfl⟩), (val_I (w3 1 (by omega) (by omega)) (Or.inl L1)).1, fun _ => (val_I (w3 2 (by omega) (by omega)) (Or.inr (Or.inr L2))).1, fun g => by omega, fun g => by omega, fun _ => ⟨AM_pos A3, AM_le A3⟩, fun t ht => absurd ht (Nat.not_lt_zero t)⟩
    · exact ⟨⟨k0, hN⟩, rfl, fun g => by omega, fun _ => rfl, fun g => by omega, fun _ => A3, fun t ht => absurd ht (Nat.not_lt_zero t)⟩
    · obtain ⟨x1, x2, x3, x4⟩ := hw
      exact ⟨⟨by rw [x1, k0], x2⟩, (val_I (x3 1 (by omega) (by omega)) (Or.inl L1)).2, fun g => by omega, fun _ => (val_I (x3 2 (by omega) (by omega)) (Or.inr (Or.inr L2))).2, val_A (x3 3 (by omega) (by omega)) (Or.inr L3) A3, fun t ht => absurd ht (Nat.not_lt_zero t)⟩
    · obtain ⟨y1, y2, y3⟩ := hu
      rcases y3 with ⟨g, _⟩ | ⟨g, _⟩ | ⟨_, z1, z2, v, z3, z4⟩
      · omega
      · omega
      · have I1 := (gV_I (Or.inl L1)).1 (gv (w3 1 (by omega) (by omega)))
        have I2 := (gV_I (Or.inr (Or.inr L2))).1 (gv (w3 2 (by omega) (by omega)))
        exact ⟨by rw [y1, (txt_nm I1).2.2], fun g => by omega, fun _ => by rw [z2, (txt_nm I2).2.2], fun g => by omega, fun _ => by rw [z4, AM_u z3 A3], fun t ht => absurd ht (Nat.not_lt_zero t)⟩
