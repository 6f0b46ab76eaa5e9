/-! where the parts of a payment stand in the record -/
theorem nda_ch {v : Nat} : ∀ i, ∀ c ∈ nda v i, 48 ≤ c ∧ c ≤ 57 := by
  intro i
  induction i with
  | zero =>
    intro c hc
    rw [nda] at hc
    have : c = 48 + v / 1 % 10 := by simpa using hc
    omega
  | succ i ih =>
    intro c hc
    rw [nda] at hc
    rcases List.mem_append.1 hc with hc | hc
    · by_cases e : 10 ^ (i + 1) ≤ v
      · rw [if_pos e] at hc
        have : c = 48 + v / 10 ^ (i + 1) % 10 := by simpa using hc
        omega
      · rw [if_neg e] at hc
        exact absurd hc List.not_mem_nil
    · exact ih c hc
theorem two_ch {v : Nat} (hv : v ≤ 99) : ∀ c ∈ two v, 48 ≤ c ∧ c ≤ 57 := by
  intro c hc
  unfold two at hc
  have : c = 48 + v / 10 ∨ c = 48 + v % 10 := by simpa using hc
  omega
theorem amT_ch {v : Nat} : ∀ c ∈ amT v, c = 46 ∨ (48 ≤ c ∧ c ≤ 57) := by
  intro c hc
  unfold amT at hc
  rcases List.mem_append.1 hc with hc | hc
  · exact Or.inr (nda_ch 5 c hc)
  · rcases List.mem_cons.1 hc with hc | hc
    · exact Or.inl hc
    · exact Or.inr (two_ch (by omega) c hc)
theorem acT_ch {p d : Nat} (hp : p ≤ 3) (hd : d ≤ 99) : ∀ c ∈ acT p d, c ≠ 60 ∧ c < 256 := by
  intro c hc
  unfold acT at hc
  rcases List.mem_cons.1 hc with hc | hc
  · omega
  · have := two_ch hd c hc
    omega
theorem nm_ch {cs : List Nat} (h : nmOk cs) : ∀ c ∈ cs, c ≠ 60 ∧ c < 256 := by
  intro c hc
  have := h.2.2 c hc
  omega
theorem amT_ch2 {v : Nat} : ∀ c ∈ amT v, c ≠ 60 ∧ c < 256 := by
  intro c hc
  have := amT_ch c hc
  omega
/-- what stands behind <E> of part t, k parts following it -/
def sE (nm : Nat → List Nat) (vl pl dg : Nat → Nat) (Z : List Nat) (k t : Nat) : List Nat := nm (5 + 5 * t) ++ ([60, 47, 69, 62] ++ (lfx 68 (acT (pl (6 + 5 * t)) (dg (6 + 5 * t))) ++ (lfx 67 (acT (pl (7 + 5 * t)) (dg (7 + 5 * t))) ++ (lfx 65 (amT (vl (8 + 5 * t))) ++ ([60, 47, 84, 62] ++ (ptx nm vl pl dg k (t + 1) ++ Z))))))
theorem ptx_sE (nm : Nat → List Nat) (vl pl dg : Nat → Nat) (Z : List Nat) (k t : Nat) : ptx nm vl pl dg (k + 1) t ++ Z = [60, 84, 62] ++ ([60, 69, 62] ++ sE nm vl pl dg Z k t) := by
  have e : rtx 1 (XT nm vl pl dg t) 5 0 = ([60, 84, 62] ++ []) ++ (lfx 69 (nm (5 + 5 * t)) ++ (lfx 68 (acT (pl (6 + 5 * t)) (dg (6 + 5 * t))) ++ (lfx 67 (acT (pl (7 + 5 * t)) (dg (7 + 5 * t))) ++ (lfx 65 (amT (vl (8 + 5 * t))) ++ [])))) := rfl
  rw [ptx, e]
  unfold sE
  rw [show lfx 69 (nm (5 + 5 * t)) = [60, 69, 62] ++ (nm (5 + 5 * t) ++ [60, 47, 69, 62]) from rfl]
  simp only [List.append_assoc, List.append_nil]
theorem getD_app : ∀ (xs ys : List Nat) (i : Nat), (xs ++ ys).getD (xs.length + i) 0 = ys.getD i 0 := by
  intro xs
  induction xs with
  | nil =>
    intro ys i
    rw [List.nil_append, List.length_nil, Nat.zero_add]
  | cons x xs ih =>
    intro ys i
    rw [List.length_cons, show xs.length + 1 + i = (xs.length + i) + 1 by omega, List.cons_append]
    exact ih ys i
theorem tx_drop {u : zM} {p : Nat} {xs ys : List Nat} (h : tx u p (xs ++ ys)) : tx u (p + xs.length) ys := by
  intro i hi
  have := h (xs.length + i) (by rw [List.length_append]; omega)
  rw [show p + (xs.length + i) = p + xs.length + i by omega] at this
  rw [this]
  congr 1
  exact getD_app xs ys i
/-- a sign of length four that ends an element -/
theorem fst_e {l l' : Nat} {ys : List Nat} {k : Nat} (h2 : l' ≠ 60) (h3 : 47 ≠ l) (h : fst1 l ys k) : fst1 l ([60, 47, l', 62] ++ ys) (4 + k) := by
  have a1 := fst_c (c := 62) (Or.inl (by decide)) h
  have a2 := fst_c (c := l') (Or.inl h2) a1
  have a3 := fst_c (c := 47) (Or.inl (by decide)) a2
  have a4 := fst_c (c := 60) (zs := 47 :: l' :: 62 :: ys) (Or.inr h3) a3
  rw [show 4 + k = k + 1 + 1 + 1 + 1 by omega]
  exact a4
theorem fst_b {l l' : Nat} {ys : List Nat} {k : Nat} (h1 : l' ≠ l) (h2 : l' ≠ 60) (h : fst1 l ys k) : fst1 l ([60, l', 62] ++ ys) (3 + k) := by
  have a1 := fst_c (c := 62) (Or.inl (by decide)) h
  have a2 := fst_c (c := l') (Or.inl h2) a1
  have a3 := fst_c (c := 60) (zs := l' :: 62 :: ys) (Or.inr h1) a2
  rw [show 3 + k = k + 1 + 1 + 1 by omega]
  exact a3
theorem sE_D {nm : Nat → List Nat} {vl pl dg : Nat → Nat} {Z : List Nat} {k t : Nat} (hn : nmOk (nm (5 + 5 * t))) : fst1 68 (sE nm vl pl dg Z k t) ((nm (5 + 5 * t)).length + (4 + 0)) := fst_l _ (fun c hc => (nm_ch hn c hc).1) (fst_e (by decide) (by decide) fst_h)
theorem sE_C {nm : Nat → List Nat} {vl pl dg : Nat → Nat} {Z : List Nat} {k t : Nat} (hn : nmOk (nm (5 + 5 * t))) (h1 : pl (6 + 5 * t) ≤ 3 ∧ dg (6 + 5 * t) ≤ 99) : fst1 67 (sE nm vl pl dg Z k t) ((nm (5 + 5 * t)).length + (4 + (10 + 0))) := fst_l _ (fun c hc => (nm_ch hn c hc).1) (fst_e (by decide) (by decide) (fst_lf (by decide) (by decide) (by decide) (fun c hc => (acT_ch h1.1 h1.2 c hc).1) fst_h))
theorem sE_A {nm : Nat → List Nat} {vl pl dg : Nat → Nat} {Z : List Nat} {k t : Nat} (hn : nmOk (nm (5 + 5 * t))) (h1 : pl (6 + 5 * t) ≤ 3 ∧ dg (6 + 5 * t) ≤ 99) (h2 : pl (7 + 5 * t) ≤ 3 ∧ dg (7 + 5 * t) ≤ 99) : fst1 65 (sE nm vl pl dg Z k t) ((nm (5 + 5 * t)).length + (4 + (10 + (10 + 0)))) := fst_l _ (fun c hc => (nm_ch hn c hc).1) (fst_e (by decide) (by decide) (fst_lf (by decide) (by decide) (by decide) (fun c hc => (acT_ch h1.1 h1.2 c hc).1) (fst_lf (by decide) (by decide) (by decide) (fun c hc => (acT_ch h2.1 h2.2 c hc).1) fst_h)))
theorem sE_E {nm : Nat → List Nat} {vl pl dg : Nat → Nat} {Z : List Nat} {k t : Nat} (hn : nmOk (nm (5 + 5 * t))) (h1 : pl (6 + 5 * t) ≤ 3 ∧ dg (6 + 5 * t) ≤ 99) (h2 : pl (7 + 5 * t) ≤ 3 ∧ dg (7 + 5 * t) ≤ 99) : fst1 69 (sE nm vl pl dg Z (k + 1) t) ((nm (5 + 5 * t)).length + (4 + (10 + (10 + ((lfx 65 (amT (vl (8 + 5 * t)))).length + (4 + (3 + 0))))))) := by
  unfold sE
  rw [ptx_sE]
  exact fst_l _ (fun c hc => (nm_ch hn c hc).1) (fst_e (by decide) (by decide) (fst_lf (by decide) (by decide) (by decide) (fun c hc => (acT_ch h1.1 h1.2 c hc).1) (fst_lf (by decide) (by decide) (by decide) (fun c hc => (acT_ch h2.1 h2.2 c hc).1) (fst_lf (by decide) (by decide) (by decide) (fun c hc => (amT_ch2 c hc).1) (fst_e (by decide) (by decide) (fst_b (by decide) (by decide) fst_h))))))
