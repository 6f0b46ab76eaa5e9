/-! big steps over the shape SH -/
def Ev (k : Nat) (as : List Value) (m : zM) (r : Option Value) (m' : zM) : Prop := ∀ Q : zQ, Q r (SH, m') → ZM k 0 0 as (SH, m) Q
theorem Ev.use {k : Nat} {as : List Value} {m m' : zM} {r : Option Value} (h : Ev k as m r m') {Q : zQ} (hq : Q r (SH, m')) : ZM k 0 0 as (SH, m) Q := h Q hq
theorem zki (n : Nat) : Int32.ofInt (no_index (OfNat.ofNat n)) = nI (@OfNat.ofNat Nat n (instOfNatNat n)) := by
  show Int32.ofInt (n : Int) = Int32.ofNat n
  exact Int32.ofInt_eq_ofNat
theorem zki1 : Int32.ofInt (-1) = -1 := by decide
theorem zk8 {n : Nat} (h : @OfNat.ofNat Nat n (instOfNatNat n) < 128) : (Int8.ofInt (no_index (OfNat.ofNat n))).toInt32 = nI (@OfNat.ofNat Nat n (instOfNatNat n)) := by
  have : ∀ n : Fin 128, (Int8.ofInt ((n : Nat) : Int)).toInt32 = nI n := by decide
  exact this ⟨n, h⟩
theorem zk16 {n : Nat} (h : @OfNat.ofNat Nat n (instOfNatNat n) < 32768) : (Int16.ofInt (no_index (OfNat.ofNat n))).toInt32 = nI (@OfNat.ofNat Nat n (instOfNatNat n)) := by
  have h : n < 32768 := h
  show (Int16.ofInt (n : Int)).toInt32 = Int32.ofNat n
  apply Int32.toInt_inj.mp
  rw [Int16.toInt_toInt32, Int16.toInt_ofInt_of_le (by first | omega | (simp; done) | (simp; omega)) (by first | omega | (simp; omega))]
  exact (nI_toInt (n := n) (by omega)).symm
theorem zo32 (n : Nat) : Int32.ofNat n = nI n := rfl
theorem zlt0 {a : Nat} (h : a < 2 ^ 31) : (nI a < 0) = False := eq_false (nI_pos h)
theorem zle0 {a : Nat} (h : a < 2 ^ 31) : (0 ≤ nI a) = True := eq_true (nI_pos' h)
theorem zeq0 {a : Nat} (h : a < 2 ^ 31) : (nI a = 0) = (a = 0) := propext (nI_eq h (b := 0) (by decide))
theorem zgt0 {a : Nat} (h : a < 2 ^ 31) : (0 < nI a) = (0 < a) := propext (nI_ltI (a := 0) (by decide) h)
theorem zLe0 {a : Nat} (h : a < 2 ^ 31) : (nI a ≤ 0) = (a ≤ 0) := propext (nI_leI h (b := 0) (by decide))
theorem zin_nI {n N : Nat} (h : n < N) (hN : N < 2 ^ 31) : vp_in (nI n) N := vp_in_nI h hN
theorem zup_s (m : zM) (a k : Nat) (v : Int32) : zup m a k v a = upd (m a) k v := if_pos rfl
theorem zup_n (m : zM) {a b k : Nat} {v : Int32} (h : b ≠ a) : zup m a k v b = m b := if_neg h
theorem upd_s (f : Nat → Int32) (k : Nat) (v : Int32) : upd f k v k = v := pk_us
theorem upd_n (f : Nat → Int32) {j k : Nat} {v : Int32} (h : j ≠ k) : upd f k v j = f j := pk_un h
/-- an int against a number -/
theorem zix (x : Int32) {n : Nat} (hn : n < 2 ^ 31) : (x < 0 ∧ (x < 0) = True) ∨ (((x < 0) = False ∧ (x < nI n) = False ∧ (nI n ≤ x) = True) ∧ (0 ≤ x) = True) ∨ ∃ j : Nat, j < n ∧ x = nI j := by
  by_cases h0 : x < 0
  · exact Or.inl ⟨h0, eq_true h0⟩
  · rcases pk_ix x hn with h | h | h
    · exact absurd h h0
    · exact Or.inr (Or.inl ⟨⟨eq_false h0, eq_false (Int32.not_lt.mpr h), eq_true h⟩, eq_true (Int32.not_lt.mp h0)⟩)
    · exact Or.inr (Or.inr h)
theorem zneg {x : Int32} (h : x < 0) {k : Nat} (hk : k < 2 ^ 31) : (x = nI k) = False := eq_false (fun e => nI_pos hk (e ▸ h))
theorem zbig {x : Int32} {n : Nat} (h : nI n ≤ x) (hn : n < 2 ^ 31) {k : Nat} (hk : k < n) : (x = nI k) = False := eq_false (fun e => nI_ge hk hn (e ▸ h))
theorem zbigl {x : Int32} {n : Nat} (h : nI n ≤ x) (hn : n < 2 ^ 31) {k : Nat} (hk : k ≤ n) : (x < nI k) = False := eq_false (fun e => by
  have h1 : x < nI n := Int32.lt_of_lt_of_le e (nI_le hk hn)
  exact Int32.not_lt.mpr h h1)
theorem zbigg {x : Int32} {n : Nat} (h : nI n ≤ x) (hn : n < 2 ^ 31) {k : Nat} (hk : k < n) : (x ≤ nI k) = False := eq_false (fun e => nI_ge hk hn (Int32.le_trans h e))
theorem zbigk {x : Int32} {n : Nat} (h : nI n ≤ x) (hn : n < 2 ^ 31) {k : Nat} (hk : k < n) : (nI k < x) = True := eq_true (Int32.lt_of_lt_of_le (nI_lt hk hn) h)
theorem znegl {x : Int32} (h : x < 0) {k : Nat} (hk : k < 2 ^ 31) : (nI k ≤ x) = False := eq_false (fun e => by
  have h1 : nI k < 0 := Int32.lt_of_le_of_lt e h
  exact nI_pos hk h1)
theorem z10 : ((1 : Int32) = 0) = False := by decide
theorem zeq1 {a : Nat} (h : a < 2 ^ 31) : (nI a = 1) = (a = 1) := propext (nI_eq h (b := 1) (by decide))
theorem zkpl (n k : Nat) : Int32.ofInt ((no_index (OfNat.ofNat n)) + (k : Int)) = nI (@OfNat.ofNat Nat n (instOfNatNat n) + k) := by
  show Int32.ofInt ((n : Int) + (k : Int)) = nI (n + k)
  rw [← Int.natCast_add]
  exact Int32.ofInt_eq_ofNat
/-- another name of the memory -/
theorem zcg {k : Nat} {g : Nat × Nat × Nat × Nat} {pc : Nat} {ls : zLs} {st : List Value} {m m' : zM} {Q : zQ} (h : m' = m) (w : ZW k g pc ls st (SH, m) Q) : ZW k g pc ls st (SH, m') Q := h ▸ w
theorem zcm {k : Nat} {as : List Value} {m m' : zM} {Q : zQ} (h : m' = m) (w : ZM k 0 0 as (SH, m) Q) : ZM k 0 0 as (SH, m') Q := h ▸ w
theorem zcq {Q : zQ} {r r' : Option Value} {m m' : zM} (hr : r' = r) (h : m' = m) (w : Q r (SH, m)) : Q r' (SH, m') := hr ▸ h ▸ w
