/-! the relation of the class and the model -/
/-- a name's characters -/
def nmOk (cs : List Nat) : Prop := 1 ≤ cs.length ∧ cs.length ≤ 4 ∧ ∀ c ∈ cs, (48 ≤ c ∧ c ≤ 57) ∨ (97 ≤ c ∧ c ≤ 122)
def n8 (cs : List Nat) : Nat := cs.foldl (fun x c => 256 * x + c) 0
def v37 (c : Nat) : Nat := if c ≤ 57 then c - 47 else c - 86
def n37 (cs : List Nat) : Nat := cs.foldl (fun x c => 37 * x + v37 c) 0
def nmR (x y : Int32) : Prop := ∃ cs, nmOk cs ∧ x = nI (n8 cs) ∧ y = nI (n37 cs)
/-- the text -/
def tR (m : zM) (w : Nat → Nat) (wl : Nat) : Prop := m 9 2 = nI wl ∧ m 42 7 = nI wl ∧ wl ≤ 300 ∧ ∀ j, j < wl → 32 ≤ w j ∧ w j ≤ 126 ∧ m 10 j = nI (w j) ∧ m 43 j = nI (w j)
/-- the journal: n bytes, W of them in whole records -/
def jR (m : zM) (J : Nat → Nat) (n W : Nat) : Prop := m 14 1 = nI n ∧ m 42 36 = nI n ∧ n ≤ 5247 ∧ (∀ j, j < n → J j < 256 ∧ m 58 j = nI (J j) ∧ m 15 j &&& 255 = nI (J j)) ∧ m 14 2 = nI W ∧ W ≤ n
/-- the power -/
def pR (m : zM) (d : Nat) : Prop := m 14 8 = nI d ∧ m 42 3 = nI d ∧ d ≤ 1
def fR (m : zM) : Prop := (m 14 5 = 0 ∧ m 42 4 = -1) ∨ ∃ l c, l ≤ 50 ∧ c ≤ 300 ∧ m 14 5 = 1 ∧ m 14 6 = nI l ∧ m 42 4 = nI l ∧ m 14 7 = nI c ∧ m 42 5 = nI c
/-- the ledger: the model's rows in u, the class's in m -/
def lR (u m : zM) (nT nQ nR nM : Nat) : Prop :=
  (m 28 6 = nI nT ∧ u 42 45 = nI nT ∧ nT ≤ 20) ∧ (m 28 8 = nI nQ ∧ u 42 47 = nI nQ ∧ nQ ≤ nT) ∧ (m 36 4 = nI nR ∧ u 42 55 = nI nR ∧ nR ≤ 40) ∧ (m 18 4 = nI nM ∧ u 42 38 = nI nM ∧ nM ≤ 60) ∧
  (∀ t, t < nT → u 61 t = m 30 t ∧ u 62 t = m 31 t ∧ u 63 t = m 32 t ∧ u 64 t = m 33 t ∧ u 65 t = m 34 t ∧ nmR (m 29 t) (u 60 t)) ∧
  (∀ k, k < nQ → u 66 k = m 35 k) ∧ (∀ a, a < 4 → u 67 a = m 20 a ∧ u 68 a = m 21 a ∧ u 70 a = m 22 a) ∧
  (∀ a, a < 4 → ∃ e, m 22 a = nI e ∧ e ≤ 40 ∧ ∀ k, k < e → u 69 (64 * a + k) = m (24 + a) k) ∧
  (∀ r, r < nR → u 71 r = m 37 r ∧ u 72 r = m 38 r ∧ u 73 r = m 39 r ∧ (m 39 r = 0 ∨ m 39 r = 1)) ∧ (∀ i, i < nM → nmR (m 41 i) (u 59 i))
/-- the copies that went out -/
def kR (m : zM) (nR : Nat) : Prop := (∀ r, r < nR → m 40 r = m 74 r) ∧ (∀ r, nR ≤ r → r < 64 → m 74 r = 0) ∧ ∀ r, nR ≤ r → r < 40 → m 40 r = 0
