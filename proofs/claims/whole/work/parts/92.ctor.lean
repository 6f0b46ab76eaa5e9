/-! the class's constructors: every new cell is zero, but the limit and the four balances; written by wip/gen/ctor.py -/
def Zr (m : zM) (lo hi : Nat) : zM := fun b j => if lo ≤ b ∧ b < hi then 0 else m b j
def YY (op li : Int32) (m : zM) (lo hi : Nat) : zM := fun b j => if b = 19 ∧ j = 0 then li else if b = 20 ∧ j < 4 then op else Zr m lo hi b j
def clM (x : Int32) : Int32 := if Int32.ofInt 0 < (if Int32.ofNat 1000000 < x then Int32.ofNat 1000000 else x) then (if Int32.ofNat 1000000 < x then Int32.ofNat 1000000 else x) else Int32.ofInt 0
theorem zz_at (m : zM) (a b j : Nat) : zz m a b j = if b = a then 0 else m b j := by
  unfold zz
  split <;> rfl
theorem zup_at (m : zM) (a k b j : Nat) (v : Int32) : zup m a k v b j = if b = a ∧ j = k then v else m b j := by
  unfold zup upd
  by_cases h : b = a
  · subst h
    by_cases h2 : j = k
    · simp [h2]
    · simp [h2]
  · simp [h]
def q_0 : zS := [(.inr 10, 0, [none, none, none, none, none, none])]
def q_1 : zS := [(.inr 10, 0, [none, none, none, none, none, none]), (.inr 8, 0, [none, none, none, none, none, none, none, none, none, none])]
def q_2 : zS := [(.inr 10, 0, [none, none, none, none, none, none]), (.inr 8, 0, [some 2, none, none, none, none, none, none, none, none, none]), (.inl 0, 75, [])]
def q_3 : zS := [(.inr 10, 0, [none, none, none, none, none, none]), (.inr 8, 0, [some 2, some 3, none, none, none, none, none, none, none, none]), (.inl 0, 75, []), (.inl 0, 75, [])]
def q_4 : zS := [(.inr 10, 0, [none, none, none, none, none, none]), (.inr 8, 0, [some 2, some 3, some 4, none, none, none, none, none, none, none]), (.inl 0, 75, []), (.inl 0, 75, []), (.inl 0, 75, [])]
def q_5 : zS := [(.inr 10, 0, [none, none, none, none, none, none]), (.inr 8, 0, [some 2, some 3, some 4, some 5, none, none, none, none, none, none]), (.inl 0, 75, []), (.inl 0, 75, []), (.inl 0, 75, []), (.inl 0, 75, [])]
def q_6 : zS := [(.inr 10, 0, [none, none, none, none, none, none]), (.inr 8, 0, [some 2, some 3, some 4, some 5, some 6, none, none, none, none, none]), (.inl 0, 75, []), (.inl 0, 75, []), (.inl 0, 75, []), (.inl 0, 75, []), (.inl 2, 75, [])]
def q_7 : zS := [(.inr 10, 0, [none, none, none, none, none, none]), (.inr 8, 0, [some 2, some 3, some 4, some 5, some 6, none, some 7, none, none, none]), (.inl 0, 75, []), (.inl 0, 75, []), (.inl 0, 75, []), (.inl 0, 75, []), (.inl 2, 75, []), (.inl 0, 4, [])]
def q_8 : zS := [(.inr 10, 0, [none, none, none, none, none, none]), (.inr 8, 0, [some 2, some 3, some 4, some 5, some 6, none, some 7, none, some 8, none]), (.inl 0, 75, []), (.inl 0, 75, []), (.inl 0, 75, []), (.inl 0, 75, []), (.inl 2, 75, []), (.inl 0, 4, []), (.inl 0, 300, [])]
def q_9 : zS := [(.inr 10, 0, [none, none, none, none, none, none]), (.inr 8, 0, [some 2, some 3, some 4, some 5, some 6, none, some 7, none, some 8, none]), (.inl 0, 75, []), (.inl 0, 75, []), (.inl 0, 75, []), (.inl 0, 75, []), (.inl 2, 75, []), (.inl 0, 4, []), (.inl 0, 300, []), (.inr 6, 0, [none, none, none, none])]
def q_10 : zS := [(.inr 10, 0, [none, none, none, none, none, none]), (.inr 8, 0, [some 2, some 3, some 4, some 5, some 6, none, some 7, none, some 8, none]), (.inl 0, 75, []), (.inl 0, 75, []), (.inl 0, 75, []), (.inl 0, 75, []), (.inl 2, 75, []), (.inl 0, 4, []), (.inl 0, 300, []), (.inr 6, 0, [some 1, none, none, none])]
def q_11 : zS := [(.inr 10, 0, [none, none, none, none, none, none]), (.inr 8, 0, [some 2, some 3, some 4, some 5, some 6, none, some 7, none, some 8, none]), (.inl 0, 75, []), (.inl 0, 75, []), (.inl 0, 75, []), (.inl 0, 75, []), (.inl 2, 75, []), (.inl 0, 4, []), (.inl 0, 300, []), (.inr 6, 0, [some 1, some 10, none, none]), (.inl 0, 300, [])]
def q_12 : zS := [(.inr 10, 0, [some 9, none, none, none, none, none]), (.inr 8, 0, [some 2, some 3, some 4, some 5, some 6, none, some 7, none, some 8, none]), (.inl 0, 75, []), (.inl 0, 75, []), (.inl 0, 75, []), (.inl 0, 75, []), (.inl 2, 75, []), (.inl 0, 4, []), (.inl 0, 300, []), (.inr 6, 0, [some 1, some 10, none, none]), (.inl 0, 300, [])]
def q_13 : zS := [(.inr 10, 0, [some 9, none, none, none, none, none]), (.inr 8, 0, [some 2, some 3, some 4, some 5, some 6, none, some 7, none, some 8, none]), (.inl 0, 75, []), (.inl 0, 75, []), (.inl 0, 75, []), (.inl 0, 75, []), (.inl 2, 75, []), (.inl 0, 4, []), (.inl 0, 300, []), (.inr 6, 0, [some 1, some 10, none, none]), (.inl 0, 300, []), (.inr 3, 0, [none, none, none, none, none])]
def q_14 : zS := [(.inr 10, 0, [some 9, none, none, none, none, none]), (.inr 8, 0, [some 2, some 3, some 4, some 5, some 6, none, some 7, none, some 8, none]), (.inl 0, 75, []), (.inl 0, 75, []), (.inl 0, 75, []), (.inl 0, 75, []), (.inl 2, 75, []), (.inl 0, 4, []), (.inl 0, 300, []), (.inr 6, 0, [some 1, some 10, none, none]), (.inl 0, 300, []), (.inr 3, 0, [some 1, none, none, none, none])]
def q_15 : zS := [(.inr 10, 0, [some 9, none, none, none, none, none]), (.inr 8, 0, [some 2, some 3, some 4, some 5, some 6, none, some 7, none, some 8, none]), (.inl 0, 75, []), (.inl 0, 75, []), (.inl 0, 75, []), (.inl 0, 75, []), (.inl 2, 75, []), (.inl 0, 4, []), (.inl 0, 300, []), (.inr 6, 0, [some 1, some 10, none, none]), (.inl 0, 300, []), (.inr 3, 0, [some 1, none, none, none, none]), (.inr 9, 0, [none, none, none])]
def q_16 : zS := [(.inr 10, 0, [some 9, none, none, none, none, none]), (.inr 8, 0, [some 2, some 3, some 4, some 5, some 6, none, some 7, none, some 8, none]), (.inl 0, 75, []), (.inl 0, 75, []), (.inl 0, 75, []), (.inl 0, 75, []), (.inl 2, 75, []), (.inl 0, 4, []), (.inl 0, 300, []), (.inr 6, 0, [some 1, some 10, none, none]), (.inl 0, 300, []), (.inr 3, 0, [some 1, none, none, none, none]), (.inr 9, 0, [some 1, none, none])]
def q_17 : zS := [(.inr 10, 0, [some 9, none, none, none, none, none]), (.inr 8, 0, [some 2, some 3, some 4, some 5, some 6, none, some 7, none, some 8, none]), (.inl 0, 75, []), (.inl 0, 75, []), (.inl 0, 75, []), (.inl 0, 75, []), (.inl 2, 75, []), (.inl 0, 4, []), (.inl 0, 300, []), (.inr 6, 0, [some 1, some 10, none, none]), (.inl 0, 300, []), (.inr 3, 0, [some 1, some 12, none, none, none]), (.inr 9, 0, [some 1, none, none])]
def q_18 : zS := [(.inr 10, 0, [some 9, none, none, none, none, none]), (.inr 8, 0, [some 2, some 3, some 4, some 5, some 6, none, some 7, none, some 8, none]), (.inl 0, 75, []), (.inl 0, 75, []), (.inl 0, 75, []), (.inl 0, 75, []), (.inl 2, 75, []), (.inl 0, 4, []), (.inl 0, 300, []), (.inr 6, 0, [some 1, some 10, none, none]), (.inl 0, 300, []), (.inr 3, 0, [some 1, some 12, some 13, none, none]), (.inr 9, 0, [some 1, none, none]), (.inl 0, 19, [])]
def q_19 : zS := [(.inr 10, 0, [some 9, some 11, none, none, none, none]), (.inr 8, 0, [some 2, some 3, some 4, some 5, some 6, none, some 7, none, some 8, none]), (.inl 0, 75, []), (.inl 0, 75, []), (.inl 0, 75, []), (.inl 0, 75, []), (.inl 2, 75, []), (.inl 0, 4, []), (.inl 0, 300, []), (.inr 6, 0, [some 1, some 10, none, none]), (.inl 0, 300, []), (.inr 3, 0, [some 1, some 12, some 13, none, none]), (.inr 9, 0, [some 1, none, none]), (.inl 0, 19, [])]
def q_20 : zS := [(.inr 10, 0, [some 9, some 11, none, none, none, none]), (.inr 8, 0, [some 2, some 3, some 4, some 5, some 6, none, some 7, none, some 8, none]), (.inl 0, 75, []), (.inl 0, 75, []), (.inl 0, 75, []), (.inl 0, 75, []), (.inl 2, 75, []), (.inl 0, 4, []), (.inl 0, 300, []), (.inr 6, 0, [some 1, some 10, none, none]), (.inl 0, 300, []), (.inr 3, 0, [some 1, some 12, some 13, none, none]), (.inr 9, 0, [some 1, none, none]), (.inl 0, 19, []), (.inr 4, 0, [none, none, none, none, none, none, none, none, none])]
def q_21 : zS := [(.inr 10, 0, [some 9, some 11, none, none, none, none]), (.inr 8, 0, [some 2, some 3, some 4, some 5, some 6, none, some 7, none, some 8, none]), (.inl 0, 75, []), (.inl 0, 75, []), (.inl 0, 75, []), (.inl 0, 75, []), (.inl 2, 75, []), (.inl 0, 4, []), (.inl 0, 300, []), (.inr 6, 0, [some 1, some 10, none, none]), (.inl 0, 300, []), (.inr 3, 0, [some 1, some 12, some 13, none, none]), (.inr 9, 0, [some 1, none, none]), (.inl 0, 19, []), (.inr 4, 0, [some 15, none, none, none, none, none, none, none, none]), (.inl 1, 5247, [])]
def q_22 : zS := [(.inr 10, 0, [some 9, some 11, none, none, none, none]), (.inr 8, 0, [some 2, some 3, some 4, some 5, some 6, none, some 7, none, some 8, none]), (.inl 0, 75, []), (.inl 0, 75, []), (.inl 0, 75, []), (.inl 0, 75, []), (.inl 2, 75, []), (.inl 0, 4, []), (.inl 0, 300, []), (.inr 6, 0, [some 1, some 10, none, none]), (.inl 0, 300, []), (.inr 3, 0, [some 1, some 12, some 13, none, none]), (.inr 9, 0, [some 1, none, none]), (.inl 0, 19, []), (.inr 4, 0, [some 15, none, none, some 16, none, none, none, none, none]), (.inl 1, 5247, []), (.inl 0, 258, [])]
def q_23 : zS := [(.inr 10, 0, [some 9, some 11, some 14, none, none, none]), (.inr 8, 0, [some 2, some 3, some 4, some 5, some 6, none, some 7, none, some 8, none]), (.inl 0, 75, []), (.inl 0, 75, []), (.inl 0, 75, []), (.inl 0, 75, []), (.inl 2, 75, []), (.inl 0, 4, []), (.inl 0, 300, []), (.inr 6, 0, [some 1, some 10, none, none]), (.inl 0, 300, []), (.inr 3, 0, [some 1, some 12, some 13, none, none]), (.inr 9, 0, [some 1, none, none]), (.inl 0, 19, []), (.inr 4, 0, [some 15, none, none, some 16, none, none, none, none, none]), (.inl 1, 5247, []), (.inl 0, 258, [])]
def q_24 : zS := [(.inr 10, 0, [some 9, some 11, some 14, none, none, none]), (.inr 8, 0, [some 2, some 3, some 4, some 5, some 6, none, some 7, none, some 8, none]), (.inl 0, 75, []), (.inl 0, 75, []), (.inl 0, 75, []), (.inl 0, 75, []), (.inl 2, 75, []), (.inl 0, 4, []), (.inl 0, 300, []), (.inr 6, 0, [some 1, some 10, none, none]), (.inl 0, 300, []), (.inr 3, 0, [some 1, some 12, some 13, none, none]), (.inr 9, 0, [some 1, none, none]), (.inl 0, 19, []), (.inr 4, 0, [some 15, none, none, some 16, none, none, none, none, none]), (.inl 1, 5247, []), (.inl 0, 258, []), (.inr 1, 0, [none])]
def q_25 : zS := [(.inr 10, 0, [some 9, some 11, some 14, none, none, none]), (.inr 8, 0, [some 2, some 3, some 4, some 5, some 6, none, some 7, none, some 8, none]), (.inl 0, 75, []), (.inl 0, 75, []), (.inl 0, 75, []), (.inl 0, 75, []), (.inl 2, 75, []), (.inl 0, 4, []), (.inl 0, 300, []), (.inr 6, 0, [some 1, some 10, none, none]), (.inl 0, 300, []), (.inr 3, 0, [some 1, some 12, some 13, none, none]), (.inr 9, 0, [some 1, none, none]), (.inl 0, 19, []), (.inr 4, 0, [some 15, none, none, some 16, none, none, none, none, none]), (.inl 1, 5247, []), (.inl 0, 258, []), (.inr 1, 0, [some 14])]
def q_26 : zS := [(.inr 10, 0, [some 9, some 11, some 14, some 17, none, none]), (.inr 8, 0, [some 2, some 3, some 4, some 5, some 6, none, some 7, none, some 8, none]), (.inl 0, 75, []), (.inl 0, 75, []), (.inl 0, 75, []), (.inl 0, 75, []), (.inl 2, 75, []), (.inl 0, 4, []), (.inl 0, 300, []), (.inr 6, 0, [some 1, some 10, none, none]), (.inl 0, 300, []), (.inr 3, 0, [some 1, some 12, some 13, none, none]), (.inr 9, 0, [some 1, none, none]), (.inl 0, 19, []), (.inr 4, 0, [some 15, none, none, some 16, none, none, none, none, none]), (.inl 1, 5247, []), (.inl 0, 258, []), (.inr 1, 0, [some 14])]
def q_27 : zS := [(.inr 10, 0, [some 9, some 11, some 14, some 17, none, none]), (.inr 8, 0, [some 2, some 3, some 4, some 5, some 6, none, some 7, none, some 8, none]), (.inl 0, 75, []), (.inl 0, 75, []), (.inl 0, 75, []), (.inl 0, 75, []), (.inl 2, 75, []), (.inl 0, 4, []), (.inl 0, 300, []), (.inr 6, 0, [some 1, some 10, none, none]), (.inl 0, 300, []), (.inr 3, 0, [some 1, some 12, some 13, none, none]), (.inr 9, 0, [some 1, none, none]), (.inl 0, 19, []), (.inr 4, 0, [some 15, none, none, some 16, none, none, none, none, none]), (.inl 1, 5247, []), (.inl 0, 258, []), (.inr 1, 0, [some 14]), (.inr 2, 0, [none, none, none, none, none])]
def q_28 : zS := [(.inr 10, 0, [some 9, some 11, some 14, some 17, none, none]), (.inr 8, 0, [some 2, some 3, some 4, some 5, some 6, none, some 7, none, some 8, none]), (.inl 0, 75, []), (.inl 0, 75, []), (.inl 0, 75, []), (.inl 0, 75, []), (.inl 2, 75, []), (.inl 0, 4, []), (.inl 0, 300, []), (.inr 6, 0, [some 1, some 10, none, none]), (.inl 0, 300, []), (.inr 3, 0, [some 1, some 12, some 13, none, none]), (.inr 9, 0, [some 1, none, none]), (.inl 0, 19, []), (.inr 4, 0, [some 15, none, none, some 16, none, none, none, none, none]), (.inl 1, 5247, []), (.inl 0, 258, []), (.inr 1, 0, [some 14]), (.inr 2, 0, [none, none, none, none, none]), (.inr 0, 0, [none, none, none, none, none])]
def q_29 : zS := [(.inr 10, 0, [some 9, some 11, some 14, some 17, none, none]), (.inr 8, 0, [some 2, some 3, some 4, some 5, some 6, none, some 7, none, some 8, none]), (.inl 0, 75, []), (.inl 0, 75, []), (.inl 0, 75, []), (.inl 0, 75, []), (.inl 2, 75, []), (.inl 0, 4, []), (.inl 0, 300, []), (.inr 6, 0, [some 1, some 10, none, none]), (.inl 0, 300, []), (.inr 3, 0, [some 1, some 12, some 13, none, none]), (.inr 9, 0, [some 1, none, none]), (.inl 0, 19, []), (.inr 4, 0, [some 15, none, none, some 16, none, none, none, none, none]), (.inl 1, 5247, []), (.inl 0, 258, []), (.inr 1, 0, [some 14]), (.inr 2, 0, [none, none, none, none, none]), (.inr 0, 0, [none, some 20, none, none, none]), (.inl 0, 4, [])]
def q_30 : zS := [(.inr 10, 0, [some 9, some 11, some 14, some 17, none, none]), (.inr 8, 0, [some 2, some 3, some 4, some 5, some 6, none, some 7, none, some 8, none]), (.inl 0, 75, []), (.inl 0, 75, []), (.inl 0, 75, []), (.inl 0, 75, []), (.inl 2, 75, []), (.inl 0, 4, []), (.inl 0, 300, []), (.inr 6, 0, [some 1, some 10, none, none]), (.inl 0, 300, []), (.inr 3, 0, [some 1, some 12, some 13, none, none]), (.inr 9, 0, [some 1, none, none]), (.inl 0, 19, []), (.inr 4, 0, [some 15, none, none, some 16, none, none, none, none, none]), (.inl 1, 5247, []), (.inl 0, 258, []), (.inr 1, 0, [some 14]), (.inr 2, 0, [none, none, none, none, none]), (.inr 0, 0, [none, some 20, some 21, none, none]), (.inl 0, 4, []), (.inl 0, 4, [])]
def q_31 : zS := [(.inr 10, 0, [some 9, some 11, some 14, some 17, none, none]), (.inr 8, 0, [some 2, some 3, some 4, some 5, some 6, none, some 7, none, some 8, none]), (.inl 0, 75, []), (.inl 0, 75, []), (.inl 0, 75, []), (.inl 0, 75, []), (.inl 2, 75, []), (.inl 0, 4, []), (.inl 0, 300, []), (.inr 6, 0, [some 1, some 10, none, none]), (.inl 0, 300, []), (.inr 3, 0, [some 1, some 12, some 13, none, none]), (.inr 9, 0, [some 1, none, none]), (.inl 0, 19, []), (.inr 4, 0, [some 15, none, none, some 16, none, none, none, none, none]), (.inl 1, 5247, []), (.inl 0, 258, []), (.inr 1, 0, [some 14]), (.inr 2, 0, [none, none, none, none, none]), (.inr 0, 0, [none, some 20, some 21, some 22, none]), (.inl 0, 4, []), (.inl 0, 4, []), (.inl 0, 4, [])]
def q_32 : zS := [(.inr 10, 0, [some 9, some 11, some 14, some 17, none, none]), (.inr 8, 0, [some 2, some 3, some 4, some 5, some 6, none, some 7, none, some 8, none]), (.inl 0, 75, []), (.inl 0, 75, []), (.inl 0, 75, []), (.inl 0, 75, []), (.inl 2, 75, []), (.inl 0, 4, []), (.inl 0, 300, []), (.inr 6, 0, [some 1, some 10, none, none]), (.inl 0, 300, []), (.inr 3, 0, [some 1, some 12, some 13, none, none]), (.inr 9, 0, [some 1, none, none]), (.inl 0, 19, []), (.inr 4, 0, [some 15, none, none, some 16, none, none, none, none, none]), (.inl 1, 5247, []), (.inl 0, 258, []), (.inr 1, 0, [some 14]), (.inr 2, 0, [none, none, none, none, none]), (.inr 0, 0, [none, some 20, some 21, some 22, none]), (.inl 0, 4, []), (.inl 0, 4, []), (.inl 0, 4, []), (.inl 4, 4, [some 24, some 25, some 26, some 27]), (.inl 0, 40, []), (.inl 0, 40, []), (.inl 0, 40, []), (.inl 0, 40, [])]
def q_33 : zS := [(.inr 10, 0, [some 9, some 11, some 14, some 17, none, none]), (.inr 8, 0, [some 2, some 3, some 4, some 5, some 6, none, some 7, none, some 8, none]), (.inl 0, 75, []), (.inl 0, 75, []), (.inl 0, 75, []), (.inl 0, 75, []), (.inl 2, 75, []), (.inl 0, 4, []), (.inl 0, 300, []), (.inr 6, 0, [some 1, some 10, none, none]), (.inl 0, 300, []), (.inr 3, 0, [some 1, some 12, some 13, none, none]), (.inr 9, 0, [some 1, none, none]), (.inl 0, 19, []), (.inr 4, 0, [some 15, none, none, some 16, none, none, none, none, none]), (.inl 1, 5247, []), (.inl 0, 258, []), (.inr 1, 0, [some 14]), (.inr 2, 0, [none, none, none, none, none]), (.inr 0, 0, [none, some 20, some 21, some 22, some 23]), (.inl 0, 4, []), (.inl 0, 4, []), (.inl 0, 4, []), (.inl 4, 4, [some 24, some 25, some 26, some 27]), (.inl 0, 40, []), (.inl 0, 40, []), (.inl 0, 40, []), (.inl 0, 40, [])]
def q_34 : zS := [(.inr 10, 0, [some 9, some 11, some 14, some 17, none, none]), (.inr 8, 0, [some 2, some 3, some 4, some 5, some 6, none, some 7, none, some 8, none]), (.inl 0, 75, []), (.inl 0, 75, []), (.inl 0, 75, []), (.inl 0, 75, []), (.inl 2, 75, []), (.inl 0, 4, []), (.inl 0, 300, []), (.inr 6, 0, [some 1, some 10, none, none]), (.inl 0, 300, []), (.inr 3, 0, [some 1, some 12, some 13, none, none]), (.inr 9, 0, [some 1, none, none]), (.inl 0, 19, []), (.inr 4, 0, [some 15, none, none, some 16, none, none, none, none, none]), (.inl 1, 5247, []), (.inl 0, 258, []), (.inr 1, 0, [some 14]), (.inr 2, 0, [some 19, none, none, none, none]), (.inr 0, 0, [none, some 20, some 21, some 22, some 23]), (.inl 0, 4, []), (.inl 0, 4, []), (.inl 0, 4, []), (.inl 4, 4, [some 24, some 25, some 26, some 27]), (.inl 0, 40, []), (.inl 0, 40, []), (.inl 0, 40, []), (.inl 0, 40, [])]
def q_35 : zS := [(.inr 10, 0, [some 9, some 11, some 14, some 17, none, none]), (.inr 8, 0, [some 2, some 3, some 4, some 5, some 6, none, some 7, none, some 8, none]), (.inl 0, 75, []), (.inl 0, 75, []), (.inl 0, 75, []), (.inl 0, 75, []), (.inl 2, 75, []), (.inl 0, 4, []), (.inl 0, 300, []), (.inr 6, 0, [some 1, some 10, none, none]), (.inl 0, 300, []), (.inr 3, 0, [some 1, some 12, some 13, none, none]), (.inr 9, 0, [some 1, none, none]), (.inl 0, 19, []), (.inr 4, 0, [some 15, none, none, some 16, none, none, none, none, none]), (.inl 1, 5247, []), (.inl 0, 258, []), (.inr 1, 0, [some 14]), (.inr 2, 0, [some 19, none, none, none, none]), (.inr 0, 0, [none, some 20, some 21, some 22, some 23]), (.inl 0, 4, []), (.inl 0, 4, []), (.inl 0, 4, []), (.inl 4, 4, [some 24, some 25, some 26, some 27]), (.inl 0, 40, []), (.inl 0, 40, []), (.inl 0, 40, []), (.inl 0, 40, []), (.inr 7, 0, [none, none, none, none, none, none, none, none, none])]
def q_36 : zS := [(.inr 10, 0, [some 9, some 11, some 14, some 17, none, none]), (.inr 8, 0, [some 2, some 3, some 4, some 5, some 6, none, some 7, none, some 8, none]), (.inl 0, 75, []), (.inl 0, 75, []), (.inl 0, 75, []), (.inl 0, 75, []), (.inl 2, 75, []), (.inl 0, 4, []), (.inl 0, 300, []), (.inr 6, 0, [some 1, some 10, none, none]), (.inl 0, 300, []), (.inr 3, 0, [some 1, some 12, some 13, none, none]), (.inr 9, 0, [some 1, none, none]), (.inl 0, 19, []), (.inr 4, 0, [some 15, none, none, some 16, none, none, none, none, none]), (.inl 1, 5247, []), (.inl 0, 258, []), (.inr 1, 0, [some 14]), (.inr 2, 0, [some 19, none, none, none, none]), (.inr 0, 0, [none, some 20, some 21, some 22, some 23]), (.inl 0, 4, []), (.inl 0, 4, []), (.inl 0, 4, []), (.inl 4, 4, [some 24, some 25, some 26, some 27]), (.inl 0, 40, []), (.inl 0, 40, []), (.inl 0, 40, []), (.inl 0, 40, []), (.inr 7, 0, [some 29, none, none, none, none, none, none, none, none]), (.inl 0, 20, [])]
def q_37 : zS := [(.inr 10, 0, [some 9, some 11, some 14, some 17, none, none]), (.inr 8, 0, [some 2, some 3, some 4, some 5, some 6, none, some 7, none, some 8, none]), (.inl 0, 75, []), (.inl 0, 75, []), (.inl 0, 75, []), (.inl 0, 75, []), (.inl 2, 75, []), (.inl 0, 4, []), (.inl 0, 300, []), (.inr 6, 0, [some 1, some 10, none, none]), (.inl 0, 300, []), (.inr 3, 0, [some 1, some 12, some 13, none, none]), (.inr 9, 0, [some 1, none, none]), (.inl 0, 19, []), (.inr 4, 0, [some 15, none, none, some 16, none, none, none, none, none]), (.inl 1, 5247, []), (.inl 0, 258, []), (.inr 1, 0, [some 14]), (.inr 2, 0, [some 19, none, none, none, none]), (.inr 0, 0, [none, some 20, some 21, some 22, some 23]), (.inl 0, 4, []), (.inl 0, 4, []), (.inl 0, 4, []), (.inl 4, 4, [some 24, some 25, some 26, some 27]), (.inl 0, 40, []), (.inl 0, 40, []), (.inl 0, 40, []), (.inl 0, 40, []), (.inr 7, 0, [some 29, some 30, none, none, none, none, none, none, none]), (.inl 0, 20, []), (.inl 0, 20, [])]
def q_38 : zS := [(.inr 10, 0, [some 9, some 11, some 14, some 17, none, none]), (.inr 8, 0, [some 2, some 3, some 4, some 5, some 6, none, some 7, none, some 8, none]), (.inl 0, 75, []), (.inl 0, 75, []), (.inl 0, 75, []), (.inl 0, 75, []), (.inl 2, 75, []), (.inl 0, 4, []), (.inl 0, 300, []), (.inr 6, 0, [some 1, some 10, none, none]), (.inl 0, 300, []), (.inr 3, 0, [some 1, some 12, some 13, none, none]), (.inr 9, 0, [some 1, none, none]), (.inl 0, 19, []), (.inr 4, 0, [some 15, none, none, some 16, none, none, none, none, none]), (.inl 1, 5247, []), (.inl 0, 258, []), (.inr 1, 0, [some 14]), (.inr 2, 0, [some 19, none, none, none, none]), (.inr 0, 0, [none, some 20, some 21, some 22, some 23]), (.inl 0, 4, []), (.inl 0, 4, []), (.inl 0, 4, []), (.inl 4, 4, [some 24, some 25, some 26, some 27]), (.inl 0, 40, []), (.inl 0, 40, []), (.inl 0, 40, []), (.inl 0, 40, []), (.inr 7, 0, [some 29, some 30, some 31, none, none, none, none, none, none]), (.inl 0, 20, []), (.inl 0, 20, []), (.inl 0, 20, [])]
def q_39 : zS := [(.inr 10, 0, [some 9, some 11, some 14, some 17, none, none]), (.inr 8, 0, [some 2, some 3, some 4, some 5, some 6, none, some 7, none, some 8, none]), (.inl 0, 75, []), (.inl 0, 75, []), (.inl 0, 75, []), (.inl 0, 75, []), (.inl 2, 75, []), (.inl 0, 4, []), (.inl 0, 300, []), (.inr 6, 0, [some 1, some 10, none, none]), (.inl 0, 300, []), (.inr 3, 0, [some 1, some 12, some 13, none, none]), (.inr 9, 0, [some 1, none, none]), (.inl 0, 19, []), (.inr 4, 0, [some 15, none, none, some 16, none, none, none, none, none]), (.inl 1, 5247, []), (.inl 0, 258, []), (.inr 1, 0, [some 14]), (.inr 2, 0, [some 19, none, none, none, none]), (.inr 0, 0, [none, some 20, some 21, some 22, some 23]), (.inl 0, 4, []), (.inl 0, 4, []), (.inl 0, 4, []), (.inl 4, 4, [some 24, some 25, some 26, some 27]), (.inl 0, 40, []), (.inl 0, 40, []), (.inl 0, 40, []), (.inl 0, 40, []), (.inr 7, 0, [some 29, some 30, some 31, some 32, none, none, none, none, none]), (.inl 0, 20, []), (.inl 0, 20, []), (.inl 0, 20, []), (.inl 0, 20, [])]
def q_40 : zS := [(.inr 10, 0, [some 9, some 11, some 14, some 17, none, none]), (.inr 8, 0, [some 2, some 3, some 4, some 5, some 6, none, some 7, none, some 8, none]), (.inl 0, 75, []), (.inl 0, 75, []), (.inl 0, 75, []), (.inl 0, 75, []), (.inl 2, 75, []), (.inl 0, 4, []), (.inl 0, 300, []), (.inr 6, 0, [some 1, some 10, none, none]), (.inl 0, 300, []), (.inr 3, 0, [some 1, some 12, some 13, none, none]), (.inr 9, 0, [some 1, none, none]), (.inl 0, 19, []), (.inr 4, 0, [some 15, none, none, some 16, none, none, none, none, none]), (.inl 1, 5247, []), (.inl 0, 258, []), (.inr 1, 0, [some 14]), (.inr 2, 0, [some 19, none, none, none, none]), (.inr 0, 0, [none, some 20, some 21, some 22, some 23]), (.inl 0, 4, []), (.inl 0, 4, []), (.inl 0, 4, []), (.inl 4, 4, [some 24, some 25, some 26, some 27]), (.inl 0, 40, []), (.inl 0, 40, []), (.inl 0, 40, []), (.inl 0, 40, []), (.inr 7, 0, [some 29, some 30, some 31, some 32, some 33, none, none, none, none]), (.inl 0, 20, []), (.inl 0, 20, []), (.inl 0, 20, []), (.inl 0, 20, []), (.inl 0, 20, [])]
def q_41 : zS := [(.inr 10, 0, [some 9, some 11, some 14, some 17, none, none]), (.inr 8, 0, [some 2, some 3, some 4, some 5, some 6, none, some 7, none, some 8, none]), (.inl 0, 75, []), (.inl 0, 75, []), (.inl 0, 75, []), (.inl 0, 75, []), (.inl 2, 75, []), (.inl 0, 4, []), (.inl 0, 300, []), (.inr 6, 0, [some 1, some 10, none, none]), (.inl 0, 300, []), (.inr 3, 0, [some 1, some 12, some 13, none, none]), (.inr 9, 0, [some 1, none, none]), (.inl 0, 19, []), (.inr 4, 0, [some 15, none, none, some 16, none, none, none, none, none]), (.inl 1, 5247, []), (.inl 0, 258, []), (.inr 1, 0, [some 14]), (.inr 2, 0, [some 19, none, none, none, none]), (.inr 0, 0, [none, some 20, some 21, some 22, some 23]), (.inl 0, 4, []), (.inl 0, 4, []), (.inl 0, 4, []), (.inl 4, 4, [some 24, some 25, some 26, some 27]), (.inl 0, 40, []), (.inl 0, 40, []), (.inl 0, 40, []), (.inl 0, 40, []), (.inr 7, 0, [some 29, some 30, some 31, some 32, some 33, some 34, none, none, none]), (.inl 0, 20, []), (.inl 0, 20, []), (.inl 0, 20, []), (.inl 0, 20, []), (.inl 0, 20, []), (.inl 0, 20, [])]
def q_42 : zS := [(.inr 10, 0, [some 9, some 11, some 14, some 17, none, none]), (.inr 8, 0, [some 2, some 3, some 4, some 5, some 6, none, some 7, none, some 8, none]), (.inl 0, 75, []), (.inl 0, 75, []), (.inl 0, 75, []), (.inl 0, 75, []), (.inl 2, 75, []), (.inl 0, 4, []), (.inl 0, 300, []), (.inr 6, 0, [some 1, some 10, none, none]), (.inl 0, 300, []), (.inr 3, 0, [some 1, some 12, some 13, none, none]), (.inr 9, 0, [some 1, none, none]), (.inl 0, 19, []), (.inr 4, 0, [some 15, none, none, some 16, none, none, none, none, none]), (.inl 1, 5247, []), (.inl 0, 258, []), (.inr 1, 0, [some 14]), (.inr 2, 0, [some 19, none, none, none, none]), (.inr 0, 0, [none, some 20, some 21, some 22, some 23]), (.inl 0, 4, []), (.inl 0, 4, []), (.inl 0, 4, []), (.inl 4, 4, [some 24, some 25, some 26, some 27]), (.inl 0, 40, []), (.inl 0, 40, []), (.inl 0, 40, []), (.inl 0, 40, []), (.inr 7, 0, [some 29, some 30, some 31, some 32, some 33, some 34, none, some 35, none]), (.inl 0, 20, []), (.inl 0, 20, []), (.inl 0, 20, []), (.inl 0, 20, []), (.inl 0, 20, []), (.inl 0, 20, []), (.inl 0, 20, [])]
def q_43 : zS := [(.inr 10, 0, [some 9, some 11, some 14, some 17, none, none]), (.inr 8, 0, [some 2, some 3, some 4, some 5, some 6, none, some 7, none, some 8, none]), (.inl 0, 75, []), (.inl 0, 75, []), (.inl 0, 75, []), (.inl 0, 75, []), (.inl 2, 75, []), (.inl 0, 4, []), (.inl 0, 300, []), (.inr 6, 0, [some 1, some 10, none, none]), (.inl 0, 300, []), (.inr 3, 0, [some 1, some 12, some 13, none, none]), (.inr 9, 0, [some 1, none, none]), (.inl 0, 19, []), (.inr 4, 0, [some 15, none, none, some 16, none, none, none, none, none]), (.inl 1, 5247, []), (.inl 0, 258, []), (.inr 1, 0, [some 14]), (.inr 2, 0, [some 19, some 28, none, none, none]), (.inr 0, 0, [none, some 20, some 21, some 22, some 23]), (.inl 0, 4, []), (.inl 0, 4, []), (.inl 0, 4, []), (.inl 4, 4, [some 24, some 25, some 26, some 27]), (.inl 0, 40, []), (.inl 0, 40, []), (.inl 0, 40, []), (.inl 0, 40, []), (.inr 7, 0, [some 29, some 30, some 31, some 32, some 33, some 34, none, some 35, none]), (.inl 0, 20, []), (.inl 0, 20, []), (.inl 0, 20, []), (.inl 0, 20, []), (.inl 0, 20, []), (.inl 0, 20, []), (.inl 0, 20, [])]
def q_44 : zS := [(.inr 10, 0, [some 9, some 11, some 14, some 17, none, none]), (.inr 8, 0, [some 2, some 3, some 4, some 5, some 6, none, some 7, none, some 8, none]), (.inl 0, 75, []), (.inl 0, 75, []), (.inl 0, 75, []), (.inl 0, 75, []), (.inl 2, 75, []), (.inl 0, 4, []), (.inl 0, 300, []), (.inr 6, 0, [some 1, some 10, none, none]), (.inl 0, 300, []), (.inr 3, 0, [some 1, some 12, some 13, none, none]), (.inr 9, 0, [some 1, none, none]), (.inl 0, 19, []), (.inr 4, 0, [some 15, none, none, some 16, none, none, none, none, none]), (.inl 1, 5247, []), (.inl 0, 258, []), (.inr 1, 0, [some 14]), (.inr 2, 0, [some 19, some 28, none, none, none]), (.inr 0, 0, [none, some 20, some 21, some 22, some 23]), (.inl 0, 4, []), (.inl 0, 4, []), (.inl 0, 4, []), (.inl 4, 4, [some 24, some 25, some 26, some 27]), (.inl 0, 40, []), (.inl 0, 40, []), (.inl 0, 40, []), (.inl 0, 40, []), (.inr 7, 0, [some 29, some 30, some 31, some 32, some 33, some 34, none, some 35, none]), (.inl 0, 20, []), (.inl 0, 20, []), (.inl 0, 20, []), (.inl 0, 20, []), (.inl 0, 20, []), (.inl 0, 20, []), (.inl 0, 20, []), (.inr 5, 0, [none, none, none, none, none])]
def q_45 : zS := [(.inr 10, 0, [some 9, some 11, some 14, some 17, none, none]), (.inr 8, 0, [some 2, some 3, some 4, some 5, some 6, none, some 7, none, some 8, none]), (.inl 0, 75, []), (.inl 0, 75, []), (.inl 0, 75, []), (.inl 0, 75, []), (.inl 2, 75, []), (.inl 0, 4, []), (.inl 0, 300, []), (.inr 6, 0, [some 1, some 10, none, none]), (.inl 0, 300, []), (.inr 3, 0, [some 1, some 12, some 13, none, none]), (.inr 9, 0, [some 1, none, none]), (.inl 0, 19, []), (.inr 4, 0, [some 15, none, none, some 16, none, none, none, none, none]), (.inl 1, 5247, []), (.inl 0, 258, []), (.inr 1, 0, [some 14]), (.inr 2, 0, [some 19, some 28, none, none, none]), (.inr 0, 0, [none, some 20, some 21, some 22, some 23]), (.inl 0, 4, []), (.inl 0, 4, []), (.inl 0, 4, []), (.inl 4, 4, [some 24, some 25, some 26, some 27]), (.inl 0, 40, []), (.inl 0, 40, []), (.inl 0, 40, []), (.inl 0, 40, []), (.inr 7, 0, [some 29, some 30, some 31, some 32, some 33, some 34, none, some 35, none]), (.inl 0, 20, []), (.inl 0, 20, []), (.inl 0, 20, []), (.inl 0, 20, []), (.inl 0, 20, []), (.inl 0, 20, []), (.inl 0, 20, []), (.inr 5, 0, [some 37, none, none, none, none]), (.inl 0, 40, [])]
def q_46 : zS := [(.inr 10, 0, [some 9, some 11, some 14, some 17, none, none]), (.inr 8, 0, [some 2, some 3, some 4, some 5, some 6, none, some 7, none, some 8, none]), (.inl 0, 75, []), (.inl 0, 75, []), (.inl 0, 75, []), (.inl 0, 75, []), (.inl 2, 75, []), (.inl 0, 4, []), (.inl 0, 300, []), (.inr 6, 0, [some 1, some 10, none, none]), (.inl 0, 300, []), (.inr 3, 0, [some 1, some 12, some 13, none, none]), (.inr 9, 0, [some 1, none, none]), (.inl 0, 19, []), (.inr 4, 0, [some 15, none, none, some 16, none, none, none, none, none]), (.inl 1, 5247, []), (.inl 0, 258, []), (.inr 1, 0, [some 14]), (.inr 2, 0, [some 19, some 28, none, none, none]), (.inr 0, 0, [none, some 20, some 21, some 22, some 23]), (.inl 0, 4, []), (.inl 0, 4, []), (.inl 0, 4, []), (.inl 4, 4, [some 24, some 25, some 26, some 27]), (.inl 0, 40, []), (.inl 0, 40, []), (.inl 0, 40, []), (.inl 0, 40, []), (.inr 7, 0, [some 29, some 30, some 31, some 32, some 33, some 34, none, some 35, none]), (.inl 0, 20, []), (.inl 0, 20, []), (.inl 0, 20, []), (.inl 0, 20, []), (.inl 0, 20, []), (.inl 0, 20, []), (.inl 0, 20, []), (.inr 5, 0, [some 37, some 38, none, none, none]), (.inl 0, 40, []), (.inl 0, 40, [])]
def q_47 : zS := [(.inr 10, 0, [some 9, some 11, some 14, some 17, none, none]), (.inr 8, 0, [some 2, some 3, some 4, some 5, some 6, none, some 7, none, some 8, none]), (.inl 0, 75, []), (.inl 0, 75, []), (.inl 0, 75, []), (.inl 0, 75, []), (.inl 2, 75, []), (.inl 0, 4, []), (.inl 0, 300, []), (.inr 6, 0, [some 1, some 10, none, none]), (.inl 0, 300, []), (.inr 3, 0, [some 1, some 12, some 13, none, none]), (.inr 9, 0, [some 1, none, none]), (.inl 0, 19, []), (.inr 4, 0, [some 15, none, none, some 16, none, none, none, none, none]), (.inl 1, 5247, []), (.inl 0, 258, []), (.inr 1, 0, [some 14]), (.inr 2, 0, [some 19, some 28, none, none, none]), (.inr 0, 0, [none, some 20, some 21, some 22, some 23]), (.inl 0, 4, []), (.inl 0, 4, []), (.inl 0, 4, []), (.inl 4, 4, [some 24, some 25, some 26, some 27]), (.inl 0, 40, []), (.inl 0, 40, []), (.inl 0, 40, []), (.inl 0, 40, []), (.inr 7, 0, [some 29, some 30, some 31, some 32, some 33, some 34, none, some 35, none]), (.inl 0, 20, []), (.inl 0, 20, []), (.inl 0, 20, []), (.inl 0, 20, []), (.inl 0, 20, []), (.inl 0, 20, []), (.inl 0, 20, []), (.inr 5, 0, [some 37, some 38, some 39, none, none]), (.inl 0, 40, []), (.inl 0, 40, []), (.inl 2, 40, [])]
def q_48 : zS := [(.inr 10, 0, [some 9, some 11, some 14, some 17, none, none]), (.inr 8, 0, [some 2, some 3, some 4, some 5, some 6, none, some 7, none, some 8, none]), (.inl 0, 75, []), (.inl 0, 75, []), (.inl 0, 75, []), (.inl 0, 75, []), (.inl 2, 75, []), (.inl 0, 4, []), (.inl 0, 300, []), (.inr 6, 0, [some 1, some 10, none, none]), (.inl 0, 300, []), (.inr 3, 0, [some 1, some 12, some 13, none, none]), (.inr 9, 0, [some 1, none, none]), (.inl 0, 19, []), (.inr 4, 0, [some 15, none, none, some 16, none, none, none, none, none]), (.inl 1, 5247, []), (.inl 0, 258, []), (.inr 1, 0, [some 14]), (.inr 2, 0, [some 19, some 28, none, none, none]), (.inr 0, 0, [none, some 20, some 21, some 22, some 23]), (.inl 0, 4, []), (.inl 0, 4, []), (.inl 0, 4, []), (.inl 4, 4, [some 24, some 25, some 26, some 27]), (.inl 0, 40, []), (.inl 0, 40, []), (.inl 0, 40, []), (.inl 0, 40, []), (.inr 7, 0, [some 29, some 30, some 31, some 32, some 33, some 34, none, some 35, none]), (.inl 0, 20, []), (.inl 0, 20, []), (.inl 0, 20, []), (.inl 0, 20, []), (.inl 0, 20, []), (.inl 0, 20, []), (.inl 0, 20, []), (.inr 5, 0, [some 37, some 38, some 39, some 40, none]), (.inl 0, 40, []), (.inl 0, 40, []), (.inl 2, 40, []), (.inl 0, 40, [])]
def q_49 : zS := [(.inr 10, 0, [some 9, some 11, some 14, some 17, none, none]), (.inr 8, 0, [some 2, some 3, some 4, some 5, some 6, none, some 7, none, some 8, none]), (.inl 0, 75, []), (.inl 0, 75, []), (.inl 0, 75, []), (.inl 0, 75, []), (.inl 2, 75, []), (.inl 0, 4, []), (.inl 0, 300, []), (.inr 6, 0, [some 1, some 10, none, none]), (.inl 0, 300, []), (.inr 3, 0, [some 1, some 12, some 13, none, none]), (.inr 9, 0, [some 1, none, none]), (.inl 0, 19, []), (.inr 4, 0, [some 15, none, none, some 16, none, none, none, none, none]), (.inl 1, 5247, []), (.inl 0, 258, []), (.inr 1, 0, [some 14]), (.inr 2, 0, [some 19, some 28, some 36, none, none]), (.inr 0, 0, [none, some 20, some 21, some 22, some 23]), (.inl 0, 4, []), (.inl 0, 4, []), (.inl 0, 4, []), (.inl 4, 4, [some 24, some 25, some 26, some 27]), (.inl 0, 40, []), (.inl 0, 40, []), (.inl 0, 40, []), (.inl 0, 40, []), (.inr 7, 0, [some 29, some 30, some 31, some 32, some 33, some 34, none, some 35, none]), (.inl 0, 20, []), (.inl 0, 20, []), (.inl 0, 20, []), (.inl 0, 20, []), (.inl 0, 20, []), (.inl 0, 20, []), (.inl 0, 20, []), (.inr 5, 0, [some 37, some 38, some 39, some 40, none]), (.inl 0, 40, []), (.inl 0, 40, []), (.inl 2, 40, []), (.inl 0, 40, [])]
def q_50 : zS := [(.inr 10, 0, [some 9, some 11, some 14, some 17, none, none]), (.inr 8, 0, [some 2, some 3, some 4, some 5, some 6, none, some 7, none, some 8, none]), (.inl 0, 75, []), (.inl 0, 75, []), (.inl 0, 75, []), (.inl 0, 75, []), (.inl 2, 75, []), (.inl 0, 4, []), (.inl 0, 300, []), (.inr 6, 0, [some 1, some 10, none, none]), (.inl 0, 300, []), (.inr 3, 0, [some 1, some 12, some 13, none, none]), (.inr 9, 0, [some 1, none, none]), (.inl 0, 19, []), (.inr 4, 0, [some 15, none, none, some 16, none, none, none, none, none]), (.inl 1, 5247, []), (.inl 0, 258, []), (.inr 1, 0, [some 14]), (.inr 2, 0, [some 19, some 28, some 36, some 41, none]), (.inr 0, 0, [none, some 20, some 21, some 22, some 23]), (.inl 0, 4, []), (.inl 0, 4, []), (.inl 0, 4, []), (.inl 4, 4, [some 24, some 25, some 26, some 27]), (.inl 0, 40, []), (.inl 0, 40, []), (.inl 0, 40, []), (.inl 0, 40, []), (.inr 7, 0, [some 29, some 30, some 31, some 32, some 33, some 34, none, some 35, none]), (.inl 0, 20, []), (.inl 0, 20, []), (.inl 0, 20, []), (.inl 0, 20, []), (.inl 0, 20, []), (.inl 0, 20, []), (.inl 0, 20, []), (.inr 5, 0, [some 37, some 38, some 39, some 40, none]), (.inl 0, 40, []), (.inl 0, 40, []), (.inl 2, 40, []), (.inl 0, 40, []), (.inl 0, 60, [])]
def q_51 : zS := [(.inr 10, 0, [some 9, some 11, some 14, some 17, some 18, none]), (.inr 8, 0, [some 2, some 3, some 4, some 5, some 6, none, some 7, none, some 8, none]), (.inl 0, 75, []), (.inl 0, 75, []), (.inl 0, 75, []), (.inl 0, 75, []), (.inl 2, 75, []), (.inl 0, 4, []), (.inl 0, 300, []), (.inr 6, 0, [some 1, some 10, none, none]), (.inl 0, 300, []), (.inr 3, 0, [some 1, some 12, some 13, none, none]), (.inr 9, 0, [some 1, none, none]), (.inl 0, 19, []), (.inr 4, 0, [some 15, none, none, some 16, none, none, none, none, none]), (.inl 1, 5247, []), (.inl 0, 258, []), (.inr 1, 0, [some 14]), (.inr 2, 0, [some 19, some 28, some 36, some 41, none]), (.inr 0, 0, [none, some 20, some 21, some 22, some 23]), (.inl 0, 4, []), (.inl 0, 4, []), (.inl 0, 4, []), (.inl 4, 4, [some 24, some 25, some 26, some 27]), (.inl 0, 40, []), (.inl 0, 40, []), (.inl 0, 40, []), (.inl 0, 40, []), (.inr 7, 0, [some 29, some 30, some 31, some 32, some 33, some 34, none, some 35, none]), (.inl 0, 20, []), (.inl 0, 20, []), (.inl 0, 20, []), (.inl 0, 20, []), (.inl 0, 20, []), (.inl 0, 20, []), (.inl 0, 20, []), (.inr 5, 0, [some 37, some 38, some 39, some 40, none]), (.inl 0, 40, []), (.inl 0, 40, []), (.inl 2, 40, []), (.inl 0, 40, []), (.inl 0, 60, [])]
theorem k_107 {m : zM} {Q : zQ} (hq : Q none (q_8, Zr m 0 9)) : ZM 107 7 679 [.ref 1] (q_1, Zr m 0 2) Q := by
  unfold ZM
  show ZW 107 (7, 679, 0, 0) 0 [(0, .ref 1)] [] (q_1, Zr m 0 2) Q
  refine zgo 2 [] ?_
  show ZW 107 (7, 679, 0, 0) 4 [(0, .ref 1)] [] (q_1, Zr m 0 2) Q
  refine zgo 4 [] ?_
  show ZW 107 (7, 679, 1, 75) 12 [(0, .ref 1)] [] (q_2, zz (Zr m 0 2) 2) Q
  rw [show zz (Zr m 0 2) 2 = Zr m 0 3 from by (funext b j; simp only [zz_at, zup_at, Zr, YY]; (repeat' split) <;> first | rfl | omega)]
  refine zgo 4 [] ?_
  show ZW 107 (7, 679, 2, 150) 20 [(0, .ref 1)] [] (q_3, zz (Zr m 0 3) 3) Q
  rw [show zz (Zr m 0 3) 3 = Zr m 0 4 from by (funext b j; simp only [zz_at, zup_at, Zr, YY]; (repeat' split) <;> first | rfl | omega)]
  refine zgo 4 [] ?_
  show ZW 107 (7, 679, 3, 225) 28 [(0, .ref 1)] [] (q_4, zz (Zr m 0 4) 4) Q
  rw [show zz (Zr m 0 4) 4 = Zr m 0 5 from by (funext b j; simp only [zz_at, zup_at, Zr, YY]; (repeat' split) <;> first | rfl | omega)]
  refine zgo 4 [] ?_
  show ZW 107 (7, 679, 4, 300) 36 [(0, .ref 1)] [] (q_5, zz (Zr m 0 5) 5) Q
  rw [show zz (Zr m 0 5) 5 = Zr m 0 6 from by (funext b j; simp only [zz_at, zup_at, Zr, YY]; (repeat' split) <;> first | rfl | omega)]
  refine zgo 4 [] ?_
  show ZW 107 (7, 679, 5, 375) 44 [(0, .ref 1)] [] (q_6, zz (Zr m 0 6) 6) Q
  rw [show zz (Zr m 0 6) 6 = Zr m 0 7 from by (funext b j; simp only [zz_at, zup_at, Zr, YY]; (repeat' split) <;> first | rfl | omega)]
  refine zgo 3 [] ?_
  show ZW 107 (7, 679, 5, 375) 49 [(0, .ref 1)] [] (q_6, zup (Zr m 0 7) 1 5 (Int32.ofInt 0)) Q
  rw [show zup (Zr m 0 7) 1 5 (Int32.ofInt 0) = Zr m 0 7 from by (funext b j; simp only [zz_at, zup_at, Zr, YY]; (repeat' split) <;> first | rfl | omega)]
  refine zgo 4 [] ?_
  show ZW 107 (7, 679, 6, 379) 56 [(0, .ref 1)] [] (q_7, zz (Zr m 0 7) 7) Q
  rw [show zz (Zr m 0 7) 7 = Zr m 0 8 from by (funext b j; simp only [zz_at, zup_at, Zr, YY]; (repeat' split) <;> first | rfl | omega)]
  refine zgo 3 [] ?_
  show ZW 107 (7, 679, 6, 379) 61 [(0, .ref 1)] [] (q_7, zup (Zr m 0 8) 1 7 (Int32.ofInt 0)) Q
  rw [show zup (Zr m 0 8) 1 7 (Int32.ofInt 0) = Zr m 0 8 from by (funext b j; simp only [zz_at, zup_at, Zr, YY]; (repeat' split) <;> first | rfl | omega)]
  refine zgo 4 [] ?_
  show ZW 107 (7, 679, 7, 679) 70 [(0, .ref 1)] [] (q_8, zz (Zr m 0 8) 8) Q
  rw [show zz (Zr m 0 8) 8 = Zr m 0 9 from by (funext b j; simp only [zz_at, zup_at, Zr, YY]; (repeat' split) <;> first | rfl | omega)]
  refine zgo 3 [] ?_
  show ZW 107 (7, 679, 7, 679) 75 [(0, .ref 1)] [] (q_8, zup (Zr m 0 9) 1 9 (Int32.ofInt 0)) Q
  rw [show zup (Zr m 0 9) 1 9 (Int32.ofInt 0) = Zr m 0 9 from by (funext b j; simp only [zz_at, zup_at, Zr, YY]; (repeat' split) <;> first | rfl | omega)]
  exact zgo 1 [] hq
theorem k_74 {m : zM} {Q : zQ} (hq : Q none (q_11, Zr m 0 11)) : ZM 74 1 300 [.ref 9, .ref 1] (q_9, Zr m 0 10) Q := by
  unfold ZM
  show ZW 74 (1, 300, 0, 0) 0 [(0, .ref 9), (1, .ref 1)] [] (q_9, Zr m 0 10) Q
  refine zgo 2 [] ?_
  show ZW 74 (1, 300, 0, 0) 4 [(0, .ref 9), (1, .ref 1)] [] (q_9, Zr m 0 10) Q
  refine zgo 3 [] ?_
  show ZW 74 (1, 300, 0, 0) 9 [(0, .ref 9), (1, .ref 1)] [] (q_10, Zr m 0 10) Q
  refine zgo 4 [] ?_
  show ZW 74 (1, 300, 1, 300) 18 [(0, .ref 9), (1, .ref 1)] [] (q_11, zz (Zr m 0 10) 10) Q
  rw [show zz (Zr m 0 10) 10 = Zr m 0 11 from by (funext b j; simp only [zz_at, zup_at, Zr, YY]; (repeat' split) <;> first | rfl | omega)]
  refine zgo 3 [] ?_
  show ZW 74 (1, 300, 1, 300) 23 [(0, .ref 9), (1, .ref 1)] [] (q_11, zup (Zr m 0 11) 9 2 (Int32.ofInt 0)) Q
  rw [show zup (Zr m 0 11) 9 2 (Int32.ofInt 0) = Zr m 0 11 from by (funext b j; simp only [zz_at, zup_at, Zr, YY]; (repeat' split) <;> first | rfl | omega)]
  refine zgo 3 [] ?_
  show ZW 74 (1, 300, 1, 300) 28 [(0, .ref 9), (1, .ref 1)] [] (q_11, zup (Zr m 0 11) 9 3 (Int32.ofInt 0)) Q
  rw [show zup (Zr m 0 11) 9 3 (Int32.ofInt 0) = Zr m 0 11 from by (funext b j; simp only [zz_at, zup_at, Zr, YY]; (repeat' split) <;> first | rfl | omega)]
  exact zgo 1 [] hq
theorem k_123 {m : zM} {Q : zQ} (hq : Q none (q_16, Zr m 0 13)) : ZM 123 0 0 [.ref 12, .ref 1] (q_15, Zr m 0 13) Q := by
  unfold ZM
  show ZW 123 (0, 0, 0, 0) 0 [(0, .ref 12), (1, .ref 1)] [] (q_15, Zr m 0 13) Q
  refine zgo 2 [] ?_
  show ZW 123 (0, 0, 0, 0) 4 [(0, .ref 12), (1, .ref 1)] [] (q_15, Zr m 0 13) Q
  refine zgo 3 [] ?_
  show ZW 123 (0, 0, 0, 0) 9 [(0, .ref 12), (1, .ref 1)] [] (q_16, Zr m 0 13) Q
  refine zgo 3 [] ?_
  show ZW 123 (0, 0, 0, 0) 14 [(0, .ref 12), (1, .ref 1)] [] (q_16, zup (Zr m 0 13) 12 1 (Int32.ofInt 0)) Q
  rw [show zup (Zr m 0 13) 12 1 (Int32.ofInt 0) = Zr m 0 13 from by (funext b j; simp only [zz_at, zup_at, Zr, YY]; (repeat' split) <;> first | rfl | omega)]
  refine zgo 3 [] ?_
  show ZW 123 (0, 0, 0, 0) 19 [(0, .ref 12), (1, .ref 1)] [] (q_16, zup (Zr m 0 13) 12 2 (Int32.ofInt 0)) Q
  rw [show zup (Zr m 0 13) 12 2 (Int32.ofInt 0) = Zr m 0 13 from by (funext b j; simp only [zz_at, zup_at, Zr, YY]; (repeat' split) <;> first | rfl | omega)]
  exact zgo 1 [] hq
theorem k_31 {m : zM} {Q : zQ} (hq : Q none (q_18, Zr m 0 14)) : ZM 31 2 22 [.ref 11, .ref 1] (q_13, Zr m 0 12) Q := by
  unfold ZM
  show ZW 31 (2, 22, 0, 0) 0 [(0, .ref 11), (1, .ref 1)] [] (q_13, Zr m 0 12) Q
  refine zgo 2 [] ?_
  show ZW 31 (2, 22, 0, 0) 4 [(0, .ref 11), (1, .ref 1)] [] (q_13, Zr m 0 12) Q
  refine zgo 3 [] ?_
  show ZW 31 (2, 22, 0, 0) 9 [(0, .ref 11), (1, .ref 1)] [] (q_14, Zr m 0 12) Q
  refine zgo 30 [] ?_
  show ZM 123 0 0 [.ref 12, .ref 1] (q_15, zz (Zr m 0 12) 12) _
  rw [show zz (Zr m 0 12) 12 = Zr m 0 13 from by (funext b j; simp only [zz_at, zup_at, Zr, YY]; (repeat' split) <;> first | rfl | omega)]
  refine k_123 ?_
  show ZW 31 (2, 22, 1, 3) 18 [(0, .ref 11), (1, .ref 1)] [.ref 12, .ref 11] (q_16, Zr m 0 13) Q
  refine zgo 1 [] ?_
  show ZW 31 (2, 22, 1, 3) 21 [(0, .ref 11), (1, .ref 1)] [] (q_17, Zr m 0 13) Q
  refine zgo 4 [] ?_
  show ZW 31 (2, 22, 2, 22) 29 [(0, .ref 11), (1, .ref 1)] [] (q_18, zz (Zr m 0 13) 13) Q
  rw [show zz (Zr m 0 13) 13 = Zr m 0 14 from by (funext b j; simp only [zz_at, zup_at, Zr, YY]; (repeat' split) <;> first | rfl | omega)]
  refine zgo 3 [] ?_
  show ZW 31 (2, 22, 2, 22) 34 [(0, .ref 11), (1, .ref 1)] [] (q_18, zup (Zr m 0 14) 11 3 (Int32.ofInt 0)) Q
  rw [show zup (Zr m 0 14) 11 3 (Int32.ofInt 0) = Zr m 0 14 from by (funext b j; simp only [zz_at, zup_at, Zr, YY]; (repeat' split) <;> first | rfl | omega)]
  refine zgo 3 [] ?_
  show ZW 31 (2, 22, 2, 22) 39 [(0, .ref 11), (1, .ref 1)] [] (q_18, zup (Zr m 0 14) 11 4 (Int32.ofInt 0)) Q
  rw [show zup (Zr m 0 14) 11 4 (Int32.ofInt 0) = Zr m 0 14 from by (funext b j; simp only [zz_at, zup_at, Zr, YY]; (repeat' split) <;> first | rfl | omega)]
  exact zgo 1 [] hq
theorem k_52 {m : zM} {Q : zQ} (hq : Q none (q_22, Zr m 0 17)) : ZM 52 2 5505 [.ref 14] (q_20, Zr m 0 15) Q := by
  unfold ZM
  show ZW 52 (2, 5505, 0, 0) 0 [(0, .ref 14)] [] (q_20, Zr m 0 15) Q
  refine zgo 2 [] ?_
  show ZW 52 (2, 5505, 0, 0) 4 [(0, .ref 14)] [] (q_20, Zr m 0 15) Q
  refine zgo 4 [] ?_
  show ZW 52 (2, 5505, 1, 5247) 13 [(0, .ref 14)] [] (q_21, zz (Zr m 0 15) 15) Q
  rw [show zz (Zr m 0 15) 15 = Zr m 0 16 from by (funext b j; simp only [zz_at, zup_at, Zr, YY]; (repeat' split) <;> first | rfl | omega)]
  refine zgo 3 [] ?_
  show ZW 52 (2, 5505, 1, 5247) 18 [(0, .ref 14)] [] (q_21, zup (Zr m 0 16) 14 1 (Int32.ofInt 0)) Q
  rw [show zup (Zr m 0 16) 14 1 (Int32.ofInt 0) = Zr m 0 16 from by (funext b j; simp only [zz_at, zup_at, Zr, YY]; (repeat' split) <;> first | rfl | omega)]
  refine zgo 3 [] ?_
  show ZW 52 (2, 5505, 1, 5247) 23 [(0, .ref 14)] [] (q_21, zup (Zr m 0 16) 14 2 (Int32.ofInt 0)) Q
  rw [show zup (Zr m 0 16) 14 2 (Int32.ofInt 0) = Zr m 0 16 from by (funext b j; simp only [zz_at, zup_at, Zr, YY]; (repeat' split) <;> first | rfl | omega)]
  refine zgo 4 [] ?_
  show ZW 52 (2, 5505, 2, 5505) 32 [(0, .ref 14)] [] (q_22, zz (Zr m 0 16) 16) Q
  rw [show zz (Zr m 0 16) 16 = Zr m 0 17 from by (funext b j; simp only [zz_at, zup_at, Zr, YY]; (repeat' split) <;> first | rfl | omega)]
  refine zgo 3 [] ?_
  show ZW 52 (2, 5505, 2, 5505) 37 [(0, .ref 14)] [] (q_22, zup (Zr m 0 17) 14 4 (Int32.ofInt 0)) Q
  rw [show zup (Zr m 0 17) 14 4 (Int32.ofInt 0) = Zr m 0 17 from by (funext b j; simp only [zz_at, zup_at, Zr, YY]; (repeat' split) <;> first | rfl | omega)]
  refine zgo 3 [] ?_
  refine ⟨Or.inl rfl, ?_⟩
  show ZW 52 (2, 5505, 2, 5505) 42 [(0, .ref 14)] [] (q_22, zup (Zr m 0 17) 14 5 (Int32.ofInt 0)) Q
  rw [show zup (Zr m 0 17) 14 5 (Int32.ofInt 0) = Zr m 0 17 from by (funext b j; simp only [zz_at, zup_at, Zr, YY]; (repeat' split) <;> first | rfl | omega)]
  refine zgo 3 [] ?_
  show ZW 52 (2, 5505, 2, 5505) 47 [(0, .ref 14)] [] (q_22, zup (Zr m 0 17) 14 6 (Int32.ofInt 0)) Q
  rw [show zup (Zr m 0 17) 14 6 (Int32.ofInt 0) = Zr m 0 17 from by (funext b j; simp only [zz_at, zup_at, Zr, YY]; (repeat' split) <;> first | rfl | omega)]
  refine zgo 3 [] ?_
  show ZW 52 (2, 5505, 2, 5505) 52 [(0, .ref 14)] [] (q_22, zup (Zr m 0 17) 14 7 (Int32.ofInt 0)) Q
  rw [show zup (Zr m 0 17) 14 7 (Int32.ofInt 0) = Zr m 0 17 from by (funext b j; simp only [zz_at, zup_at, Zr, YY]; (repeat' split) <;> first | rfl | omega)]
  refine zgo 3 [] ?_
  refine ⟨Or.inl rfl, ?_⟩
  show ZW 52 (2, 5505, 2, 5505) 57 [(0, .ref 14)] [] (q_22, zup (Zr m 0 17) 14 8 (Int32.ofInt 0)) Q
  rw [show zup (Zr m 0 17) 14 8 (Int32.ofInt 0) = Zr m 0 17 from by (funext b j; simp only [zz_at, zup_at, Zr, YY]; (repeat' split) <;> first | rfl | omega)]
  exact zgo 1 [] hq
theorem k_9 {m : zM} {Q : zQ} (hq : Q none (q_25, Zr m 0 18)) : ZM 9 0 0 [.ref 17, .ref 14] (q_24, Zr m 0 18) Q := by
  unfold ZM
  show ZW 9 (0, 0, 0, 0) 0 [(0, .ref 17), (1, .ref 14)] [] (q_24, Zr m 0 18) Q
  refine zgo 2 [] ?_
  show ZW 9 (0, 0, 0, 0) 4 [(0, .ref 17), (1, .ref 14)] [] (q_24, Zr m 0 18) Q
  refine zgo 3 [] ?_
  show ZW 9 (0, 0, 0, 0) 9 [(0, .ref 17), (1, .ref 14)] [] (q_25, Zr m 0 18) Q
  exact zgo 1 [] hq
theorem k_0_loop {m : zM} {Q : zQ} {op li : Int32} (hq : Q none (q_33, YY op li m 0 28)) : ZW 0 (8, 176, 8, 176) 41 [(0, .ref 19), (1, .int op), (2, .int li)] [] (q_33, zup (Zr m 0 28) 19 0 li) Q := by
  refine zgo 2 [] ?_
  show ZW 0 (8, 176, 8, 176) 43 [(3, .int (Int32.ofInt 0)), (0, .ref 19), (1, .int op), (2, .int li)] [] (q_33, zup (Zr m 0 28) 19 0 li) Q
  refine zgo 20 [] ?_
  refine ⟨fun hc => absurd (show Int32.ofInt 4 ≤ Int32.ofInt 0 from hc) (by decide), fun _ => ⟨by show ¬ (Int32.ofInt 0 < 0 ∨ 4 ≤ (Int32.ofInt 0).toNatClampNeg); decide, ?_⟩⟩
  show ZW 0 (8, 176, 8, 176) 43 [(3, .int (Int32.ofInt 1)), (0, .ref 19), (1, .int op), (2, .int li)] [] (q_33, zup (zup (Zr m 0 28) 19 0 li) 20 0 op) Q
  refine zgo 20 [] ?_
  refine ⟨fun hc => absurd (show Int32.ofInt 4 ≤ Int32.ofInt 1 from hc) (by decide), fun _ => ⟨by show ¬ (Int32.ofInt 1 < 0 ∨ 4 ≤ (Int32.ofInt 1).toNatClampNeg); decide, ?_⟩⟩
  show ZW 0 (8, 176, 8, 176) 43 [(3, .int (Int32.ofInt 2)), (0, .ref 19), (1, .int op), (2, .int li)] [] (q_33, zup (zup (zup (Zr m 0 28) 19 0 li) 20 0 op) 20 1 op) Q
  refine zgo 20 [] ?_
  refine ⟨fun hc => absurd (show Int32.ofInt 4 ≤ Int32.ofInt 2 from hc) (by decide), fun _ => ⟨by show ¬ (Int32.ofInt 2 < 0 ∨ 4 ≤ (Int32.ofInt 2).toNatClampNeg); decide, ?_⟩⟩
  show ZW 0 (8, 176, 8, 176) 43 [(3, .int (Int32.ofInt 3)), (0, .ref 19), (1, .int op), (2, .int li)] [] (q_33, zup (zup (zup (zup (Zr m 0 28) 19 0 li) 20 0 op) 20 1 op) 20 2 op) Q
  refine zgo 20 [] ?_
  refine ⟨fun hc => absurd (show Int32.ofInt 4 ≤ Int32.ofInt 3 from hc) (by decide), fun _ => ⟨by show ¬ (Int32.ofInt 3 < 0 ∨ 4 ≤ (Int32.ofInt 3).toNatClampNeg); decide, ?_⟩⟩
  show ZW 0 (8, 176, 8, 176) 43 [(3, .int (Int32.ofInt 4)), (0, .ref 19), (1, .int op), (2, .int li)] [] (q_33, zup (zup (zup (zup (zup (Zr m 0 28) 19 0 li) 20 0 op) 20 1 op) 20 2 op) 20 3 op) Q
  rw [show zup (zup (zup (zup (zup (Zr m 0 28) 19 0 li) 20 0 op) 20 1 op) 20 2 op) 20 3 op = YY op li m 0 28 from by (funext b j; simp only [zz_at, zup_at, Zr, YY]; (repeat' split) <;> first | rfl | omega)]
  refine zgo 20 [] ?_
  exact ⟨fun _ => hq, fun hc => absurd (show Int32.ofInt 4 ≤ Int32.ofInt 4 by decide) hc⟩
theorem k_0 {m : zM} {Q : zQ} {op li : Int32} (hq : Q none (q_33, YY op li m 0 28)) : ZM 0 8 176 [.ref 19, .int op, .int li] (q_28, Zr m 0 20) Q := by
  unfold ZM
  show ZW 0 (8, 176, 0, 0) 0 [(0, .ref 19), (1, .int op), (2, .int li)] [] (q_28, Zr m 0 20) Q
  refine zgo 2 [] ?_
  show ZW 0 (8, 176, 0, 0) 4 [(0, .ref 19), (1, .int op), (2, .int li)] [] (q_28, Zr m 0 20) Q
  refine zgo 3 [] ?_
  show ZW 0 (8, 176, 0, 0) 9 [(0, .ref 19), (1, .int op), (2, .int li)] [] (q_28, zup (Zr m 0 20) 19 0 li) Q
  refine zgo 4 [] ?_
  show ZW 0 (8, 176, 1, 4) 16 [(0, .ref 19), (1, .int op), (2, .int li)] [] (q_29, zz (zup (Zr m 0 20) 19 0 li) 20) Q
  rw [show zz (zup (Zr m 0 20) 19 0 li) 20 = zup (Zr m 0 21) 19 0 li from by (funext b j; simp only [zz_at, zup_at, Zr, YY]; (repeat' split) <;> first | rfl | omega)]
  refine zgo 4 [] ?_
  show ZW 0 (8, 176, 2, 8) 23 [(0, .ref 19), (1, .int op), (2, .int li)] [] (q_30, zz (zup (Zr m 0 21) 19 0 li) 21) Q
  rw [show zz (zup (Zr m 0 21) 19 0 li) 21 = zup (Zr m 0 22) 19 0 li from by (funext b j; simp only [zz_at, zup_at, Zr, YY]; (repeat' split) <;> first | rfl | omega)]
  refine zgo 4 [] ?_
  show ZW 0 (8, 176, 3, 12) 30 [(0, .ref 19), (1, .int op), (2, .int li)] [] (q_31, zz (zup (Zr m 0 22) 19 0 li) 22) Q
  rw [show zz (zup (Zr m 0 22) 19 0 li) 22 = zup (Zr m 0 23) 19 0 li from by (funext b j; simp only [zz_at, zup_at, Zr, YY]; (repeat' split) <;> first | rfl | omega)]
  refine zgo 3 [] ?_
  show ZW 0 (8, 176, 3, 12) 34 [(0, .ref 19), (1, .int op), (2, .int li)] [.int 40, .int 4, .ref 19] (q_31, zup (Zr m 0 23) 19 0 li) Q
  refine ZW.mna rfl (by decide) (by decide) (show q_31.length < 800000 by decide) (by decide +kernel) ?_
  show ZW 0 (8, 176, 8, 176) 38 [(0, .ref 19), (1, .int op), (2, .int li)] [.ref 23, .ref 19] (q_32, zz (zz (zz (zz (zz (zup (Zr m 0 23) 19 0 li) 23) 24) 25) 26) 27) Q
  rw [show zz (zz (zz (zz (zz (zup (Zr m 0 23) 19 0 li) 23) 24) 25) 26) 27 = zup (Zr m 0 28) 19 0 li from by (funext b j; simp only [zz_at, zup_at, Zr, YY]; (repeat' split) <;> first | rfl | omega)]
  refine zgo 1 [] ?_
  show ZW 0 (8, 176, 8, 176) 41 [(0, .ref 19), (1, .int op), (2, .int li)] [] (q_33, zup (Zr m 0 28) 19 0 li) Q
  exact k_0_loop hq
theorem k_89 {m : zM} {Q : zQ} {op li : Int32} (hq : Q none (q_42, YY op li m 0 36)) : ZM 89 7 140 [.ref 28] (q_35, YY op li m 0 29) Q := by
  unfold ZM
  show ZW 89 (7, 140, 0, 0) 0 [(0, .ref 28)] [] (q_35, YY op li m 0 29) Q
  refine zgo 2 [] ?_
  show ZW 89 (7, 140, 0, 0) 4 [(0, .ref 28)] [] (q_35, YY op li m 0 29) Q
  refine zgo 4 [] ?_
  show ZW 89 (7, 140, 1, 20) 12 [(0, .ref 28)] [] (q_36, zz (YY op li m 0 29) 29) Q
  rw [show zz (YY op li m 0 29) 29 = YY op li m 0 30 from by (funext b j; simp only [zz_at, zup_at, Zr, YY]; (repeat' split) <;> first | rfl | omega)]
  refine zgo 4 [] ?_
  show ZW 89 (7, 140, 2, 40) 20 [(0, .ref 28)] [] (q_37, zz (YY op li m 0 30) 30) Q
  rw [show zz (YY op li m 0 30) 30 = YY op li m 0 31 from by (funext b j; simp only [zz_at, zup_at, Zr, YY]; (repeat' split) <;> first | rfl | omega)]
  refine zgo 4 [] ?_
  show ZW 89 (7, 140, 3, 60) 28 [(0, .ref 28)] [] (q_38, zz (YY op li m 0 31) 31) Q
  rw [show zz (YY op li m 0 31) 31 = YY op li m 0 32 from by (funext b j; simp only [zz_at, zup_at, Zr, YY]; (repeat' split) <;> first | rfl | omega)]
  refine zgo 4 [] ?_
  show ZW 89 (7, 140, 4, 80) 36 [(0, .ref 28)] [] (q_39, zz (YY op li m 0 32) 32) Q
  rw [show zz (YY op li m 0 32) 32 = YY op li m 0 33 from by (funext b j; simp only [zz_at, zup_at, Zr, YY]; (repeat' split) <;> first | rfl | omega)]
  refine zgo 4 [] ?_
  show ZW 89 (7, 140, 5, 100) 44 [(0, .ref 28)] [] (q_40, zz (YY op li m 0 33) 33) Q
  rw [show zz (YY op li m 0 33) 33 = YY op li m 0 34 from by (funext b j; simp only [zz_at, zup_at, Zr, YY]; (repeat' split) <;> first | rfl | omega)]
  refine zgo 4 [] ?_
  show ZW 89 (7, 140, 6, 120) 52 [(0, .ref 28)] [] (q_41, zz (YY op li m 0 34) 34) Q
  rw [show zz (YY op li m 0 34) 34 = YY op li m 0 35 from by (funext b j; simp only [zz_at, zup_at, Zr, YY]; (repeat' split) <;> first | rfl | omega)]
  refine zgo 3 [] ?_
  show ZW 89 (7, 140, 6, 120) 57 [(0, .ref 28)] [] (q_41, zup (YY op li m 0 35) 28 6 (Int32.ofInt 0)) Q
  rw [show zup (YY op li m 0 35) 28 6 (Int32.ofInt 0) = YY op li m 0 35 from by (funext b j; simp only [zz_at, zup_at, Zr, YY]; (repeat' split) <;> first | rfl | omega)]
  refine zgo 4 [] ?_
  show ZW 89 (7, 140, 7, 140) 65 [(0, .ref 28)] [] (q_42, zz (YY op li m 0 35) 35) Q
  rw [show zz (YY op li m 0 35) 35 = YY op li m 0 36 from by (funext b j; simp only [zz_at, zup_at, Zr, YY]; (repeat' split) <;> first | rfl | omega)]
  refine zgo 3 [] ?_
  show ZW 89 (7, 140, 7, 140) 70 [(0, .ref 28)] [] (q_42, zup (YY op li m 0 36) 28 8 (Int32.ofInt 0)) Q
  rw [show zup (YY op li m 0 36) 28 8 (Int32.ofInt 0) = YY op li m 0 36 from by (funext b j; simp only [zz_at, zup_at, Zr, YY]; (repeat' split) <;> first | rfl | omega)]
  exact zgo 1 [] hq
theorem k_64 {m : zM} {Q : zQ} {op li : Int32} (hq : Q none (q_48, YY op li m 0 41)) : ZM 64 4 160 [.ref 36] (q_44, YY op li m 0 37) Q := by
  unfold ZM
  show ZW 64 (4, 160, 0, 0) 0 [(0, .ref 36)] [] (q_44, YY op li m 0 37) Q
  refine zgo 2 [] ?_
  show ZW 64 (4, 160, 0, 0) 4 [(0, .ref 36)] [] (q_44, YY op li m 0 37) Q
  refine zgo 4 [] ?_
  show ZW 64 (4, 160, 1, 40) 12 [(0, .ref 36)] [] (q_45, zz (YY op li m 0 37) 37) Q
  rw [show zz (YY op li m 0 37) 37 = YY op li m 0 38 from by (funext b j; simp only [zz_at, zup_at, Zr, YY]; (repeat' split) <;> first | rfl | omega)]
  refine zgo 4 [] ?_
  show ZW 64 (4, 160, 2, 80) 20 [(0, .ref 36)] [] (q_46, zz (YY op li m 0 38) 38) Q
  rw [show zz (YY op li m 0 38) 38 = YY op li m 0 39 from by (funext b j; simp only [zz_at, zup_at, Zr, YY]; (repeat' split) <;> first | rfl | omega)]
  refine zgo 4 [] ?_
  show ZW 64 (4, 160, 3, 120) 28 [(0, .ref 36)] [] (q_47, zz (YY op li m 0 39) 39) Q
  rw [show zz (YY op li m 0 39) 39 = YY op li m 0 40 from by (funext b j; simp only [zz_at, zup_at, Zr, YY]; (repeat' split) <;> first | rfl | omega)]
  refine zgo 4 [] ?_
  show ZW 64 (4, 160, 4, 160) 36 [(0, .ref 36)] [] (q_48, zz (YY op li m 0 40) 40) Q
  rw [show zz (YY op li m 0 40) 40 = YY op li m 0 41 from by (funext b j; simp only [zz_at, zup_at, Zr, YY]; (repeat' split) <;> first | rfl | omega)]
  refine zgo 3 [] ?_
  show ZW 64 (4, 160, 4, 160) 41 [(0, .ref 36)] [] (q_48, zup (YY op li m 0 41) 36 4 (Int32.ofInt 0)) Q
  rw [show zup (YY op li m 0 41) 36 4 (Int32.ofInt 0) = YY op li m 0 41 from by (funext b j; simp only [zz_at, zup_at, Zr, YY]; (repeat' split) <;> first | rfl | omega)]
  exact zgo 1 [] hq
theorem k_18 {m : zM} {Q : zQ} {op li : Int32} (hq : Q none (q_50, YY op li m 0 42)) : ZM 18 23 555 [.ref 18, .int op, .int li] (q_27, Zr m 0 19) Q := by
  unfold ZM
  show ZW 18 (23, 555, 0, 0) 0 [(0, .ref 18), (1, .int op), (2, .int li)] [] (q_27, Zr m 0 19) Q
  refine zgo 2 [] ?_
  show ZW 18 (23, 555, 0, 0) 4 [(0, .ref 18), (1, .int op), (2, .int li)] [] (q_27, Zr m 0 19) Q
  refine zgo 30 [] ?_
  show ZM 0 8 176 [.ref 19, .int op, .int li] (q_28, zz (Zr m 0 19) 19) _
  rw [show zz (Zr m 0 19) 19 = Zr m 0 20 from by (funext b j; simp only [zz_at, zup_at, Zr, YY]; (repeat' split) <;> first | rfl | omega)]
  refine k_0 ?_
  show ZW 18 (23, 555, 9, 181) 14 [(0, .ref 18), (1, .int op), (2, .int li)] [.ref 19, .ref 18] (q_33, YY op li m 0 28) Q
  refine zgo 1 [] ?_
  show ZW 18 (23, 555, 9, 181) 17 [(0, .ref 18), (1, .int op), (2, .int li)] [] (q_34, YY op li m 0 28) Q
  refine zgo 30 [] ?_
  show ZM 89 7 140 [.ref 28] (q_35, zz (YY op li m 0 28) 28) _
  rw [show zz (YY op li m 0 28) 28 = YY op li m 0 29 from by (funext b j; simp only [zz_at, zup_at, Zr, YY]; (repeat' split) <;> first | rfl | omega)]
  refine k_89 ?_
  show ZW 18 (23, 555, 17, 330) 25 [(0, .ref 18), (1, .int op), (2, .int li)] [.ref 28, .ref 18] (q_42, YY op li m 0 36) Q
  refine zgo 1 [] ?_
  show ZW 18 (23, 555, 17, 330) 28 [(0, .ref 18), (1, .int op), (2, .int li)] [] (q_43, YY op li m 0 36) Q
  refine zgo 30 [] ?_
  show ZM 64 4 160 [.ref 36] (q_44, zz (YY op li m 0 36) 36) _
  rw [show zz (YY op li m 0 36) 36 = YY op li m 0 37 from by (funext b j; simp only [zz_at, zup_at, Zr, YY]; (repeat' split) <;> first | rfl | omega)]
  refine k_64 ?_
  show ZW 18 (23, 555, 22, 495) 36 [(0, .ref 18), (1, .int op), (2, .int li)] [.ref 36, .ref 18] (q_48, YY op li m 0 41) Q
  refine zgo 1 [] ?_
  show ZW 18 (23, 555, 22, 495) 39 [(0, .ref 18), (1, .int op), (2, .int li)] [] (q_49, YY op li m 0 41) Q
  refine zgo 4 [] ?_
  show ZW 18 (23, 555, 23, 555) 47 [(0, .ref 18), (1, .int op), (2, .int li)] [] (q_50, zz (YY op li m 0 41) 41) Q
  rw [show zz (YY op li m 0 41) 41 = YY op li m 0 42 from by (funext b j; simp only [zz_at, zup_at, Zr, YY]; (repeat' split) <;> first | rfl | omega)]
  refine zgo 3 [] ?_
  show ZW 18 (23, 555, 23, 555) 52 [(0, .ref 18), (1, .int op), (2, .int li)] [] (q_50, zup (YY op li m 0 42) 18 4 (Int32.ofInt 0)) Q
  rw [show zup (YY op li m 0 42) 18 4 (Int32.ofInt 0) = YY op li m 0 42 from by (funext b j; simp only [zz_at, zup_at, Zr, YY]; (repeat' split) <;> first | rfl | omega)]
  exact zgo 1 [] hq
theorem k_131 {m : zM} {Q : zQ} {op li : Int32} (hq : Q none (q_51, YY (clM op) (clM li) m 0 42)) : ZM 131 41 7095 [.ref 0, .int op, .int li] (q_0, Zr m 0 1) Q := by
  unfold ZM
  show ZW 131 (41, 7095, 0, 0) 0 [(0, .ref 0), (1, .int op), (2, .int li)] [] (q_0, Zr m 0 1) Q
  refine zgo 2 [153] ?_
  show ZW 131 (41, 7095, 0, 0) 4 [(0, .ref 0), (1, .int op), (2, .int li)] [] (q_0, Zr m 0 1) Q
  refine zgo 30 [153] ?_
  show ZM 107 7 679 [.ref 1] (q_1, zz (Zr m 0 1) 1) _
  rw [show zz (Zr m 0 1) 1 = Zr m 0 2 from by (funext b j; simp only [zz_at, zup_at, Zr, YY]; (repeat' split) <;> first | rfl | omega)]
  refine k_107 ?_
  show ZW 131 (41, 7095, 8, 689) 11 [(0, .ref 0), (1, .int op), (2, .int li)] [.ref 1] (q_8, Zr m 0 9) Q
  refine zgo 30 [153] ?_
  show ZM 74 1 300 [.ref 9, .ref 1] (q_9, zz (Zr m 0 9) 9) _
  rw [show zz (Zr m 0 9) 9 = Zr m 0 10 from by (funext b j; simp only [zz_at, zup_at, Zr, YY]; (repeat' split) <;> first | rfl | omega)]
  refine k_74 ?_
  show ZW 131 (41, 7095, 10, 993) 21 [(3, .ref 1), (0, .ref 0), (1, .int op), (2, .int li)] [.ref 9, .ref 0] (q_11, Zr m 0 11) Q
  refine zgo 1 [153] ?_
  show ZW 131 (41, 7095, 10, 993) 24 [(3, .ref 1), (0, .ref 0), (1, .int op), (2, .int li)] [] (q_12, Zr m 0 11) Q
  refine zgo 30 [153] ?_
  show ZM 31 2 22 [.ref 11, .ref 1] (q_13, zz (Zr m 0 11) 11) _
  rw [show zz (Zr m 0 11) 11 = Zr m 0 12 from by (funext b j; simp only [zz_at, zup_at, Zr, YY]; (repeat' split) <;> first | rfl | omega)]
  refine k_31 ?_
  show ZW 131 (41, 7095, 13, 1020) 33 [(3, .ref 1), (0, .ref 0), (1, .int op), (2, .int li)] [.ref 11, .ref 0] (q_18, Zr m 0 14) Q
  refine zgo 1 [153] ?_
  show ZW 131 (41, 7095, 13, 1020) 36 [(3, .ref 1), (0, .ref 0), (1, .int op), (2, .int li)] [] (q_19, Zr m 0 14) Q
  refine zgo 30 [153] ?_
  show ZM 52 2 5505 [.ref 14] (q_20, zz (Zr m 0 14) 14) _
  rw [show zz (Zr m 0 14) 14 = Zr m 0 15 from by (funext b j; simp only [zz_at, zup_at, Zr, YY]; (repeat' split) <;> first | rfl | omega)]
  refine k_52 ?_
  show ZW 131 (41, 7095, 16, 6534) 44 [(3, .ref 1), (0, .ref 0), (1, .int op), (2, .int li)] [.ref 14, .ref 0] (q_22, Zr m 0 17) Q
  refine zgo 1 [153] ?_
  show ZW 131 (41, 7095, 16, 6534) 47 [(3, .ref 1), (0, .ref 0), (1, .int op), (2, .int li)] [] (q_23, Zr m 0 17) Q
  refine zgo 30 [153] ?_
  show ZM 9 0 0 [.ref 17, .ref 14] (q_24, zz (Zr m 0 17) 17) _
  rw [show zz (Zr m 0 17) 17 = Zr m 0 18 from by (funext b j; simp only [zz_at, zup_at, Zr, YY]; (repeat' split) <;> first | rfl | omega)]
  refine k_9 ?_
  show ZW 131 (41, 7095, 17, 6535) 59 [(3, .ref 1), (0, .ref 0), (1, .int op), (2, .int li)] [.ref 17, .ref 0] (q_25, Zr m 0 18) Q
  refine zgo 1 [153] ?_
  show ZW 131 (41, 7095, 17, 6535) 62 [(3, .ref 1), (0, .ref 0), (1, .int op), (2, .int li)] [] (q_26, Zr m 0 18) Q
  refine zgo 30 [153] ?_
  show ZM 18 23 555 [.ref 18, .int (clM op), .int (clM li)] (q_27, zz (Zr m 0 18) 18) _
  rw [show zz (Zr m 0 18) 18 = Zr m 0 19 from by (funext b j; simp only [zz_at, zup_at, Zr, YY]; (repeat' split) <;> first | rfl | omega)]
  refine k_18 ?_
  show ZW 131 (41, 7095, 41, 7095) 78 [(3, .ref 1), (0, .ref 0), (1, .int op), (2, .int li)] [.ref 18, .ref 0] (q_50, YY (clM op) (clM li) m 0 42) Q
  refine zgo 1 [153] ?_
  show ZW 131 (41, 7095, 41, 7095) 81 [(3, .ref 1), (0, .ref 0), (1, .int op), (2, .int li)] [] (q_51, YY (clM op) (clM li) m 0 42) Q
  refine zgo 3 [153] ?_
  show ZW 131 (41, 7095, 41, 7095) 86 [(3, .ref 1), (0, .ref 0), (1, .int op), (2, .int li)] [] (q_51, zup (YY (clM op) (clM li) m 0 42) 0 5 (Int32.ofInt 0)) Q
  rw [show zup (YY (clM op) (clM li) m 0 42) 0 5 (Int32.ofInt 0) = YY (clM op) (clM li) m 0 42 from by (funext b j; simp only [zz_at, zup_at, Zr, YY]; (repeat' split) <;> first | rfl | omega)]
  exact zgo 1 [] hq
