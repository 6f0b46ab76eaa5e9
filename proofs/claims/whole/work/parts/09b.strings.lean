/-! String constants -/
theorem ZW.ldcS {k : Nat} {g : Nat × Nat × Nat × Nat} {pc : Nat} {ls : zLs} {r : List Value} {h : zH} {Q : zQ} {i j : Nat} (hv : zSk (zO k) i = some j) (hd : decode (zC k) pc = .ok (.ldc i, 2)) (w : ZW k g (pc + 2) ls (.ref (1000010 + j) :: r) h Q) : ZW k g pc ls r h Q := by
  sorry
theorem ZW.strLen {k : Nat} {g : Nat × Nat × Nat × Nat} {pc : Nat} {ls : zLs} {r : List Value} {h : zH} {Q : zQ} {x a n : Nat} (hlk : zLk (zO k) x = some 220) (hn : zSn a = some n) (hr : zcr k 220 r = true) (hd : decode (zC k) pc = .ok (.invokevirtual x, 3)) (w : ZW k g (pc + 3) ls (.int (Int32.ofNat n) :: r) h Q) : ZW k g pc ls (.ref a :: r) h Q := by
  sorry
theorem ZW.strEmpty {k : Nat} {g : Nat × Nat × Nat × Nat} {pc : Nat} {ls : zLs} {r : List Value} {h : zH} {Q : zQ} {x a n : Nat} (hlk : zLk (zO k) x = some 221) (hn : zSn a = some n) (hr : zcr k 221 r = true) (hd : decode (zC k) pc = .ok (.invokevirtual x, 3)) (w : ZW k g (pc + 3) ls (.int (if n = 0 then 1 else 0) :: r) h Q) : ZW k g pc ls (.ref a :: r) h Q := by
  sorry
theorem ZW.strChar {k : Nat} {g : Nat × Nat × Nat × Nat} {pc : Nat} {ls : zLs} {r : List Value} {h : zH} {Q : zQ} {x a n : Nat} {i : Int32} (hlk : zLk (zO k) x = some 222) (hn : zSn a = some n) (hr : zcr k 222 r = true) (hi : vp_in i n) (hd : decode (zC k) pc = .ok (.invokevirtual x, 3)) (w : ZW k g (pc + 3) ls (.int (zSc a i.toNatClampNeg) :: r) h Q) : ZW k g pc ls (.int i :: .ref a :: r) h Q := by
  sorry
