theorem ev_add {m : zM} {d : Nat} (x : Int32) (h : m 14 4 = nI d) (hd : d < 258) : Ev 59 [.ref 14, .int x] m none (zup (zup m 16 d x) 14 4 (nI (d + 1))) := by
  intro Q hQ
  refine zgo 40 [] ?_
  refine ⟨fun hc => absurd (show Int32.ofNat 258 ≤ m 14 4 from hc) ?_, fun _ => ⟨?_, ?_⟩⟩
  · rw [h]; exact nI_ge hd (by decide)
  · show vp_in (m 14 4) 258
    rw [h]; exact zin_nI hd (by decide)
  · show Q none (SH, zup (zup m 16 (m 14 4).toNatClampNeg x) 14 4 (m 14 4 + Int32.ofInt 1))
    rw [h, nI_clamp (by omega), zki, nI_add]
    exact hQ
theorem ev_begin {m : zM} (x : Int32) : Ev 58 [.ref 14, .int x] m none (zup (zup (zup (zup (zup m 14 4 0) 16 0 x) 14 4 (nI 1)) 16 1 0) 14 4 (nI 2)) := by
  intro Q hQ
  refine zgo 40 [] ?_
  refine (ev_add (m := zup m 14 4 0) (d := 0) x rfl (by decide)).use ?_
  refine zgo 40 [] ?_
  refine (ev_add (d := 1) 0 rfl (by decide)).use ?_
  refine zgo 40 [] ?_
  exact hQ
/-- the sum of the ints i .. i + n - 1 -/
def zsum (f : Nat → Int32) (i : Nat) : Nat → Int32
  | 0 => 0
  | n + 1 => f i + zsum f (i + 1) n
theorem ev_check_loop {m : zM} {d : Nat} (h : m 14 4 = nI d) (hd : d ≤ 258) (Q : zQ) : ∀ (n i : Nat) (x s : Int32), i + n = d → x = nI i → Q (some (.int ((s + zsum (m 16) i n) - (s + zsum (m 16) i n) / 251 * 251))) (SH, m) → ZW 62 (0, 0, 0, 0) 4 [(2, .int x), (1, .int s), (0, .ref 14)] [] (SH, m) Q := by
  intro n
  induction n with
  | zero =>
    intro i x s hi hx hQ
    refine zgo 40 [] ?_
    refine ⟨fun _ => ?_, fun hc => absurd ?_ hc⟩
    · refine ⟨by decide, ?_⟩
      show Q (some (.int (s - s / 251 * 251))) (SH, m)
      simpa [zsum] using hQ
    · show m 14 4 ≤ x
      rw [h, hx]; exact nI_le (by omega) (by omega)
  | succ n ih =>
    intro i x s hi hx hQ
    refine zgo 40 [] ?_
    refine ⟨fun hc => absurd (show m 14 4 ≤ x from hc) ?_, fun _ => ⟨fun hc => absurd (show Int32.ofNat 258 ≤ x from hc) ?_, fun _ => ⟨?_, ?_⟩⟩⟩
    · rw [h, hx]; exact nI_ge (by omega) (by omega)
    · rw [hx]; exact nI_ge (by omega) (by decide)
    · show vp_in x 258
      rw [hx]; exact zin_nI (by omega) (by decide)
    · refine ih (i + 1) _ _ (by omega) (show x + Int32.ofInt 1 = nI (i + 1) by rw [hx, zki, nI_add]) ?_
      show Q (some (.int ((s + m 16 x.toNatClampNeg + zsum (m 16) (i + 1) n) - _))) (SH, m)
      rw [hx, nI_clamp (by omega), Int32.add_assoc]
      exact hQ
