/-! the class's records -/
theorem ev_add {m : zM} {d : Nat} (x : Int32) (h : m 14 4 = nI d) (hd : d < 258) : Ev 59 [.ref 14, .int x] m none (zup (zup m 16 d x) 14 4 (nI (d + 1))) := by
  intro Q hQ
  refine zgo 40 [] ?_
  repeat' (first
    | (show vp_in _ _; simp (disch := first | omega | decide) only [h, zcn, zkpl, zki, zki1, zk8, zk16, zo32, zlt0, zle0, zeq0, zgt0, zLe0, nI_ltI, nI_leI, nI_eq, nI_add, nI_clamp, vp_in_nI, zup_s, zup_n, upd_s, upd_n, ne_eq, not_true_eq_false, not_false_eq_true]; done)
    | (intro hc; exfalso; simp (disch := first | omega | decide) only [h, zcn, zkpl, zki, zki1, zk8, zk16, zo32, zlt0, zle0, zeq0, zgt0, zLe0, nI_ltI, nI_leI, nI_eq, nI_add, nI_clamp, vp_in_nI, zup_s, zup_n, upd_s, upd_n, ne_eq, not_true_eq_false, not_false_eq_true] at hc <;> omega)
    | (intro hc; exact absurd rfl hc)
    | intro hc
    | apply And.intro
    | exact hQ
    | (show Q _ (SH, _); simp (disch := first | omega | decide) only [h, zcn, zkpl, zki, zki1, zk8, zk16, zo32, zlt0, zle0, zeq0, zgt0, zLe0, nI_ltI, nI_leI, nI_eq, nI_add, nI_clamp, vp_in_nI, zup_s, zup_n, upd_s, upd_n, ne_eq, not_true_eq_false, not_false_eq_true]; exact hQ)
    | exact Or.inl rfl
    | exact Or.inr rfl
    | (show (_ : Int32) = 0 ∨ _ = 1; simp (disch := first | omega | decide) only [h, zcn, zkpl, zki, zki1, zk8, zk16, zo32, zlt0, zle0, zeq0, zgt0, zLe0, nI_ltI, nI_leI, nI_eq, nI_add, nI_clamp, vp_in_nI, zup_s, zup_n, upd_s, upd_n, ne_eq, not_true_eq_false, not_false_eq_true, zeq1, true_or, or_true]; done))
theorem ev_begin {m : zM} (x : Int32) : Ev 58 [.ref 14, .int x] m none (zup (zup (zup (zup (zup m 14 4 0) 16 0 x) 14 4 (nI 1)) 16 1 0) 14 4 (nI 2)) := by
  intro Q hQ
  refine zgo 40 [] ?_
  refine (ev_add (m := zup m 14 4 0) (d := 0) x rfl (by decide)).use ?_
  refine zgo 40 [] ?_
  refine (ev_add (d := 1) 0 rfl (by decide)).use ?_
  refine zgo 40 [] ?_
  exact hQ
/-- the sum of the ints i .. i + n - 1 -/
def zsum (f : Nat → Int32) (i : Nat) : Nat → Int32
  | 0 => 0
  | n + 1 => f i + zsum f (i + 1) n
theorem ev_check_loop {m : zM} {d : Nat} (h : m 14 4 = nI d) (hd : d ≤ 258) (Q : zQ) : ∀ (n i : Nat) (x s : Int32), i + n = d → x = nI i → Q (some (.int ((s + zsum (m 16) i n) - (s + zsum (m 16) i n) / 251 * 251))) (SH, m) → ZW 62 (0, 0, 0, 0) 4 [(2, .int x), (1, .int s), (0, .ref 14)] [] (SH, m) Q := by
  intro n
  induction n with
  | zero =>
    intro i x s hi hx hQ
    refine zgo 40 [] ?_
    refine ⟨fun _ => ?_, fun hc => absurd ?_ hc⟩
    · refine ⟨by decide, ?_⟩
      show Q (some (.int (s - s / 251 * 251))) (SH, m)
      simpa [zsum] using hQ
    · show m 14 4 ≤ x
      rw [h, hx]; exact nI_le (by omega) (by omega)
  | succ n ih =>
    intro i x s hi hx hQ
    refine zgo 40 [] ?_
    refine ⟨fun hc => absurd (show m 14 4 ≤ x from hc) ?_, fun _ => ⟨fun hc => absurd (show Int32.ofNat 258 ≤ x from hc) ?_, fun _ => ⟨?_, ?_⟩⟩⟩
    · rw [h, hx]; exact nI_ge (by omega) (by omega)
    · rw [hx]; exact nI_ge (by omega) (by decide)
    · show vp_in x 258
      rw [hx]; exact zin_nI (by omega) (by decide)
    · refine ih (i + 1) _ _ (by omega) (show x + Int32.ofInt 1 = nI (i + 1) by rw [hx, zki, nI_add]) ?_
      show Q (some (.int ((s + m 16 x.toNatClampNeg + zsum (m 16) (i + 1) n) - _))) (SH, m)
      rw [hx, nI_clamp (by omega), Int32.add_assoc]
      exact hQ
def nsum (f : Nat → Nat) (i : Nat) : Nat → Nat
  | 0 => 0
  | n + 1 => f i + nsum f (i + 1) n
theorem zsum_n {f : Nat → Int32} {D : Nat → Nat} : ∀ (n i : Nat), (∀ j, i ≤ j → j < i + n → f j = nI (D j)) → zsum f i n = nI (nsum D i n)
  | 0, _, _ => rfl
  | n + 1, i, h => by
    show f i + zsum f (i + 1) n = nI (D i + nsum D (i + 1) n)
    rw [h i (Nat.le_refl _) (by omega), zsum_n n (i + 1) (fun j h1 h2 => h j (by omega) (by omega)), nI_add]
theorem nsum_le {D : Nat → Nat} : ∀ (n i : Nat), (∀ j, i ≤ j → j < i + n → D j < 256) → nsum D i n ≤ 255 * n
  | 0, _, _ => Nat.le_refl _
  | n + 1, i, h => by
    have h1 := h i (Nat.le_refl _) (by omega)
    have h2 := nsum_le n (i + 1) (fun j h1 h2 => h j (by omega) (by omega))
    show D i + nsum D (i + 1) n ≤ _
    omega
/-- check(): the sum of the draft, mod 251 -/
theorem ev_check {m : zM} {d : Nat} {D : Nat → Nat} (h : m 14 4 = nI d) (hd : d ≤ 258) (hD : ∀ j, j < d → D j < 256 ∧ m 16 j = nI (D j)) : Ev 62 [.ref 14] m (some (.int (nI (nsum D 0 d % 251)))) m := by
  intro Q hQ
  refine zgo 40 [] ?_
  refine ev_check_loop h hd Q d 0 _ _ (by omega) rfl ?_
  have e1 : zsum (m 16) 0 d = nI (nsum D 0 d) := zsum_n d 0 (fun j _ h2 => (hD j (by omega)).2)
  have e2 := nsum_le (D := D) d 0 (fun j _ h2 => (hD j (by omega)).1)
  rw [e1]
  have e3 : (Int32.ofInt 0 + nI (nsum D 0 d)) = nI (nsum D 0 d) := by
    rw [zki, nI_add, Nat.zero_add]
  rw [e3, show (251 : Int32) = nI 251 from rfl, pk_rem (by omega) (by decide) (by decide)]
  exact hQ
/-- the draft's ints i .. behind the n bytes -/
def zapp (m : zM) (n i : Nat) : Nat → zM
  | 0 => m
  | k + 1 => zapp (zup (zup m 15 n (m 16 i).toInt8.toInt32) 14 1 (nI (n + 1))) (n + 1) (i + 1) k
theorem zapp_far {a : Nat} (h1 : a ≠ 14) (h2 : a ≠ 15) : ∀ (k : Nat) (m : zM) (n i : Nat), zapp m n i k a = m a
  | 0, _, _, _ => rfl
  | k + 1, m, n, i => by
    show zapp _ _ _ k a = m a
    rw [zapp_far h1 h2 k, zup_n _ h1, zup_n _ h2]
theorem zapp_fld {f : Nat} (h1 : f ≠ 1) : ∀ (k : Nat) (m : zM) (n i : Nat), zapp m n i k 14 f = m 14 f
  | 0, _, _, _ => rfl
  | k + 1, m, n, i => by
    show zapp _ _ _ k 14 f = m 14 f
    rw [zapp_fld h1 k, zup_s, upd_n _ h1, zup_n _ (by decide)]
theorem zapp_len : ∀ (k : Nat) (m : zM) (n i : Nat), m 14 1 = nI n → zapp m n i k 14 1 = nI (n + k)
  | 0, _, _, _, h => h
  | k + 1, m, n, i, h => by
    show zapp _ _ _ k 14 1 = _
    rw [zapp_len k _ _ _ (by rw [zup_s, upd_s]), show n + 1 + k = n + (k + 1) by omega]
theorem zapp_old : ∀ (k : Nat) (m : zM) (n i j : Nat), j < n → zapp m n i k 15 j = m 15 j
  | 0, _, _, _, _, _ => rfl
  | k + 1, m, n, i, j, h => by
    show zapp _ _ _ k 15 j = _
    rw [zapp_old k _ _ _ _ (by omega), zup_n _ (by decide), zup_s, upd_n _ (by omega)]
theorem zapp_new : ∀ (k : Nat) (m : zM) (n i j : Nat), j < k → zapp m n i k 15 (n + j) = (m 16 (i + j)).toInt8.toInt32
  | 0, _, _, _, _, h => absurd h (by omega)
  | k + 1, m, n, i, j, h => by
    show zapp _ _ _ k 15 (n + j) = _
    by_cases hj : j = 0
    · subst hj
      rw [zapp_old k _ _ _ _ (by omega), zup_n _ (by decide), zup_s, Nat.add_zero, upd_s, Nat.add_zero]
    · have := zapp_new k (zup (zup m 15 n (m 16 i).toInt8.toInt32) 14 1 (nI (n + 1))) (n + 1) (i + 1) (j - 1) (by omega)
      rw [show n + 1 + (j - 1) = n + j by omega, show i + 1 + (j - 1) = i + j by omega] at this
      rw [this, zup_n _ (by decide), zup_n _ (by decide)]
theorem ev_append_loop {c : Nat} (hc : c ≤ 258) (Q : zQ) : ∀ (k i n : Nat) (m : zM) (x : Int32), i + k = c → x = nI i → m 14 1 = nI n → n + k ≤ 5247 → Q none (SH, zapp m n i k) → ZW 63 (0, 0, 0, 0) 2 [(2, .int x), (0, .ref 14), (1, .int (nI c))] [] (SH, m) Q := by
  intro k
  induction k with
  | zero =>
    intro i n m x hi hx hn hb hQ
    refine zgo 80 [] ?_
    repeat' (first
      | (show vp_in _ _; simp (disch := first | omega | decide) only [hx, hn, zcn, zkpl, zki, zki1, zk8, zk16, zo32, zlt0, zle0, zeq0, zgt0, zLe0, nI_ltI, nI_leI, nI_eq, nI_add, nI_clamp, vp_in_nI, zup_s, zup_n, upd_s, upd_n, ne_eq, not_true_eq_false, not_false_eq_true]; done)
      | (intro hc; exfalso; simp (disch := first | omega | decide) only [hx, hn, zcn, zkpl, zki, zki1, zk8, zk16, zo32, zlt0, zle0, zeq0, zgt0, zLe0, nI_ltI, nI_leI, nI_eq, nI_add, nI_clamp, vp_in_nI, zup_s, zup_n, upd_s, upd_n, ne_eq, not_true_eq_false, not_false_eq_true] at hc <;> omega)
      | (intro hc; exact absurd rfl hc)
      | intro hc
      | apply And.intro
      | exact hQ
      | (show Q _ (SH, _); simp (disch := first | omega | decide) only [hx, hn, zcn, zkpl, zki, zki1, zk8, zk16, zo32, zlt0, zle0, zeq0, zgt0, zLe0, nI_ltI, nI_leI, nI_eq, nI_add, nI_clamp, vp_in_nI, zup_s, zup_n, upd_s, upd_n, ne_eq, not_true_eq_false, not_false_eq_true]; exact hQ)
      | exact Or.inl rfl
      | exact Or.inr rfl
      | (show (_ : Int32) = 0 ∨ _ = 1; simp (disch := first | omega | decide) only [hx, hn, zcn, zkpl, zki, zki1, zk8, zk16, zo32, zlt0, zle0, zeq0, zgt0, zLe0, nI_ltI, nI_leI, nI_eq, nI_add, nI_clamp, vp_in_nI, zup_s, zup_n, upd_s, upd_n, ne_eq, not_true_eq_false, not_false_eq_true, zeq1, true_or, or_true]; done))
  | succ k ih =>
    intro i n m x hi hx hn hb hQ
    refine zgo 80 [] ?_
    refine ⟨fun hcc => ?_, fun _ => ⟨fun hcc => ?_, fun _ => ⟨fun hcc => ?_, fun _ => ⟨?_, ?_, ?_⟩⟩⟩⟩
    · exfalso
      simp (disch := first | omega | decide) only [hx, zcn, zkpl, zki, zki1, zk8, zk16, zo32, zlt0, zle0, zeq0, zgt0, zLe0, nI_ltI, nI_leI, nI_eq, nI_add, nI_clamp, vp_in_nI, zup_s, zup_n, upd_s, upd_n, ne_eq, not_true_eq_false, not_false_eq_true] at hcc
      omega
    · exfalso
      simp (disch := first | omega | decide) only [hx, zcn, zkpl, zki, zki1, zk8, zk16, zo32, zlt0, zle0, zeq0, zgt0, zLe0, nI_ltI, nI_leI, nI_eq, nI_add, nI_clamp, vp_in_nI, zup_s, zup_n, upd_s, upd_n, ne_eq, not_true_eq_false, not_false_eq_true] at hcc
      omega
    · exfalso
      simp (disch := first | omega | decide) only [hn, zcn, zkpl, zki, zki1, zk8, zk16, zo32, zlt0, zle0, zeq0, zgt0, zLe0, nI_ltI, nI_leI, nI_eq, nI_add, nI_clamp, vp_in_nI, zup_s, zup_n, upd_s, upd_n, ne_eq, not_true_eq_false, not_false_eq_true] at hcc
      omega
    · show vp_in _ _
      simp (disch := first | omega | decide) only [hx, zcn, zkpl, zki, zki1, zk8, zk16, zo32, zlt0, zle0, zeq0, zgt0, zLe0, nI_ltI, nI_leI, nI_eq, nI_add, nI_clamp, vp_in_nI, zup_s, zup_n, upd_s, upd_n, ne_eq, not_true_eq_false, not_false_eq_true]
    · show vp_in _ _
      simp (disch := first | omega | decide) only [hn, zcn, zkpl, zki, zki1, zk8, zk16, zo32, zlt0, zle0, zeq0, zgt0, zLe0, nI_ltI, nI_leI, nI_eq, nI_add, nI_clamp, vp_in_nI, zup_s, zup_n, upd_s, upd_n, ne_eq, not_true_eq_false, not_false_eq_true]
    · refine zcg (m := zup (zup m 15 n (m 16 i).toInt8.toInt32) 14 1 (nI (n + 1))) ?_ (ih (i + 1) (n + 1) _ _ (by omega) (show x + Int32.ofInt 1 = nI (i + 1) by rw [hx, zki, nI_add]) (by rw [zup_s, upd_s]) (by omega) hQ)
      simp (disch := first | omega | decide) only [hx, hn, pk_vb, zcn, zkpl, zki, zki1, zk8, zk16, zo32, zlt0, zle0, zeq0, zgt0, zLe0, nI_ltI, nI_leI, nI_eq, nI_add, nI_clamp, vp_in_nI, zup_s, zup_n, upd_s, upd_n, ne_eq, not_true_eq_false, not_false_eq_true]
theorem ev_append {m : zM} {n c : Nat} (hc : c ≤ 258) (hn : m 14 1 = nI n) (hb : n + c ≤ 5247) : Ev 63 [.ref 14, .int (nI c)] m none (zapp m n 0 c) := by
  intro Q hQ
  refine zgo 40 [] ?_
  exact ev_append_loop hc Q c 0 n m _ (by omega) rfl hn hb hQ
/-- the bytes of a record: kind, data, check -/
def zrec (D : Nat → Nat) (d : Nat) : Nat → Nat := fun j => if j = d then nsum (fun i => if i = 1 then d - 2 else D i) 0 d % 251 else if j = 1 then d - 2 else D j
def zW2 (m : zM) (d c : Nat) : zM := zup (zup (zup m 16 1 (nI (d - 2))) 16 d (nI c)) 14 4 (nI (d + 1))
def zWf (m : zM) (n d c k : Nat) : zM := zup (zup (zapp (zW2 m d c) n 0 k) 14 5 0) 14 8 1
def zWk (m : zM) (n d c : Nat) : zM := zup (zapp (zW2 m d c) n 0 (d + 1)) 14 2 (nI (n + (d + 1)))
theorem zmin {a b : Nat} (ha : a < 2 ^ 31) (hb : b < 2 ^ 31) : (if nI b < nI a then nI b else nI a) = nI (min a b) := by
  by_cases h : b < a
  · rw [if_pos (nI_lt h ha), Nat.min_eq_right (by omega)]
  · rw [if_neg (nI_nlt (by omega) hb), Nat.min_eq_left (by omega)]
/-- what write() needs: d bytes drafted, n bytes in the journal -/
def zPre (m : zM) (n d : Nat) (D : Nat → Nat) : Prop := m 14 4 = nI d ∧ 3 ≤ d ∧ d ≤ 257 ∧ (∀ j, j < d → D j < 256 ∧ m 16 j = nI (D j)) ∧ m 14 1 = nI n ∧ n + (d + 1) ≤ 5247
def zchk (D : Nat → Nat) (d : Nat) : Nat := nsum (fun i => if i = 1 then d - 2 else D i) 0 d % 251
theorem zPre_chk {m : zM} {n d : Nat} {D : Nat → Nat} (h : zPre m n d D) : Ev 62 [.ref 14] (zup m 16 1 (nI (d - 2))) (some (.int (nI (zchk D d)))) (zup m 16 1 (nI (d - 2))) := by
  obtain ⟨h1, h2, h3, h4, -⟩ := h
  refine ev_check (d := d) (by simp (disch := first | omega | decide) only [h1, zcn, zkpl, zki, zki1, zk8, zk16, zo32, zlt0, zle0, zeq0, zgt0, zLe0, nI_ltI, nI_leI, nI_eq, nI_add, nI_clamp, vp_in_nI, zup_s, zup_n, upd_s, upd_n, ne_eq, not_true_eq_false, not_false_eq_true]) (by omega) (fun j hj => ?_)
  by_cases e : j = 1
  · subst e
    refine ⟨?_, ?_⟩
    · show d - 2 < 256
      omega
    · rw [zup_s, upd_s]
      rfl
  · obtain ⟨q1, q2⟩ := h4 j hj
    refine ⟨?_, ?_⟩
    · show (if j = 1 then d - 2 else D j) < 256
      rw [if_neg e]
      exact q1
    · show _ = nI (if j = 1 then d - 2 else D j)
      rw [zup_s, upd_n _ e, if_neg e]
      exact q2
theorem ev_write_fail {m : zM} {n d c : Nat} {D : Nat → Nat} (h : zPre m n d D) (hf : m 14 5 = 1) (hl : m 14 6 = 0) (hc : m 14 7 = nI c) (hc2 : c ≤ 300) : Ev 61 [.ref 14] m (some (.int 0)) (zWf m n d (zchk D d) (min c d)) := by
  obtain ⟨h1, h2, h3, h4, h5, h6⟩ := id h
  intro Q hQ
  refine zgo 80 [] ?_
  refine ⟨by show vp_in _ _; simp (disch := first | omega | decide) only [zcn, zkpl, zki, zki1, zk8, zk16, zo32, zlt0, zle0, zeq0, zgt0, zLe0, nI_ltI, nI_leI, nI_eq, nI_add, nI_clamp, vp_in_nI, zup_s, zup_n, upd_s, upd_n, ne_eq, not_true_eq_false, not_false_eq_true], ?_⟩
  refine zcm (m := zup m 16 1 (nI (d - 2))) (by simp (disch := first | omega | decide) only [h1, pk_sub, zcn, zkpl, zki, zki1, zk8, zk16, zo32, zlt0, zle0, zeq0, zgt0, zLe0, nI_ltI, nI_leI, nI_eq, nI_add, nI_clamp, vp_in_nI, zup_s, zup_n, upd_s, upd_n, ne_eq, not_true_eq_false, not_false_eq_true]) ((zPre_chk h).use ?_)
  refine zgo 80 [] ?_
  refine (ev_add (d := d) (nI (zchk D d)) (by simp (disch := first | omega | decide) only [h1, zcn, zkpl, zki, zki1, zk8, zk16, zo32, zlt0, zle0, zeq0, zgt0, zLe0, nI_ltI, nI_leI, nI_eq, nI_add, nI_clamp, vp_in_nI, zup_s, zup_n, upd_s, upd_n, ne_eq, not_true_eq_false, not_false_eq_true]) (by omega)).use ?_
  refine zgo 80 [] ?_
  refine ⟨fun hcc => ?_, fun _ => ⟨fun hcc => ?_, fun _ => ?_⟩⟩
  · exfalso
    simp (disch := first | omega | decide) only [hf, z10, zcn, zkpl, zki, zki1, zk8, zk16, zo32, zlt0, zle0, zeq0, zgt0, zLe0, nI_ltI, nI_leI, nI_eq, nI_add, nI_clamp, vp_in_nI, zup_s, zup_n, upd_s, upd_n, ne_eq, not_true_eq_false, not_false_eq_true] at hcc
  · exfalso
    simp (disch := first | omega | decide) only [hl, not_true_eq_false, zcn, zkpl, zki, zki1, zk8, zk16, zo32, zlt0, zle0, zeq0, zgt0, zLe0, nI_ltI, nI_leI, nI_eq, nI_add, nI_clamp, vp_in_nI, zup_s, zup_n, upd_s, upd_n, ne_eq, not_true_eq_false, not_false_eq_true] at hcc
  · have e : (nI (d + 1) - Int32.ofInt 1) = nI d := by rw [zki, pk_sub (by omega), Nat.add_sub_cancel]
    have e2 : zW2 m d (zchk D d) 14 4 = nI (d + 1) := by unfold zW2; rw [zup_s, upd_s]
    have e3 : zW2 m d (zchk D d) 14 7 = nI c := by unfold zW2; simp (disch := first | omega | decide) only [hc, zcn, zkpl, zki, zki1, zk8, zk16, zo32, zlt0, zle0, zeq0, zgt0, zLe0, nI_ltI, nI_leI, nI_eq, nI_add, nI_clamp, vp_in_nI, zup_s, zup_n, upd_s, upd_n, ne_eq, not_true_eq_false, not_false_eq_true]
    show ZM 63 0 0 [.ref 14, .int (if zW2 m d (zchk D d) 14 4 - Int32.ofInt 1 < zW2 m d (zchk D d) 14 7 then zW2 m d (zchk D d) 14 4 - Int32.ofInt 1 else zW2 m d (zchk D d) 14 7)] (SH, zW2 m d (zchk D d)) _
    rw [e2, e3, e, zmin (by omega) (by omega)]
    refine (ev_append (n := n) (by omega) (by unfold zW2; simp (disch := first | omega | decide) only [h5, zcn, zkpl, zki, zki1, zk8, zk16, zo32, zlt0, zle0, zeq0, zgt0, zLe0, nI_ltI, nI_leI, nI_eq, nI_add, nI_clamp, vp_in_nI, zup_s, zup_n, upd_s, upd_n, ne_eq, not_true_eq_false, not_false_eq_true]) (by omega)).use ?_
    refine zgo 80 [] ?_
    exact ⟨Or.inl rfl, Or.inr rfl, Or.inl rfl, hQ⟩
theorem ev_write_ok {m : zM} {n d : Nat} {D : Nat → Nat} (h : zPre m n d D) (hf : m 14 5 = 0) : Ev 61 [.ref 14] m (some (.int 1)) (zWk m n d (zchk D d)) := by
  obtain ⟨h1, h2, h3, h4, h5, h6⟩ := id h
  intro Q hQ
  refine zgo 80 [] ?_
  refine ⟨by show vp_in _ _; simp (disch := first | omega | decide) only [zcn, zkpl, zki, zki1, zk8, zk16, zo32, zlt0, zle0, zeq0, zgt0, zLe0, nI_ltI, nI_leI, nI_eq, nI_add, nI_clamp, vp_in_nI, zup_s, zup_n, upd_s, upd_n, ne_eq, not_true_eq_false, not_false_eq_true], ?_⟩
  refine zcm (m := zup m 16 1 (nI (d - 2))) (by simp (disch := first | omega | decide) only [h1, pk_sub, zcn, zkpl, zki, zki1, zk8, zk16, zo32, zlt0, zle0, zeq0, zgt0, zLe0, nI_ltI, nI_leI, nI_eq, nI_add, nI_clamp, vp_in_nI, zup_s, zup_n, upd_s, upd_n, ne_eq, not_true_eq_false, not_false_eq_true]) ((zPre_chk h).use ?_)
  refine zgo 80 [] ?_
  refine (ev_add (d := d) (nI (zchk D d)) (by simp (disch := first | omega | decide) only [h1, zcn, zkpl, zki, zki1, zk8, zk16, zo32, zlt0, zle0, zeq0, zgt0, zLe0, nI_ltI, nI_leI, nI_eq, nI_add, nI_clamp, vp_in_nI, zup_s, zup_n, upd_s, upd_n, ne_eq, not_true_eq_false, not_false_eq_true]) (by omega)).use ?_
  refine zgo 80 [] ?_
  have e2 : zW2 m d (zchk D d) 14 4 = nI (d + 1) := by unfold zW2; rw [zup_s, upd_s]
  refine ⟨fun _ => ⟨fun _ => ?_, fun hcc => ?_⟩, fun hcc => ?_⟩
  · show ZM 63 0 0 [.ref 14, .int (zW2 m d (zchk D d) 14 4)] (SH, zW2 m d (zchk D d)) _
    rw [e2]
    refine (ev_append (n := n) (by omega) (by unfold zW2; simp (disch := first | omega | decide) only [h5, zcn, zkpl, zki, zki1, zk8, zk16, zo32, zlt0, zle0, zeq0, zgt0, zLe0, nI_ltI, nI_leI, nI_eq, nI_add, nI_clamp, vp_in_nI, zup_s, zup_n, upd_s, upd_n, ne_eq, not_true_eq_false, not_false_eq_true]) (by omega)).use ?_
    refine zgo 80 [] ?_
    refine ⟨Or.inr rfl, ?_⟩
    refine zcq rfl ?_ hQ
    show zup (zapp (zW2 m d (zchk D d)) n 0 (d + 1)) 14 2 (zapp (zW2 m d (zchk D d)) n 0 (d + 1) 14 1) = _
    rw [zapp_len _ _ _ _ (by unfold zW2; simp (disch := first | omega | decide) only [h5, zcn, zkpl, zki, zki1, zk8, zk16, zo32, zlt0, zle0, zeq0, zgt0, zLe0, nI_ltI, nI_leI, nI_eq, nI_add, nI_clamp, vp_in_nI, zup_s, zup_n, upd_s, upd_n, ne_eq, not_true_eq_false, not_false_eq_true])]
    rfl
  · exfalso
    simp (disch := first | omega | decide) only [hf, not_true_eq_false, zcn, zkpl, zki, zki1, zk8, zk16, zo32, zlt0, zle0, zeq0, zgt0, zLe0, nI_ltI, nI_leI, nI_eq, nI_add, nI_clamp, vp_in_nI, zup_s, zup_n, upd_s, upd_n, ne_eq, not_true_eq_false, not_false_eq_true] at hcc
  · exfalso
    simp (disch := first | omega | decide) only [hf, not_true_eq_false, zcn, zkpl, zki, zki1, zk8, zk16, zo32, zlt0, zle0, zeq0, zgt0, zLe0, nI_ltI, nI_leI, nI_eq, nI_add, nI_clamp, vp_in_nI, zup_s, zup_n, upd_s, upd_n, ne_eq, not_true_eq_false, not_false_eq_true] at hcc
theorem ev_write_okl {m : zM} {n d l : Nat} {D : Nat → Nat} (h : zPre m n d D) (hf : m 14 5 = 1) (hl : m 14 6 = nI (l + 1)) (hl2 : l ≤ 50) : Ev 61 [.ref 14] m (some (.int 1)) (zup (zapp (zup (zW2 m d (zchk D d)) 14 6 (nI l)) n 0 (d + 1)) 14 2 (nI (n + (d + 1)))) := by
  obtain ⟨h1, h2, h3, h4, h5, h6⟩ := id h
  intro Q hQ
  refine zgo 80 [] ?_
  refine ⟨by show vp_in _ _; simp (disch := first | omega | decide) only [zcn, zkpl, zki, zki1, zk8, zk16, zo32, zlt0, zle0, zeq0, zgt0, zLe0, nI_ltI, nI_leI, nI_eq, nI_add, nI_clamp, vp_in_nI, zup_s, zup_n, upd_s, upd_n, ne_eq, not_true_eq_false, not_false_eq_true], ?_⟩
  refine zcm (m := zup m 16 1 (nI (d - 2))) (by simp (disch := first | omega | decide) only [h1, pk_sub, zcn, zkpl, zki, zki1, zk8, zk16, zo32, zlt0, zle0, zeq0, zgt0, zLe0, nI_ltI, nI_leI, nI_eq, nI_add, nI_clamp, vp_in_nI, zup_s, zup_n, upd_s, upd_n, ne_eq, not_true_eq_false, not_false_eq_true]) ((zPre_chk h).use ?_)
  refine zgo 80 [] ?_
  refine (ev_add (d := d) (nI (zchk D d)) (by simp (disch := first | omega | decide) only [h1, zcn, zkpl, zki, zki1, zk8, zk16, zo32, zlt0, zle0, zeq0, zgt0, zLe0, nI_ltI, nI_leI, nI_eq, nI_add, nI_clamp, vp_in_nI, zup_s, zup_n, upd_s, upd_n, ne_eq, not_true_eq_false, not_false_eq_true]) (by omega)).use ?_
  refine zgo 80 [] ?_
  refine ⟨fun hcc => ?_, fun _ => ⟨fun _ => ⟨fun hcc => ?_, fun _ => ?_⟩, fun hcc => ?_⟩⟩
  · exfalso
    simp (disch := first | omega | decide) only [hf, z10, zcn, zkpl, zki, zki1, zk8, zk16, zo32, zlt0, zle0, zeq0, zgt0, zLe0, nI_ltI, nI_leI, nI_eq, nI_add, nI_clamp, vp_in_nI, zup_s, zup_n, upd_s, upd_n, ne_eq, not_true_eq_false, not_false_eq_true] at hcc
  · exfalso
    simp (disch := first | omega | decide) only [hf, z10, zcn, zkpl, zki, zki1, zk8, zk16, zo32, zlt0, zle0, zeq0, zgt0, zLe0, nI_ltI, nI_leI, nI_eq, nI_add, nI_clamp, vp_in_nI, zup_s, zup_n, upd_s, upd_n, ne_eq, not_true_eq_false, not_false_eq_true] at hcc
  · have eX : zup (zW2 m d (zchk D d)) 14 6 (zW2 m d (zchk D d) 14 6 - Int32.ofInt 1) = zup (zW2 m d (zchk D d)) 14 6 (nI l) := by
      have : zW2 m d (zchk D d) 14 6 = nI (l + 1) := by unfold zW2; simp (disch := first | omega | decide) only [hl, zcn, zkpl, zki, zki1, zk8, zk16, zo32, zlt0, zle0, zeq0, zgt0, zLe0, nI_ltI, nI_leI, nI_eq, nI_add, nI_clamp, vp_in_nI, zup_s, zup_n, upd_s, upd_n, ne_eq, not_true_eq_false, not_false_eq_true]
      rw [this, zki, pk_sub (by omega), Nat.add_sub_cancel]
    have e2 : zup (zW2 m d (zchk D d)) 14 6 (nI l) 14 4 = nI (d + 1) := by unfold zW2; simp (disch := first | omega | decide) only [zcn, zkpl, zki, zki1, zk8, zk16, zo32, zlt0, zle0, zeq0, zgt0, zLe0, nI_ltI, nI_leI, nI_eq, nI_add, nI_clamp, vp_in_nI, zup_s, zup_n, upd_s, upd_n, ne_eq, not_true_eq_false, not_false_eq_true]
    show ZM 63 0 0 [.ref 14, .int (zup (zW2 m d (zchk D d)) 14 6 (zW2 m d (zchk D d) 14 6 - Int32.ofInt 1) 14 4)] (SH, zup (zW2 m d (zchk D d)) 14 6 (zW2 m d (zchk D d) 14 6 - Int32.ofInt 1)) _
    rw [eX, e2]
    refine (ev_append (n := n) (by omega) (by unfold zW2; simp (disch := first | omega | decide) only [h5, zcn, zkpl, zki, zki1, zk8, zk16, zo32, zlt0, zle0, zeq0, zgt0, zLe0, nI_ltI, nI_leI, nI_eq, nI_add, nI_clamp, vp_in_nI, zup_s, zup_n, upd_s, upd_n, ne_eq, not_true_eq_false, not_false_eq_true]) (by omega)).use ?_
    refine zgo 80 [] ?_
    refine ⟨Or.inr rfl, ?_⟩
    refine zcq rfl ?_ hQ
    show zup (zapp _ n 0 (d + 1)) 14 2 (zapp _ n 0 (d + 1) 14 1) = _
    rw [zapp_len _ _ _ _ (by unfold zW2; simp (disch := first | omega | decide) only [h5, zcn, zkpl, zki, zki1, zk8, zk16, zo32, zlt0, zle0, zeq0, zgt0, zLe0, nI_ltI, nI_leI, nI_eq, nI_add, nI_clamp, vp_in_nI, zup_s, zup_n, upd_s, upd_n, ne_eq, not_true_eq_false, not_false_eq_true])]
  · exfalso
    simp (disch := first | omega | decide) only [hl, zcn, zkpl, zki, zki1, zk8, zk16, zo32, zlt0, zle0, zeq0, zgt0, zLe0, nI_ltI, nI_leI, nI_eq, nI_add, nI_clamp, vp_in_nI, zup_s, zup_n, upd_s, upd_n, ne_eq, not_true_eq_false, not_false_eq_true] at hcc
    omega
/-- the draft behind write(): the record's bytes -/
theorem zW2_rec {m : zM} {n d : Nat} {D : Nat → Nat} (h : zPre m n d D) {j : Nat} (hj : j < d + 1) : zW2 m d (zchk D d) 16 j = nI (zrec D d j) ∧ zrec D d j < 256 := by
  obtain ⟨h1, h2, h3, h4, h5, h6⟩ := h
  unfold zW2 zrec zchk
  by_cases e : j = d
  · subst e
    rw [if_pos rfl]
    refine ⟨by simp (disch := first | omega | decide) only [zcn, zkpl, zki, zki1, zk8, zk16, zo32, zlt0, zle0, zeq0, zgt0, zLe0, nI_ltI, nI_leI, nI_eq, nI_add, nI_clamp, vp_in_nI, zup_s, zup_n, upd_s, upd_n, ne_eq, not_true_eq_false, not_false_eq_true], ?_⟩
    have := Nat.mod_lt (nsum (fun i => if i = 1 then j - 2 else D i) 0 j) (show 251 > 0 by decide)
    omega
  · rw [if_neg e]
    by_cases e1 : j = 1
    · subst e1
      rw [if_pos rfl]
      exact ⟨by simp (disch := first | omega | decide) only [zcn, zkpl, zki, zki1, zk8, zk16, zo32, zlt0, zle0, zeq0, zgt0, zLe0, nI_ltI, nI_leI, nI_eq, nI_add, nI_clamp, vp_in_nI, zup_s, zup_n, upd_s, upd_n, ne_eq, not_true_eq_false, not_false_eq_true], by omega⟩
    · rw [if_neg e1]
      obtain ⟨q1, q2⟩ := h4 j (by omega)
      exact ⟨by simp (disch := first | omega | decide) only [q2, zcn, zkpl, zki, zki1, zk8, zk16, zo32, zlt0, zle0, zeq0, zgt0, zLe0, nI_ltI, nI_leI, nI_eq, nI_add, nI_clamp, vp_in_nI, zup_s, zup_n, upd_s, upd_n, ne_eq, not_true_eq_false, not_false_eq_true], q1⟩
theorem zbyte {b : Nat} (h : b < 256) : (nI b).toInt8.toInt32 &&& 255 = nI b := sc_k8 b h
