/-! the model's write -/
theorem nsum_ext {f g : Nat → Nat} : ∀ (n i : Nat), (∀ j, i ≤ j → j < i + n → f j = g j) → nsum f i n = nsum g i n
  | 0, _, _ => rfl
  | n + 1, i, h => by
    show f i + nsum f (i + 1) n = g i + nsum g (i + 1) n
    rw [h i (Nat.le_refl _) (by omega), nsum_ext n (i + 1) (fun j h1 h2 => h j (by omega) (by omega))]
theorem nsum_shift {f : Nat → Nat} (s : Nat) : ∀ (n i : Nat), nsum f (i + s) n = nsum (fun j => f (j + s)) i n
  | 0, _ => rfl
  | n + 1, i => by
    show f (i + s) + nsum f (i + s + 1) n = f (i + s) + nsum (fun j => f (j + s)) (i + 1) n
    rw [show i + s + 1 = (i + 1) + s by omega, nsum_shift s n (i + 1)]
/-- what the model's write(kind) needs -/
def mPre (u : zM) (n d : Nat) (D : Nat → Nat) : Prop := u 42 34 = nI (d - 2) ∧ 3 ≤ d ∧ d ≤ 257 ∧ (∀ j, j < d → D j < 256) ∧ (∀ j, 2 ≤ j → j < d → u 57 (j - 2) = nI (D j)) ∧ u 42 36 = nI n ∧ n + (d + 1) ≤ 5247
theorem mchk {D : Nat → Nat} {d : Nat} (h : 3 ≤ d) : zchk D d = (D 0 + (d - 2) + nsum (fun j => D (j + 2)) 0 (d - 2)) % 251 := by
  unfold zchk
  obtain ⟨e, rfl⟩ : ∃ e, d = e + 2 := ⟨d - 2, by omega⟩
  show (D 0 + (e + nsum (fun i => if i = 1 then e else D i) (0 + 2) e)) % 251 = _
  rw [nsum_shift 2 e 0, nsum_ext (g := fun j => D (j + 2)) e 0 (fun j _ _ => by show (if j + 2 = 1 then e else D (j + 2)) = _; rw [if_neg (by omega)])]
  rw [Nat.add_sub_cancel, Nat.add_assoc]
theorem mw_sum {u : zM} {sz n : Nat} {B : Nat → Nat} (h1 : u 42 34 = nI sz) (h2 : sz ≤ 256) (hB : ∀ j, j < sz → u 57 j = nI (B j)) (hBs : ∀ j, j < sz → B j < 256) (Q : zQ) (k s0 : Nat) (hk : k < 256) (hs0 : s0 ≤ 1000) : ∀ (c i : Nat) (x s : Int32), i + c = sz → x = nI i → s = nI (s0 + nsum B 0 i) → (∀ (y t : Int32), y = nI sz → t = nI (s0 + nsum B 0 sz) → ZW 190 (0, 0, 0, 0) 40 [(4, .int y), (3, .int t), (2, .int (nI n)), (0, .ref 42), (1, .int (nI k))] [] (SH, u) Q) → ZW 190 (0, 0, 0, 0) 15 [(4, .int x), (3, .int s), (2, .int (nI n)), (0, .ref 42), (1, .int (nI k))] [] (SH, u) Q := by
  intro c
  induction c with
  | zero =>
    intro i x s hi hx hs hQ
    refine zgo 4 [] ?_
    refine ⟨fun _ => ?_, fun hc => absurd ?_ hc⟩
    · have : i = sz := by omega
      subst this
      exact hQ _ _ hx hs
    · show u 42 34 ≤ x
      rw [h1, hx]; exact nI_le (by omega) (by omega)
  | succ c ih =>
    intro i x s hi hx hs hQ
    refine zgo 40 [] ?_
    refine ⟨fun hc => absurd (show u 42 34 ≤ x from hc) ?_, fun _ => ⟨?_, ?_⟩⟩
    · rw [h1, hx]; exact nI_ge (by omega) (by omega)
    · show vp_in _ _
      simp (disch := first | omega | decide) only [hx, zcn, zkpl, zki, zki1, zk8, zk16, zo32, zlt0, zle0, zeq0, zgt0, zLe0, nI_ltI, nI_leI, nI_eq, nI_add, nI_clamp, vp_in_nI, zup_s, zup_n, upd_s, upd_n, ne_eq, not_true_eq_false, not_false_eq_true]
    · refine ih (i + 1) _ _ (by omega) (show x + Int32.ofInt 1 = nI (i + 1) by rw [hx, zki, nI_add]) ?_ hQ
      show s + u 57 x.toNatClampNeg = _
      have e : nsum B 0 (i + 1) = nsum B 0 i + B i := by
        have : ∀ (n a : Nat), nsum B a (n + 1) = nsum B a n + B (a + n) := by
          intro n
          induction n with
          | zero => intro a; show B a + 0 = 0 + B (a + 0); rw [Nat.add_zero, Nat.add_zero, Nat.zero_add]
          | succ n ihn =>
            intro a
            show B a + nsum B (a + 1) (n + 1) = B a + nsum B (a + 1) n + B (a + (n + 1))
            rw [ihn (a + 1), show a + 1 + n = a + (n + 1) by omega, Nat.add_assoc]
        rw [this i 0, Nat.zero_add]
      rw [hs, hx, nI_clamp (by omega), hB i (by omega), nI_add, e, Nat.add_assoc]
def zwj (u : zM) (n : Nat) (R : Nat → Nat) (i : Nat) : Nat → zM
  | 0 => u
  | k + 1 => zwj (zup u 58 (n + i) (nI (R i))) n R (i + 1) k
theorem zwj_far {a : Nat} (h : a ≠ 58) : ∀ (k : Nat) (u : zM) (n : Nat) (R : Nat → Nat) (i : Nat), zwj u n R i k a = u a
  | 0, _, _, _, _ => rfl
  | k + 1, u, n, R, i => by
    show zwj _ n R (i + 1) k a = u a
    rw [zwj_far h k, zup_n _ h]
theorem zwj_old : ∀ (k : Nat) (u : zM) (n : Nat) (R : Nat → Nat) (i j : Nat), j < n + i → zwj u n R i k 58 j = u 58 j
  | 0, _, _, _, _, _, _ => rfl
  | k + 1, u, n, R, i, j, h => by
    show zwj _ n R (i + 1) k 58 j = _
    rw [zwj_old k _ _ _ _ _ (by omega), zup_s, upd_n _ (by omega)]
theorem zwj_new : ∀ (k : Nat) (u : zM) (n : Nat) (R : Nat → Nat) (i j : Nat), i ≤ j → j < i + k → zwj u n R i k 58 (n + j) = nI (R j)
  | 0, _, _, _, _, _, h1, h2 => absurd h2 (by omega)
  | k + 1, u, n, R, i, j, h1, h2 => by
    show zwj _ n R (i + 1) k 58 (n + j) = _
    by_cases e : j = i
    · subst e
      rw [zwj_old k _ _ _ _ _ (by omega), zup_s, upd_s]
    · exact zwj_new k _ _ _ _ _ (by omega) (by omega)
/-- the second loop: the bytes go behind the journal -/
theorem mw_loop2 {n d ck kd cnt : Nat} {D : Nat → Nat} (h2 : 3 ≤ d) (h3 : d ≤ 257) (hD : ∀ j, j < d → D j < 256) (hkd : kd = D 0) (hck : ck % 251 = zchk D d) (hck2 : ck < 100000) (hcnt : cnt ≤ d + 1) (hn : n + (d + 1) ≤ 5247) (Q : zQ) : ∀ (c i : Nat) (u : zM) (x : Int32), i + c = cnt → x = nI i → u 42 34 = nI (d - 2) → (∀ j, 2 ≤ j → j < d → u 57 (j - 2) = nI (D j)) → (∀ (y : Int32), ZW 190 (0, 0, 0, 0) 162 [(6, .int y), (5, .int (nI cnt)), (4, .int (nI (d + 1))), (3, .int (nI ck)), (2, .int (nI n)), (0, .ref 42), (1, .int (nI kd))] [] (SH, zwj u n (zrec D d) i c) Q) → ZW 190 (0, 0, 0, 0) 92 [(6, .int x), (5, .int (nI cnt)), (4, .int (nI (d + 1))), (3, .int (nI ck)), (2, .int (nI n)), (0, .ref 42), (1, .int (nI kd))] [] (SH, u) Q := by
  intro c
  induction c with
  | zero =>
    intro i u x hi hx hsz hrec hQ
    refine zgo 3 [] ?_
    refine ⟨fun _ => hQ _, fun hc => ?_⟩
    exfalso
    simp (disch := first | omega | decide) only [hx, zcn, zkpl, zki, zki1, zk8, zk16, zo32, zlt0, zle0, zeq0, zgt0, zLe0, nI_ltI, nI_leI, nI_eq, nI_add, nI_clamp, vp_in_nI, zup_s, zup_n, upd_s, upd_n, ne_eq, not_true_eq_false, not_false_eq_true] at hc
    omega
  | succ c ih =>
    intro i u x hi hx hsz hrec hQ
    have step : ∀ (v : Int32), v = nI (zrec D d i) → ZW 190 (0, 0, 0, 0) 155 [(6, .int x), (5, .int (nI cnt)), (4, .int (nI (d + 1))), (3, .int (nI ck)), (2, .int (nI n)), (0, .ref 42), (1, .int (nI kd))] [.int v, .int (nI n + x), .ref 58] (SH, u) Q := by
      intro v hv
      refine zgo 60 [] ?_
      refine ⟨?_, ?_⟩
      · show vp_in _ _
        simp (disch := first | omega | decide) only [hx, zcn, zkpl, zki, zki1, zk8, zk16, zo32, zlt0, zle0, zeq0, zgt0, zLe0, nI_ltI, nI_leI, nI_eq, nI_add, nI_clamp, vp_in_nI, zup_s, zup_n, upd_s, upd_n, ne_eq, not_true_eq_false, not_false_eq_true]
      · refine zcg (m := zup u 58 (n + i) (nI (zrec D d i))) ?_ (ih (i + 1) _ _ (by omega) (show x + Int32.ofInt 1 = nI (i + 1) by rw [hx, zki, nI_add]) ?_ ?_ hQ)
        · simp (disch := first | omega | decide) only [hx, hv, zcn, zkpl, zki, zki1, zk8, zk16, zo32, zlt0, zle0, zeq0, zgt0, zLe0, nI_ltI, nI_leI, nI_eq, nI_add, nI_clamp, vp_in_nI, zup_s, zup_n, upd_s, upd_n, ne_eq, not_true_eq_false, not_false_eq_true]
        · simp (disch := first | omega | decide) only [hsz, zcn, zkpl, zki, zki1, zk8, zk16, zo32, zlt0, zle0, zeq0, zgt0, zLe0, nI_ltI, nI_leI, nI_eq, nI_add, nI_clamp, vp_in_nI, zup_s, zup_n, upd_s, upd_n, ne_eq, not_true_eq_false, not_false_eq_true]
        · intro j g1 g2
          simp (disch := first | omega | decide) only [hrec j g1 g2, zcn, zkpl, zki, zki1, zk8, zk16, zo32, zlt0, zle0, zeq0, zgt0, zLe0, nI_ltI, nI_leI, nI_eq, nI_add, nI_clamp, vp_in_nI, zup_s, zup_n, upd_s, upd_n, ne_eq, not_true_eq_false, not_false_eq_true]
    by_cases e0 : i = 0
    · subst e0
      refine zgo 12 [] ?_
      repeat' (first
        | (exact step _ (by rw [hkd]; unfold zrec; rw [if_neg (by omega), if_neg (by omega)]))
        | (show vp_in _ _; simp (disch := first | omega | decide) only [hx, zcn, zkpl, zki, zki1, zk8, zk16, zo32, zlt0, zle0, zeq0, zgt0, zLe0, nI_ltI, nI_leI, nI_eq, nI_add, nI_clamp, vp_in_nI, zup_s, zup_n, upd_s, upd_n, ne_eq, not_true_eq_false, not_false_eq_true]; done)
        | (intro hc; exfalso; simp (disch := first | omega | decide) only [hx, zcn, zkpl, zki, zki1, zk8, zk16, zo32, zlt0, zle0, zeq0, zgt0, zLe0, nI_ltI, nI_leI, nI_eq, nI_add, nI_clamp, vp_in_nI, zup_s, zup_n, upd_s, upd_n, ne_eq, not_true_eq_false, not_false_eq_true] at hc <;> omega)
        | (intro hc; exact absurd rfl hc)
        | intro hc
        | apply And.intro
        | exact Or.inl rfl
        | exact Or.inr rfl
        | (show (_ : Int32) = 0 ∨ _ = 1; simp (disch := first | omega | decide) only [hx, zcn, zkpl, zki, zki1, zk8, zk16, zo32, zlt0, zle0, zeq0, zgt0, zLe0, nI_ltI, nI_leI, nI_eq, nI_add, nI_clamp, vp_in_nI, zup_s, zup_n, upd_s, upd_n, ne_eq, not_true_eq_false, not_false_eq_true, zeq1, true_or, or_true]; done))
    · by_cases e1 : i = 1
      · subst e1
        refine zgo 16 [] ?_
        repeat' (first
          | (exact step _ (by show u 42 34 = _; rw [hsz]; unfold zrec; rw [if_neg (by omega), if_pos rfl]))
          | (show vp_in _ _; simp (disch := first | omega | decide) only [hx, zcn, zkpl, zki, zki1, zk8, zk16, zo32, zlt0, zle0, zeq0, zgt0, zLe0, nI_ltI, nI_leI, nI_eq, nI_add, nI_clamp, vp_in_nI, zup_s, zup_n, upd_s, upd_n, ne_eq, not_true_eq_false, not_false_eq_true]; done)
          | (intro hc; exfalso; simp (disch := first | omega | decide) only [hx, zcn, zkpl, zki, zki1, zk8, zk16, zo32, zlt0, zle0, zeq0, zgt0, zLe0, nI_ltI, nI_leI, nI_eq, nI_add, nI_clamp, vp_in_nI, zup_s, zup_n, upd_s, upd_n, ne_eq, not_true_eq_false, not_false_eq_true] at hc <;> omega)
          | (intro hc; exact absurd rfl hc)
          | intro hc
          | apply And.intro
          | exact Or.inl rfl
          | exact Or.inr rfl
          | (show (_ : Int32) = 0 ∨ _ = 1; simp (disch := first | omega | decide) only [hx, zcn, zkpl, zki, zki1, zk8, zk16, zo32, zlt0, zle0, zeq0, zgt0, zLe0, nI_ltI, nI_leI, nI_eq, nI_add, nI_clamp, vp_in_nI, zup_s, zup_n, upd_s, upd_n, ne_eq, not_true_eq_false, not_false_eq_true, zeq1, true_or, or_true]; done))
      · by_cases e2 : i = d
        · subst e2
          have hz : nI ck - nI ck / (Int16.ofInt 251).toInt32 * (Int16.ofInt 251).toInt32 = nI (zrec D i i) := by
            rw [show (Int16.ofInt 251).toInt32 = nI 251 by decide, pk_rem (by omega) (by decide) (by decide), hck]
            unfold zrec zchk
            rw [if_pos rfl]
          refine zgo 22 [] ?_
          repeat' (first
            | (exact step _ hz)
            | (show vp_in _ _; simp (disch := first | omega | decide) only [hx, pk_sub, Nat.add_sub_cancel, zcn, zkpl, zki, zki1, zk8, zk16, zo32, zlt0, zle0, zeq0, zgt0, zLe0, nI_ltI, nI_leI, nI_eq, nI_add, nI_clamp, vp_in_nI, zup_s, zup_n, upd_s, upd_n, ne_eq, not_true_eq_false, not_false_eq_true]; done)
            | (intro hc; exfalso; simp (disch := first | omega | decide) only [hx, pk_sub, Nat.add_sub_cancel, zcn, zkpl, zki, zki1, zk8, zk16, zo32, zlt0, zle0, zeq0, zgt0, zLe0, nI_ltI, nI_leI, nI_eq, nI_add, nI_clamp, vp_in_nI, zup_s, zup_n, upd_s, upd_n, ne_eq, not_true_eq_false, not_false_eq_true] at hc <;> omega)
            | (intro hc; exact absurd rfl hc)
            | intro hc
            | apply And.intro
            | exact Or.inl rfl
            | exact Or.inr rfl
            | (show (_ : Int32) = 0 ∨ _ = 1; simp (disch := first | omega | decide) only [hx, pk_sub, Nat.add_sub_cancel, zcn, zkpl, zki, zki1, zk8, zk16, zo32, zlt0, zle0, zeq0, zgt0, zLe0, nI_ltI, nI_leI, nI_eq, nI_add, nI_clamp, vp_in_nI, zup_s, zup_n, upd_s, upd_n, ne_eq, not_true_eq_false, not_false_eq_true, zeq1, true_or, or_true]; done))
        · have hz : u 57 (i - 2) = nI (zrec D d i) := by
            rw [hrec i (by omega) (by omega)]
            unfold zrec
            rw [if_neg e2, if_neg e1]
          refine zgo 24 [] ?_
          repeat' (first
            | (exact step _ (by simp (disch := first | omega | decide) only [hx, pk_sub, hz, zcn, zkpl, zki, zki1, zk8, zk16, zo32, zlt0, zle0, zeq0, zgt0, zLe0, nI_ltI, nI_leI, nI_eq, nI_add, nI_clamp, vp_in_nI, zup_s, zup_n, upd_s, upd_n, ne_eq, not_true_eq_false, not_false_eq_true]))
            | (show vp_in _ _; simp (disch := first | omega | decide) only [hx, pk_sub, Nat.add_sub_cancel, zcn, zkpl, zki, zki1, zk8, zk16, zo32, zlt0, zle0, zeq0, zgt0, zLe0, nI_ltI, nI_leI, nI_eq, nI_add, nI_clamp, vp_in_nI, zup_s, zup_n, upd_s, upd_n, ne_eq, not_true_eq_false, not_false_eq_true]; done)
            | (intro hc; exfalso; simp (disch := first | omega | decide) only [hx, pk_sub, Nat.add_sub_cancel, zcn, zkpl, zki, zki1, zk8, zk16, zo32, zlt0, zle0, zeq0, zgt0, zLe0, nI_ltI, nI_leI, nI_eq, nI_add, nI_clamp, vp_in_nI, zup_s, zup_n, upd_s, upd_n, ne_eq, not_true_eq_false, not_false_eq_true] at hc <;> omega)
            | (intro hc; exact absurd rfl hc)
            | intro hc
            | apply And.intro
            | exact Or.inl rfl
            | exact Or.inr rfl
            | (show (_ : Int32) = 0 ∨ _ = 1; simp (disch := first | omega | decide) only [hx, pk_sub, Nat.add_sub_cancel, zcn, zkpl, zki, zki1, zk8, zk16, zo32, zlt0, zle0, zeq0, zgt0, zLe0, nI_ltI, nI_leI, nI_eq, nI_add, nI_clamp, vp_in_nI, zup_s, zup_n, upd_s, upd_n, ne_eq, not_true_eq_false, not_false_eq_true, zeq1, true_or, or_true]; done))
theorem mw_fin {u' : zM} {p : Int32} {n cnt kd : Nat} {w3 w4 : Int32} (Q : zQ) (f : Int32) (hf : f = 0 ∨ f = 1) (hQ : Q (some (.int (1 - f))) (SH, u')) : ZW 190 (0, 0, 0, 0) 233 [(6, .int f), (5, .int (nI cnt)), (4, .int w4), (3, .int w3), (2, .int (nI n)), (0, .ref 42), (1, .int (nI kd))] [.int p] (SH, u') Q := by
  refine zgo 10 [] ?_
  rcases hf with rfl | rfl
  · exact ⟨fun hc => absurd rfl hc, fun _ => ⟨Or.inr rfl, hQ⟩⟩
  · exact ⟨fun _ => ⟨Or.inl rfl, hQ⟩, fun hc => absurd (show ¬ (1 : Int32) = 0 by decide) hc⟩
theorem zm1lt : ((-1 : Int32) < 0) = True := by decide
theorem zm1ge : ((0 : Int32) ≤ -1) = False := by decide
theorem zm1eq : ((-1 : Int32) = 0) = False := by decide
theorem z01 : (0 : Int32) - Int32.ofInt 1 = -1 := by decide
theorem z00 : ((0 : Int32) < 0) = False := by decide
theorem z0le : ((0 : Int32) ≤ 0) = True := by decide
theorem mw_endA {u u' : zM} {p : Int32} {n cnt kd : Nat} (h4 : u 42 4 = -1) (h36 : u 42 36 = nI n) (h3 : u 42 3 = 0) (hre : Ev 203 [.ref 42] (zup (zup (zup u 42 36 (nI (n + cnt))) 42 4 (-1)) 42 3 0) (some (.int p)) u') (Q : zQ) (hQ : Q (some (.int 1)) (SH, u')) (y w4 w3 : Int32) : ZW 190 (0, 0, 0, 0) 162 [(6, .int y), (5, .int (nI cnt)), (4, .int w4), (3, .int w3), (2, .int (nI n)), (0, .ref 42), (1, .int (nI kd))] [] (SH, u) Q := by
  refine zgo 60 [] ?_
  repeat' (first
    | (exact zcm (by simp (disch := first | omega | decide) only [h36, h3, h4, zm1lt, zm1ge, zm1eq, zki1, zcn, zkpl, zki, zki1, zk8, zk16, zo32, zlt0, zle0, zeq0, zgt0, zLe0, nI_ltI, nI_leI, nI_eq, nI_add, nI_clamp, vp_in_nI, zup_s, zup_n, upd_s, upd_n, ne_eq, not_true_eq_false, not_false_eq_true] <;> rfl) (hre.use (mw_fin Q _ (by first | exact Or.inl rfl | exact Or.inr rfl) hQ)))
    | (show vp_in _ _; simp (disch := first | omega | decide) only [h36, h3, h4, zm1lt, zm1ge, zm1eq, zki1, z10, zcn, zkpl, zki, zki1, zk8, zk16, zo32, zlt0, zle0, zeq0, zgt0, zLe0, nI_ltI, nI_leI, nI_eq, nI_add, nI_clamp, vp_in_nI, zup_s, zup_n, upd_s, upd_n, ne_eq, not_true_eq_false, not_false_eq_true]; done)
    | (intro hc; exfalso; simp (disch := first | omega | decide) only [h36, h3, h4, zm1lt, zm1ge, zm1eq, zki1, z10, zcn, zkpl, zki, zki1, zk8, zk16, zo32, zlt0, zle0, zeq0, zgt0, zLe0, nI_ltI, nI_leI, nI_eq, nI_add, nI_clamp, vp_in_nI, zup_s, zup_n, upd_s, upd_n, ne_eq, not_true_eq_false, not_false_eq_true] at hc <;> omega)
    | (intro hc; exact absurd rfl hc)
    | intro hc
    | apply And.intro
    | exact Or.inl rfl
    | exact Or.inr rfl
    | (show (_ : Int32) = 0 ∨ _ = 1; simp (disch := first | omega | decide) only [h36, h3, h4, zm1lt, zm1ge, zm1eq, zki1, z10, zcn, zkpl, zki, zki1, zk8, zk16, zo32, zlt0, zle0, zeq0, zgt0, zLe0, nI_ltI, nI_leI, nI_eq, nI_add, nI_clamp, vp_in_nI, zup_s, zup_n, upd_s, upd_n, ne_eq, not_true_eq_false, not_false_eq_true, zeq1, true_or, or_true]; done))
theorem mw_endB {u u' : zM} {p : Int32} {n cnt kd : Nat} {l : Nat} (hl : l ≤ 50) (h4 : u 42 4 = nI (l + 1)) (h36 : u 42 36 = nI n) (h3 : u 42 3 = 0) (hre : Ev 203 [.ref 42] (zup (zup (zup u 42 36 (nI (n + cnt))) 42 4 (nI l)) 42 3 0) (some (.int p)) u') (Q : zQ) (hQ : Q (some (.int 1)) (SH, u')) (y w4 w3 : Int32) : ZW 190 (0, 0, 0, 0) 162 [(6, .int y), (5, .int (nI cnt)), (4, .int w4), (3, .int w3), (2, .int (nI n)), (0, .ref 42), (1, .int (nI kd))] [] (SH, u) Q := by
  refine zgo 60 [] ?_
  repeat' (first
    | (exact zcm (by simp (disch := first | omega | decide) only [h36, h3, h4, pk_sub, Nat.add_sub_cancel, zki1, zcn, zkpl, zki, zki1, zk8, zk16, zo32, zlt0, zle0, zeq0, zgt0, zLe0, nI_ltI, nI_leI, nI_eq, nI_add, nI_clamp, vp_in_nI, zup_s, zup_n, upd_s, upd_n, ne_eq, not_true_eq_false, not_false_eq_true] <;> rfl) (hre.use (mw_fin Q _ (by first | exact Or.inl rfl | exact Or.inr rfl) hQ)))
    | (show vp_in _ _; simp (disch := first | omega | decide) only [h36, h3, h4, pk_sub, Nat.add_sub_cancel, zki1, z10, zcn, zkpl, zki, zki1, zk8, zk16, zo32, zlt0, zle0, zeq0, zgt0, zLe0, nI_ltI, nI_leI, nI_eq, nI_add, nI_clamp, vp_in_nI, zup_s, zup_n, upd_s, upd_n, ne_eq, not_true_eq_false, not_false_eq_true]; done)
    | (intro hc; exfalso; simp (disch := first | omega | decide) only [h36, h3, h4, pk_sub, Nat.add_sub_cancel, zki1, z10, zcn, zkpl, zki, zki1, zk8, zk16, zo32, zlt0, zle0, zeq0, zgt0, zLe0, nI_ltI, nI_leI, nI_eq, nI_add, nI_clamp, vp_in_nI, zup_s, zup_n, upd_s, upd_n, ne_eq, not_true_eq_false, not_false_eq_true] at hc <;> omega)
    | (intro hc; exact absurd rfl hc)
    | intro hc
    | apply And.intro
    | exact Or.inl rfl
    | exact Or.inr rfl
    | (show (_ : Int32) = 0 ∨ _ = 1; simp (disch := first | omega | decide) only [h36, h3, h4, pk_sub, Nat.add_sub_cancel, zki1, z10, zcn, zkpl, zki, zki1, zk8, zk16, zo32, zlt0, zle0, zeq0, zgt0, zLe0, nI_ltI, nI_leI, nI_eq, nI_add, nI_clamp, vp_in_nI, zup_s, zup_n, upd_s, upd_n, ne_eq, not_true_eq_false, not_false_eq_true, zeq1, true_or, or_true]; done))
theorem mw_endC {u u' : zM} {p : Int32} {n cnt kd : Nat} (h4 : u 42 4 = 0) (h36 : u 42 36 = nI n) (h3 : u 42 3 = 0) (hre : Ev 203 [.ref 42] (zup (zup (zup u 42 36 (nI (n + cnt))) 42 4 (-1)) 42 3 1) (some (.int p)) u') (Q : zQ) (hQ : Q (some (.int 0)) (SH, u')) (y w4 w3 : Int32) : ZW 190 (0, 0, 0, 0) 162 [(6, .int y), (5, .int (nI cnt)), (4, .int w4), (3, .int w3), (2, .int (nI n)), (0, .ref 42), (1, .int (nI kd))] [] (SH, u) Q := by
  refine zgo 60 [] ?_
  repeat' (first
    | (exact zcm (by simp (disch := first | omega | decide) only [h36, h3, h4, z00, z0le, z01, zki1, zcn, zkpl, zki, zki1, zk8, zk16, zo32, zlt0, zle0, zeq0, zgt0, zLe0, nI_ltI, nI_leI, nI_eq, nI_add, nI_clamp, vp_in_nI, zup_s, zup_n, upd_s, upd_n, ne_eq, not_true_eq_false, not_false_eq_true] <;> rfl) (hre.use (mw_fin Q _ (by first | exact Or.inl rfl | exact Or.inr rfl) hQ)))
    | (show vp_in _ _; simp (disch := first | omega | decide) only [h36, h3, h4, z00, z0le, z01, zki1, z10, zcn, zkpl, zki, zki1, zk8, zk16, zo32, zlt0, zle0, zeq0, zgt0, zLe0, nI_ltI, nI_leI, nI_eq, nI_add, nI_clamp, vp_in_nI, zup_s, zup_n, upd_s, upd_n, ne_eq, not_true_eq_false, not_false_eq_true]; done)
    | (intro hc; exfalso; simp (disch := first | omega | decide) only [h36, h3, h4, z00, z0le, z01, zki1, z10, zcn, zkpl, zki, zki1, zk8, zk16, zo32, zlt0, zle0, zeq0, zgt0, zLe0, nI_ltI, nI_leI, nI_eq, nI_add, nI_clamp, vp_in_nI, zup_s, zup_n, upd_s, upd_n, ne_eq, not_true_eq_false, not_false_eq_true] at hc <;> omega)
    | (intro hc; exact absurd rfl hc)
    | intro hc
    | apply And.intro
    | exact Or.inl rfl
    | exact Or.inr rfl
    | (show (_ : Int32) = 0 ∨ _ = 1; simp (disch := first | omega | decide) only [h36, h3, h4, z00, z0le, z01, zki1, z10, zcn, zkpl, zki, zki1, zk8, zk16, zo32, zlt0, zle0, zeq0, zgt0, zLe0, nI_ltI, nI_leI, nI_eq, nI_add, nI_clamp, vp_in_nI, zup_s, zup_n, upd_s, upd_n, ne_eq, not_true_eq_false, not_false_eq_true, zeq1, true_or, or_true]; done))
/-- the model's write(kind): all bytes -/
def mU (u : zM) (n d cnt : Nat) (D : Nat → Nat) (a f : Int32) : zM := zup (zup (zup (zwj u n (zrec D d) 0 cnt) 42 36 (nI (n + cnt))) 42 4 a) 42 3 f
theorem mw_start {u : zM} {n d cnt : Nat} {D : Nat → Nat} (h : mPre u n d D) (Q : zQ) (hcnt : cnt ≤ d + 1)
    (h40 : ∀ (y t : Int32), (∀ (x : Int32), x = nI 0 → ZW 190 (0, 0, 0, 0) 92 [(6, .int x), (5, .int (nI cnt)), (4, .int (nI (d + 1))), (3, .int t), (2, .int (nI n)), (0, .ref 42), (1, .int (nI (D 0)))] [] (SH, u) Q) → ZW 190 (0, 0, 0, 0) 40 [(4, .int y), (3, .int t), (2, .int (nI n)), (0, .ref 42), (1, .int (nI (D 0)))] [] (SH, u) Q)
    (hend : ∀ (y w4 w3 : Int32), ZW 190 (0, 0, 0, 0) 162 [(6, .int y), (5, .int (nI cnt)), (4, .int w4), (3, .int w3), (2, .int (nI n)), (0, .ref 42), (1, .int (nI (D 0)))] [] (SH, zwj u n (zrec D d) 0 cnt) Q) : ZM 190 0 0 [.ref 42, .int (nI (D 0))] (SH, u) Q := by
  obtain ⟨h1, h2, h3, h4, h5, h6, h7⟩ := h
  refine zgo 20 [] ?_
  show ZW 190 (0, 0, 0, 0) 15 [(4, .int (Int32.ofInt 0)), (3, .int (nI (D 0) + u 42 34)), (2, .int (u 42 36)), (0, .ref 42), (1, .int (nI (D 0)))] [] (SH, u) Q
  rw [h1, h6, nI_add]
  have hD0 := h4 0 (by omega)
  have hB : ∀ j, j < d - 2 → u 57 j = nI (D (j + 2)) := fun j hj => by
    have := h5 (j + 2) (by omega) (by omega)
    rwa [Nat.add_sub_cancel] at this
  have hBs : ∀ j, j < d - 2 → D (j + 2) < 256 := fun j hj => h4 (j + 2) (by omega)
  have hle : nsum (fun j => D (j + 2)) 0 (d - 2) ≤ 255 * (d - 2) := nsum_le (D := fun j => D (j + 2)) (d - 2) 0 (fun j _ h2 => hBs j (by omega))
  refine mw_sum (n := n) (B := fun j => D (j + 2)) h1 (by omega) hB hBs Q (D 0) (D 0 + (d - 2)) hD0 (by omega) (d - 2) 0 _ _ (by omega) rfl rfl (fun y t hy ht => h40 y t (fun x hx => ?_))
  rw [ht]
  refine mw_loop2 (ck := D 0 + (d - 2) + nsum (fun j => D (j + 2)) 0 (d - 2)) h2 h3 h4 rfl (mchk h2).symm (by omega) hcnt h7 Q cnt 0 u x (by omega) hx h1 h5 (fun y => ?_)
  exact hend y _ _
theorem mw_A {u u' : zM} {p : Int32} {n d : Nat} {D : Nat → Nat} (h : mPre u n d D) (hdn : u 42 3 = 0) (h4 : u 42 4 = -1) (hre : Ev 203 [.ref 42] (mU u n d (d + 1) D (-1) 0) (some (.int p)) u') : Ev 190 [.ref 42, .int (nI (D 0))] u (some (.int 1)) u' := by
  intro Q hQ
  obtain ⟨q1, q2, q3, q4, q5, q6, q7⟩ := id h
  have e : nI (d - 2) + Int32.ofInt 3 = nI (d + 1) := by rw [zki, nI_add]; congr 1; omega
  refine mw_start (cnt := d + 1) h Q (Nat.le_refl _) (fun y t hk => ?_) (fun y w4 w3 => mw_endA (u' := u') (by simp (disch := first | omega | decide) only [h4, zwj_far, zcn, zkpl, zki, zki1, zk8, zk16, zo32, zlt0, zle0, zeq0, zgt0, zLe0, nI_ltI, nI_leI, nI_eq, nI_add, nI_clamp, vp_in_nI, zup_s, zup_n, upd_s, upd_n, ne_eq, not_true_eq_false, not_false_eq_true]) (by simp (disch := first | omega | decide) only [q6, zwj_far, zcn, zkpl, zki, zki1, zk8, zk16, zo32, zlt0, zle0, zeq0, zgt0, zLe0, nI_ltI, nI_leI, nI_eq, nI_add, nI_clamp, vp_in_nI, zup_s, zup_n, upd_s, upd_n, ne_eq, not_true_eq_false, not_false_eq_true]) (by simp (disch := first | omega | decide) only [hdn, zwj_far, zcn, zkpl, zki, zki1, zk8, zk16, zo32, zlt0, zle0, zeq0, zgt0, zLe0, nI_ltI, nI_leI, nI_eq, nI_add, nI_clamp, vp_in_nI, zup_s, zup_n, upd_s, upd_n, ne_eq, not_true_eq_false, not_false_eq_true]) hre Q hQ y w4 w3)
  refine zgo 40 [] ?_
  repeat' (first
    | ((show ZW 190 (0, 0, 0, 0) 92 [(6, .int (Int32.ofInt 0)), (5, .int (u 42 34 + Int32.ofInt 3)), (4, .int (u 42 34 + Int32.ofInt 3)), (3, .int t), (2, .int (nI n)), (0, .ref 42), (1, .int (nI (D 0)))] [] (SH, u) Q); rw [q1, e]; exact hk _ rfl)
    | (show vp_in _ _; simp (disch := first | omega | decide) only [h4, zm1eq, zcn, zkpl, zki, zki1, zk8, zk16, zo32, zlt0, zle0, zeq0, zgt0, zLe0, nI_ltI, nI_leI, nI_eq, nI_add, nI_clamp, vp_in_nI, zup_s, zup_n, upd_s, upd_n, ne_eq, not_true_eq_false, not_false_eq_true]; done)
    | (intro hc; exfalso; simp (disch := first | omega | decide) only [h4, zm1eq, zcn, zkpl, zki, zki1, zk8, zk16, zo32, zlt0, zle0, zeq0, zgt0, zLe0, nI_ltI, nI_leI, nI_eq, nI_add, nI_clamp, vp_in_nI, zup_s, zup_n, upd_s, upd_n, ne_eq, not_true_eq_false, not_false_eq_true] at hc <;> omega)
    | (intro hc; exact absurd rfl hc)
    | intro hc
    | apply And.intro
    | exact Or.inl rfl
    | exact Or.inr rfl
    | (show (_ : Int32) = 0 ∨ _ = 1; simp (disch := first | omega | decide) only [h4, zm1eq, zcn, zkpl, zki, zki1, zk8, zk16, zo32, zlt0, zle0, zeq0, zgt0, zLe0, nI_ltI, nI_leI, nI_eq, nI_add, nI_clamp, vp_in_nI, zup_s, zup_n, upd_s, upd_n, ne_eq, not_true_eq_false, not_false_eq_true, zeq1, true_or, or_true]; done))
theorem mw_B {u u' : zM} {p : Int32} {n d l : Nat} {D : Nat → Nat} (h : mPre u n d D) (hdn : u 42 3 = 0) (hl : l ≤ 50) (h4 : u 42 4 = nI (l + 1)) (hre : Ev 203 [.ref 42] (mU u n d (d + 1) D (nI l) 0) (some (.int p)) u') : Ev 190 [.ref 42, .int (nI (D 0))] u (some (.int 1)) u' := by
  intro Q hQ
  obtain ⟨q1, q2, q3, q4, q5, q6, q7⟩ := id h
  have e : nI (d - 2) + Int32.ofInt 3 = nI (d + 1) := by rw [zki, nI_add]; congr 1; omega
  refine mw_start (cnt := d + 1) h Q (Nat.le_refl _) (fun y t hk => ?_) (fun y w4 w3 => mw_endB (u' := u') hl (by simp (disch := first | omega | decide) only [h4, zwj_far, zcn, zkpl, zki, zki1, zk8, zk16, zo32, zlt0, zle0, zeq0, zgt0, zLe0, nI_ltI, nI_leI, nI_eq, nI_add, nI_clamp, vp_in_nI, zup_s, zup_n, upd_s, upd_n, ne_eq, not_true_eq_false, not_false_eq_true]) (by simp (disch := first | omega | decide) only [q6, zwj_far, zcn, zkpl, zki, zki1, zk8, zk16, zo32, zlt0, zle0, zeq0, zgt0, zLe0, nI_ltI, nI_leI, nI_eq, nI_add, nI_clamp, vp_in_nI, zup_s, zup_n, upd_s, upd_n, ne_eq, not_true_eq_false, not_false_eq_true]) (by simp (disch := first | omega | decide) only [hdn, zwj_far, zcn, zkpl, zki, zki1, zk8, zk16, zo32, zlt0, zle0, zeq0, zgt0, zLe0, nI_ltI, nI_leI, nI_eq, nI_add, nI_clamp, vp_in_nI, zup_s, zup_n, upd_s, upd_n, ne_eq, not_true_eq_false, not_false_eq_true]) hre Q hQ y w4 w3)
  refine zgo 40 [] ?_
  repeat' (first
    | ((show ZW 190 (0, 0, 0, 0) 92 [(6, .int (Int32.ofInt 0)), (5, .int (u 42 34 + Int32.ofInt 3)), (4, .int (u 42 34 + Int32.ofInt 3)), (3, .int t), (2, .int (nI n)), (0, .ref 42), (1, .int (nI (D 0)))] [] (SH, u) Q); rw [q1, e]; exact hk _ rfl)
    | (show vp_in _ _; simp (disch := first | omega | decide) only [h4, zcn, zkpl, zki, zki1, zk8, zk16, zo32, zlt0, zle0, zeq0, zgt0, zLe0, nI_ltI, nI_leI, nI_eq, nI_add, nI_clamp, vp_in_nI, zup_s, zup_n, upd_s, upd_n, ne_eq, not_true_eq_false, not_false_eq_true]; done)
    | (intro hc; exfalso; simp (disch := first | omega | decide) only [h4, zcn, zkpl, zki, zki1, zk8, zk16, zo32, zlt0, zle0, zeq0, zgt0, zLe0, nI_ltI, nI_leI, nI_eq, nI_add, nI_clamp, vp_in_nI, zup_s, zup_n, upd_s, upd_n, ne_eq, not_true_eq_false, not_false_eq_true] at hc <;> omega)
    | (intro hc; exact absurd rfl hc)
    | intro hc
    | apply And.intro
    | exact Or.inl rfl
    | exact Or.inr rfl
    | (show (_ : Int32) = 0 ∨ _ = 1; simp (disch := first | omega | decide) only [h4, zcn, zkpl, zki, zki1, zk8, zk16, zo32, zlt0, zle0, zeq0, zgt0, zLe0, nI_ltI, nI_leI, nI_eq, nI_add, nI_clamp, vp_in_nI, zup_s, zup_n, upd_s, upd_n, ne_eq, not_true_eq_false, not_false_eq_true, zeq1, true_or, or_true]; done))
theorem mw_C {u u' : zM} {p : Int32} {n d c : Nat} {D : Nat → Nat} (h : mPre u n d D) (hdn : u 42 3 = 0) (hc : c ≤ 300) (h4 : u 42 4 = 0) (h5 : u 42 5 = nI c) (hre : Ev 203 [.ref 42] (mU u n d (min c d) D (-1) 1) (some (.int p)) u') : Ev 190 [.ref 42, .int (nI (D 0))] u (some (.int 0)) u' := by
  intro Q hQ
  obtain ⟨q1, q2, q3, q4, q5, q6, q7⟩ := id h
  have e : nI (d - 2) + Int32.ofInt 3 = nI (d + 1) := by rw [zki, nI_add]; congr 1; omega
  have e2 : nI (d + 1) - Int32.ofInt 1 = nI d := by rw [zki, pk_sub (by omega), Nat.add_sub_cancel]
  refine mw_start (cnt := min c d) h Q (by omega) (fun y t hk => ?_) (fun y w4 w3 => mw_endC (u' := u') (by simp (disch := first | omega | decide) only [h4, zwj_far, zcn, zkpl, zki, zki1, zk8, zk16, zo32, zlt0, zle0, zeq0, zgt0, zLe0, nI_ltI, nI_leI, nI_eq, nI_add, nI_clamp, vp_in_nI, zup_s, zup_n, upd_s, upd_n, ne_eq, not_true_eq_false, not_false_eq_true]) (by simp (disch := first | omega | decide) only [q6, zwj_far, zcn, zkpl, zki, zki1, zk8, zk16, zo32, zlt0, zle0, zeq0, zgt0, zLe0, nI_ltI, nI_leI, nI_eq, nI_add, nI_clamp, vp_in_nI, zup_s, zup_n, upd_s, upd_n, ne_eq, not_true_eq_false, not_false_eq_true]) (by simp (disch := first | omega | decide) only [hdn, zwj_far, zcn, zkpl, zki, zki1, zk8, zk16, zo32, zlt0, zle0, zeq0, zgt0, zLe0, nI_ltI, nI_leI, nI_eq, nI_add, nI_clamp, vp_in_nI, zup_s, zup_n, upd_s, upd_n, ne_eq, not_true_eq_false, not_false_eq_true]) hre Q hQ y w4 w3)
  have e3 : nI (d - 2) + nI 3 = nI (d + 1) := by rw [nI_add]; congr 1; omega
  by_cases hcd : c < d + 1
  · have hm : min c d = c := Nat.min_eq_left (by omega)
    rw [hm] at hk
    refine zgo 40 [] ?_
    repeat' (first
      | ((show ZW 190 (0, 0, 0, 0) 92 [(6, .int (Int32.ofInt 0)), (5, .int (u 42 5)), (4, .int (u 42 34 + Int32.ofInt 3)), (3, .int t), (2, .int (nI n)), (0, .ref 42), (1, .int (nI (D 0)))] [] (SH, u) Q); rw [q1, e, h5]; exact hk _ rfl)
      | (show vp_in _ _; simp (disch := first | omega | decide) only [h4, h5, q1, e3, zcn, zkpl, zki, zki1, zk8, zk16, zo32, zlt0, zle0, zeq0, zgt0, zLe0, nI_ltI, nI_leI, nI_eq, nI_add, nI_clamp, vp_in_nI, zup_s, zup_n, upd_s, upd_n, ne_eq, not_true_eq_false, not_false_eq_true]; done)
      | (intro hc; exfalso; simp (disch := first | omega | decide) only [h4, h5, q1, e3, zcn, zkpl, zki, zki1, zk8, zk16, zo32, zlt0, zle0, zeq0, zgt0, zLe0, nI_ltI, nI_leI, nI_eq, nI_add, nI_clamp, vp_in_nI, zup_s, zup_n, upd_s, upd_n, ne_eq, not_true_eq_false, not_false_eq_true] at hc <;> omega)
      | (intro hc; exact absurd rfl hc)
      | intro hc
      | apply And.intro
      | exact Or.inl rfl
      | exact Or.inr rfl
      | (show (_ : Int32) = 0 ∨ _ = 1; simp (disch := first | omega | decide) only [h4, h5, q1, e3, zcn, zkpl, zki, zki1, zk8, zk16, zo32, zlt0, zle0, zeq0, zgt0, zLe0, nI_ltI, nI_leI, nI_eq, nI_add, nI_clamp, vp_in_nI, zup_s, zup_n, upd_s, upd_n, ne_eq, not_true_eq_false, not_false_eq_true, zeq1, true_or, or_true]; done))
  · have hm : min c d = d := Nat.min_eq_right (by omega)
    rw [hm] at hk
    refine zgo 40 [] ?_
    repeat' (first
      | ((show ZW 190 (0, 0, 0, 0) 92 [(6, .int (Int32.ofInt 0)), (5, .int (u 42 34 + Int32.ofInt 3 - Int32.ofInt 1)), (4, .int (u 42 34 + Int32.ofInt 3)), (3, .int t), (2, .int (nI n)), (0, .ref 42), (1, .int (nI (D 0)))] [] (SH, u) Q); rw [q1, e, e2]; exact hk _ rfl)
      | (show vp_in _ _; simp (disch := first | omega | decide) only [h4, h5, q1, e3, zcn, zkpl, zki, zki1, zk8, zk16, zo32, zlt0, zle0, zeq0, zgt0, zLe0, nI_ltI, nI_leI, nI_eq, nI_add, nI_clamp, vp_in_nI, zup_s, zup_n, upd_s, upd_n, ne_eq, not_true_eq_false, not_false_eq_true]; done)
      | (intro hc; exfalso; simp (disch := first | omega | decide) only [h4, h5, q1, e3, zcn, zkpl, zki, zki1, zk8, zk16, zo32, zlt0, zle0, zeq0, zgt0, zLe0, nI_ltI, nI_leI, nI_eq, nI_add, nI_clamp, vp_in_nI, zup_s, zup_n, upd_s, upd_n, ne_eq, not_true_eq_false, not_false_eq_true] at hc <;> omega)
      | (intro hc; exact absurd rfl hc)
      | intro hc
      | apply And.intro
      | exact Or.inl rfl
      | exact Or.inr rfl
      | (show (_ : Int32) = 0 ∨ _ = 1; simp (disch := first | omega | decide) only [h4, h5, q1, e3, zcn, zkpl, zki, zki1, zk8, zk16, zo32, zlt0, zle0, zeq0, zgt0, zLe0, nI_ltI, nI_leI, nI_eq, nI_add, nI_clamp, vp_in_nI, zup_s, zup_n, upd_s, upd_n, ne_eq, not_true_eq_false, not_false_eq_true, zeq1, true_or, or_true]; done))
