/-! the records on both sides; the model's replay -/
theorem LR_hold {u m : zM} {nT nQ nR nM t d : Nat} (dl : Int32) (h : LR u m nT nQ nR nM) (ht : t < nT) (h1 : 1 ≤ nQ) (h0 : m 35 0 = nI t) (hd : d < 4) : LR (mhd u nQ t d dl) (clh m nQ t d dl) nT (nQ - 1) nR nM := by
  have e1 : u 68 d + u 61 t = m 21 d + m 30 t := by
    rw [(h.1.2.2.2.2.2.2.1 d hd).2.1, (h.1.2.2.2.2.1 t ht).1]
  unfold mhd clh
  rw [e1]
  exact LR_res _ (LR_dl dl (LR_leave (s := 3) (Or.inr rfl) h ht h1 h0))
theorem cend_39 {m : zM} {t r b : Nat} {s : Int32} (h1 : b ≠ 33) (h2 : b ≠ 36) (h3 : b ≠ 37) (h4 : b ≠ 38) : cend m t r s b = m b := by
  unfold cend
  rw [zup_n _ h2, zup_n _ h4, zup_n _ h3, zup_n _ h1]
theorem LR_expire {u m : zM} {nT nQ nR nM t d : Nat} (h : LR u m nT nQ nR nM) (ht : t < nT) (h3 : m 33 t = nI 3) (hd : d < 4) (hz : m 39 nR = 0) : ∃ q', LR (mrj u nT t d nR) (crj m nT t d nR) nT q' (nR + 1) nM := by
  have e1 : u 68 d - u 61 t = m 21 d + -(m 30 t) := by
    rw [(h.1.2.2.2.2.2.2.1 d hd).2.1, (h.1.2.2.2.2.1 t ht).1, Int32.sub_eq_add_neg]
  unfold mrj crj
  rw [e1]
  exact LR_wake (nI d) (LR_end (s0 := 3) (s := 5) ht (by simp (disch := first | omega | decide) only [h3, zcn, zkpl, zki, zki1, zk8, zk16, zo32, zlt0, zle0, zeq0, zgt0, zLe0, nI_ltI, nI_leI, nI_eq, nI_add, nI_clamp, vp_in_nI, zup_s, zup_n, upd_s, upd_n, ne_eq, not_true_eq_false, not_false_eq_true]) (Or.inl ⟨rfl, Or.inr rfl⟩) (by simp (disch := first | omega | decide) only [hz, zcn, zkpl, zki, zki1, zk8, zk16, zo32, zlt0, zle0, zeq0, zgt0, zLe0, nI_ltI, nI_leI, nI_eq, nI_add, nI_clamp, vp_in_nI, zup_s, zup_n, upd_s, upd_n, ne_eq, not_true_eq_false, not_false_eq_true]) (LR_res _ h))
/-- what replay leaves -/
def mF (u u' : zM) : Prop := (∀ a, a < 42 ∨ (43 ≤ a ∧ a ≤ 58) ∨ 74 ≤ a → u' a = u a) ∧ ∀ f, f ≠ 38 → f ≠ 45 → f ≠ 47 → f ≠ 55 → u' 42 f = u 42 f
theorem mF.tr {a b c : zM} (h1 : mF a b) (h2 : mF b c) : mF a c := ⟨fun x hx => (h2.1 x hx).trans (h1.1 x hx), fun f g1 g2 g3 g4 => (h2.2 f g1 g2 g3 g4).trans (h1.2 f g1 g2 g3 g4)⟩
theorem mF.rf (a : zM) : mF a a := ⟨fun _ _ => rfl, fun _ _ _ _ _ => rfl⟩
theorem mF.up {u v : zM} {a k : Nat} {x : Int32} (h : mF u v) (ha : 59 ≤ a) (ha2 : a ≤ 73) : mF u (zup v a k x) := ⟨fun b hb => by rw [zup_n _ (by omega)]; exact h.1 b hb, fun f g1 g2 g3 g4 => by rw [zup_n _ (by omega)]; exact h.2 f g1 g2 g3 g4⟩
theorem mF.fld {u v : zM} {k : Nat} {x : Int32} (h : mF u v) (hk : k = 38 ∨ k = 45 ∨ k = 47 ∨ k = 55) : mF u (zup v 42 k x) := ⟨fun b hb => by rw [zup_n _ (by omega)]; exact h.1 b hb, fun f g1 g2 g3 g4 => by rw [zup_s, upd_n _ (by omega)]; exact h.2 f g1 g2 g3 g4⟩
theorem mF.shl {u v : zM} {a i k : Nat} (h : mF u v) (ha : 59 ≤ a) (ha2 : a ≤ 73) : mF u (zshl v a i k) := ⟨fun b hb => by rw [zshl_far (by omega)]; exact h.1 b hb, fun f g1 g2 g3 g4 => by rw [zshl_far (by omega)]; exact h.2 f g1 g2 g3 g4⟩
theorem mF.wk {u v : zM} {d : Int32} {i k : Nat} (h : mF u v) : mF u (zwk v 64 62 66 42 47 d i k) := ⟨fun b hb => by rw [zwk_far (by omega) (by omega) (by omega)]; exact h.1 b hb, fun f g1 g2 g3 g4 => by rw [zwk_fld (by decide) (by decide) g3]; exact h.2 f g1 g2 g3 g4⟩
/-- replay comes to W with the class's ledger m, whatever lies behind W -/
def RI (m : zM) (op : Int32) (J : Nat → Nat) (W nT nQ nR nM : Nat) : Prop := ∀ (u : zM) (b : Nat), (∀ j, j < W → u 58 j = nI (J j)) → u 42 36 = nI b → W ≤ b → b ≤ 6000 → u 42 0 = op → ∃ u', mF u u' ∧ lR u' m nT nQ nR nM ∧ ∀ Q : zQ, ZW 203 (0, 0, 0, 0) 59 [(1, .int (nI W)), (0, .ref 42)] [] (SH, u') Q → ZM 203 0 0 [.ref 42] (SH, u) Q
theorem RI_ext {m m' : zM} {op : Int32} {J : Nat → Nat} {W len nT nQ nR nM nT' nQ' nR' nM' : Nat} (hRI : RI m op J W nT nQ nR nM) (hlen : 3 + J (W + 1) = len) (h6 : W + len ≤ 6000) (hJ : J (W + 1) < 256)
    (hstep : ∀ u : zM, (∀ j, j < W + len → u 58 j = nI (J j)) → lR u m nT nQ nR nM → ∃ u', Ev 202 [.ref 42, .int (nI W)] u none u' ∧ mF u u' ∧ lR u' m' nT' nQ' nR' nM') : RI m' op J (W + len) nT' nQ' nR' nM' := by
  intro u b hj hb hWb hb6 hop
  obtain ⟨u1, hF, hl, hrun⟩ := hRI u b (fun j h => hj j (by omega)) hb (by omega) hb6 hop
  have h58 : u1 58 = u 58 := hF.1 58 (by omega)
  have h36 : u1 42 36 = nI b := by rw [hF.2 36 (by decide) (by decide) (by decide) (by decide), hb]
  obtain ⟨u2, hE, hF2, hl2⟩ := hstep u1 (fun j h => by rw [h58]; exact hj j h) hl
  have h58' : u2 58 = u 58 := (hF2.1 58 (by omega)).trans h58
  have hJ1 : u 58 (W + 1) = nI (J (W + 1)) := hj (W + 1) (by omega)
  refine ⟨u2, hF.tr hF2, hl2, fun Q w => hrun Q ?_⟩
  have fin : ZW 203 (0, 0, 0, 0) 93 [(1, .int (nI W)), (0, .ref 42)] [] (SH, u2) Q := by
    refine zgo 20 [] ?_
    refine ⟨by show vp_in _ _; simp (disch := first | omega | decide) only [zcn, zkpl, zki, zki1, zk8, zk16, zo32, zlt0, zle0, zeq0, zgt0, zLe0, nI_ltI, nI_leI, nI_eq, nI_add, nI_clamp, vp_in_nI, zup_s, zup_n, upd_s, upd_n, ne_eq, not_true_eq_false, not_false_eq_true], ?_⟩
    show ZW 203 (0, 0, 0, 0) 59 [(1, .int (nI W + (Int32.ofInt 3 + u2 58 (nI W + Int32.ofInt 1).toNatClampNeg))), (0, .ref 42)] [] (SH, u2) Q
    have e : nI W + (Int32.ofInt 3 + u2 58 (nI W + Int32.ofInt 1).toNatClampNeg) = nI (W + len) := by
      rw [h58']
      simp (disch := first | omega | decide) only [hJ1, zcn, zkpl, zki, zki1, zk8, zk16, zo32, zlt0, zle0, zeq0, zgt0, zLe0, nI_ltI, nI_leI, nI_eq, nI_add, nI_clamp, vp_in_nI, zup_s, zup_n, upd_s, upd_n, ne_eq, not_true_eq_false, not_false_eq_true]
      rw [hlen]
    rw [e]
    exact w
  refine zgo 40 [] ?_
  repeat' (first
    | (exact hE.use fin)
    | (show vp_in _ _; simp (disch := first | omega | decide) only [h36, h58, hJ1, zcn, zkpl, zki, zki1, zk8, zk16, zo32, zlt0, zle0, zeq0, zgt0, zLe0, nI_ltI, nI_leI, nI_eq, nI_add, nI_clamp, vp_in_nI, zup_s, zup_n, upd_s, upd_n, ne_eq, not_true_eq_false, not_false_eq_true]; done)
    | (intro hc; exfalso; simp (disch := first | omega | decide) only [h36, h58, hJ1, zcn, zkpl, zki, zki1, zk8, zk16, zo32, zlt0, zle0, zeq0, zgt0, zLe0, nI_ltI, nI_leI, nI_eq, nI_add, nI_clamp, vp_in_nI, zup_s, zup_n, upd_s, upd_n, ne_eq, not_true_eq_false, not_false_eq_true] at hc <;> omega)
    | (intro hc; exact absurd rfl hc)
    | intro hc
    | apply And.intro
    | exact Or.inl rfl
    | exact Or.inr rfl
    | (show (_ : Int32) = 0 ∨ _ = 1; simp (disch := first | omega | decide) only [h36, h58, hJ1, zcn, zkpl, zki, zki1, zk8, zk16, zo32, zlt0, zle0, zeq0, zgt0, zLe0, nI_ltI, nI_leI, nI_eq, nI_add, nI_clamp, vp_in_nI, zup_s, zup_n, upd_s, upd_n, ne_eq, not_true_eq_false, not_false_eq_true, zeq1, true_or, or_true]; done))
/-- the end of replay -/
theorem RI_end {m : zM} {op : Int32} {J : Nat → Nat} {W nT nQ nR nM : Nat} (hRI : RI m op J W nT nQ nR nM) {u : zM} {b : Nat} (hj : ∀ j, j < W → u 58 j = nI (J j)) (hb : u 42 36 = nI b) (hWb : W ≤ b) (hb6 : b ≤ 6000) (hop : u 42 0 = op) (hend : b ≤ W + 1 ∨ ∃ c, u 58 (W + 1) = nI c ∧ c < 256 ∧ b < W + 3 + c) : ∃ u', Ev 203 [.ref 42] u (some (.int (nI W))) u' ∧ mF u u' ∧ lR u' m nT nQ nR nM := by
  obtain ⟨u1, hF, hl, hrun⟩ := hRI u b hj hb hWb hb6 hop
  have h58 : u1 58 = u 58 := hF.1 58 (by omega)
  have h36 : u1 42 36 = nI b := by rw [hF.2 36 (by decide) (by decide) (by decide) (by decide), hb]
  refine ⟨u1, fun Q hQ => hrun Q ?_, hF, hl⟩
  by_cases hs : b ≤ W + 1
  · refine zgo 40 [] ?_
    repeat' (first
      | (show vp_in _ _; simp (disch := first | omega | decide) only [h36, zcn, zkpl, zki, zki1, zk8, zk16, zo32, zlt0, zle0, zeq0, zgt0, zLe0, nI_ltI, nI_leI, nI_eq, nI_add, nI_clamp, vp_in_nI, zup_s, zup_n, upd_s, upd_n, ne_eq, not_true_eq_false, not_false_eq_true]; done)
      | (intro hc; exfalso; simp (disch := first | omega | decide) only [h36, zcn, zkpl, zki, zki1, zk8, zk16, zo32, zlt0, zle0, zeq0, zgt0, zLe0, nI_ltI, nI_leI, nI_eq, nI_add, nI_clamp, vp_in_nI, zup_s, zup_n, upd_s, upd_n, ne_eq, not_true_eq_false, not_false_eq_true] at hc <;> omega)
      | (intro hc; exact absurd rfl hc)
      | intro hc
      | apply And.intro
      | exact hQ
      | (show Q _ (SH, _); simp (disch := first | omega | decide) only [h36, zcn, zkpl, zki, zki1, zk8, zk16, zo32, zlt0, zle0, zeq0, zgt0, zLe0, nI_ltI, nI_leI, nI_eq, nI_add, nI_clamp, vp_in_nI, zup_s, zup_n, upd_s, upd_n, ne_eq, not_true_eq_false, not_false_eq_true]; exact hQ)
      | exact Or.inl rfl
      | exact Or.inr rfl
      | (show (_ : Int32) = 0 ∨ _ = 1; simp (disch := first | omega | decide) only [h36, zcn, zkpl, zki, zki1, zk8, zk16, zo32, zlt0, zle0, zeq0, zgt0, zLe0, nI_ltI, nI_leI, nI_eq, nI_add, nI_clamp, vp_in_nI, zup_s, zup_n, upd_s, upd_n, ne_eq, not_true_eq_false, not_false_eq_true, zeq1, true_or, or_true]; done))
  · rcases hend with he | ⟨c, c1, c2, c3⟩
    · exact absurd he hs
    · refine zgo 40 [] ?_
      repeat' (first
        | (show vp_in _ _; simp (disch := first | omega | decide) only [h36, h58, c1, zcn, zkpl, zki, zki1, zk8, zk16, zo32, zlt0, zle0, zeq0, zgt0, zLe0, nI_ltI, nI_leI, nI_eq, nI_add, nI_clamp, vp_in_nI, zup_s, zup_n, upd_s, upd_n, ne_eq, not_true_eq_false, not_false_eq_true]; done)
        | (intro hc; exfalso; simp (disch := first | omega | decide) only [h36, h58, c1, zcn, zkpl, zki, zki1, zk8, zk16, zo32, zlt0, zle0, zeq0, zgt0, zLe0, nI_ltI, nI_leI, nI_eq, nI_add, nI_clamp, vp_in_nI, zup_s, zup_n, upd_s, upd_n, ne_eq, not_true_eq_false, not_false_eq_true] at hc <;> omega)
        | (intro hc; exact absurd rfl hc)
        | intro hc
        | apply And.intro
        | exact hQ
        | (show Q _ (SH, _); simp (disch := first | omega | decide) only [h36, h58, c1, zcn, zkpl, zki, zki1, zk8, zk16, zo32, zlt0, zle0, zeq0, zgt0, zLe0, nI_ltI, nI_leI, nI_eq, nI_add, nI_clamp, vp_in_nI, zup_s, zup_n, upd_s, upd_n, ne_eq, not_true_eq_false, not_false_eq_true]; exact hQ)
        | exact Or.inl rfl
        | exact Or.inr rfl
        | (show (_ : Int32) = 0 ∨ _ = 1; simp (disch := first | omega | decide) only [h36, h58, c1, zcn, zkpl, zki, zki1, zk8, zk16, zo32, zlt0, zle0, zeq0, zgt0, zLe0, nI_ltI, nI_leI, nI_eq, nI_add, nI_clamp, vp_in_nI, zup_s, zup_n, upd_s, upd_n, ne_eq, not_true_eq_false, not_false_eq_true, zeq1, true_or, or_true]; done))
