/-! the model gives back; an answer or a return, whole -/
theorem dm_back {u : zM} {n q r t d c ed ec p P7 nb : Nat} {x : Nat} {cs rest : List Nat} {L : zLs} {x5 x4 x3 : Int32} (hL : L = [(7, .int (nI P7)), (6, .int (nI t)), (5, .int x5), (4, .int x4), (3, .int x3), (2, .int (nI 82)), (0, .ref 42), (1, .int (nI p))]) (hP : P7 < 6000) (hnb : nb ≤ 6000) (h36 : u 42 36 = nI nb) (hcs : ∀ c ∈ cs, c = 46 ∨ (48 ≤ c ∧ c ≤ 57)) (hv : tx u P7 (cs ++ 60 :: rest)) (hv2 : P7 + cs.length + 1 < nb) (hx : amF 0 cs = x) (hn : n ≤ 20) (ht : t < n) (hr : r < 64) (hdd : d < 4) (hc4 : c < 4) (hcd : c ≠ d) (hm : u 42 45 = nI n) (hR : u 42 55 = nI r) (hq : u 42 47 = nI q) (hdb : u 62 t = nI d) (hcb : u 63 t = nI c) (hed : u 70 d = nI ed) (hed2 : ed < 40) (hec : u 70 c = nI ec) (hec2 : ec < 40) (hcn : q + cnt (upd (u 64) t (nI 6)) (nI 2) n ≤ 20) (Q : zQ) (hQ : Q none (SH, mgb u n t d c r ed ec (nI x))) : ZW 200 (0, 0, 0, 0) 143 L [] (SH, u) Q := by
  unfold mgb at hQ
  have sA := es_amountAt hnb h36 hcs hv hv2
  rw [hx] at sA
  have s1 := mw_enter (u := u) (a := c) (e := ec) (-(nI x)) hc4 (by omega) hec
  have s2 := mw_enter (u := men u c ec (-(nI x))) (a := d) (e := ed) (nI x) hdd (by omega) (by rw [men_70 (Ne.symm hcd)]; exact hed)
  generalize hu2 : men u c ec (-(nI x)) = u2 at *
  have g2 : ∀ b, b ≠ 67 → b ≠ 69 → b ≠ 70 → u2 b = u b := fun b h1 h3 h4 => by rw [← hu2, men_far h1 h3 h4]
  generalize hu3 : men u2 d ed (nI x) = u3 at *
  have g3 : ∀ b, b ≠ 67 → b ≠ 69 → b ≠ 70 → u3 b = u b := fun b h1 h3 h4 => by rw [← hu3, men_far h1 h3 h4, g2 b h1 h3 h4]
  have k42 : u3 42 = u 42 := g3 42 (by decide) (by decide) (by decide)
  have s3 := mw_tell (u := u3) (r := r) (q := q) (nI 6) (nI d) hn ht hr (by rw [k42]; exact hm) (by rw [k42]; exact hR) (by rw [k42]; exact hq) (by rw [g3 64 (by decide) (by decide) (by decide)]; exact hcn)
  have f302 : ZW 200 (0, 0, 0, 0) 302 ((8, .int (nI x)) :: L) [] (SH, zwk (ztl u3 t r (nI 6)) 64 62 66 42 47 (nI d) 0 n) Q := by
    subst hL
    refine zgo 2 [] ?_
    exact hQ
  have d3 : u3 62 t = nI d := by rw [g3 62 (by decide) (by decide) (by decide)]; exact hdb
  have d2 : u2 62 t = nI d := by rw [g2 62 (by decide) (by decide) (by decide)]; exact hdb
  have r3 : ∀ y z, y = nI 6 → z = nI d → Ev 198 [.ref 42, .int (nI t), .int y, .int z] u3 none (zwk (ztl u3 t r (nI 6)) 64 62 66 42 47 (nI d) 0 n) := by rintro y z rfl rfl; exact s3
  have r2 : ∀ y, y = nI d → Ev 197 [.ref 42, .int y, .int (nI x)] u2 none u3 := by rintro y rfl; exact s2
  have r1 : ∀ y, y = nI c → Ev 197 [.ref 42, .int y, .int (-(nI x))] u none u2 := by rintro y rfl; exact s1
  have f287 : ZW 200 (0, 0, 0, 0) 287 ((8, .int (nI x)) :: L) [] (SH, u3) Q := by
    subst hL
    refine zgo 10 [] ?_
    repeat' (first
      | (exact (r3 _ _ (by decide) (by simp (disch := first | omega | decide) only [d3, zcn, zkpl, zki, zki1, zk8, zk16, zo32, zlt0, zle0, zeq0, zgt0, zLe0, nI_ltI, nI_leI, nI_eq, nI_add, nI_clamp, vp_in_nI, zup_s, zup_n, upd_s, upd_n, ne_eq, not_true_eq_false, not_false_eq_true])).use f302)
      | (show vp_in _ _; simp (disch := first | omega | decide) only [zcn, zkpl, zki, zki1, zk8, zk16, zo32, zlt0, zle0, zeq0, zgt0, zLe0, nI_ltI, nI_leI, nI_eq, nI_add, nI_clamp, vp_in_nI, zup_s, zup_n, upd_s, upd_n, ne_eq, not_true_eq_false, not_false_eq_true]; done)
      | (intro hc; exfalso; simp (disch := first | omega | decide) only [zcn, zkpl, zki, zki1, zk8, zk16, zo32, zlt0, zle0, zeq0, zgt0, zLe0, nI_ltI, nI_leI, nI_eq, nI_add, nI_clamp, vp_in_nI, zup_s, zup_n, upd_s, upd_n, ne_eq, not_true_eq_false, not_false_eq_true] at hc <;> omega)
      | (intro hc; exact absurd rfl hc)
      | intro hc
      | apply And.intro
      | exact Or.inl rfl
      | exact Or.inr rfl
      | (show (_ : Int32) = 0 ∨ _ = 1; simp (disch := first | omega | decide) only [zcn, zkpl, zki, zki1, zk8, zk16, zo32, zlt0, zle0, zeq0, zgt0, zLe0, nI_ltI, nI_leI, nI_eq, nI_add, nI_clamp, vp_in_nI, zup_s, zup_n, upd_s, upd_n, ne_eq, not_true_eq_false, not_false_eq_true, zeq1, true_or, or_true]; done))
  have f274 : ZW 200 (0, 0, 0, 0) 274 ((8, .int (nI x)) :: L) [] (SH, u2) Q := by
    subst hL
    refine zgo 20 [] ?_
    repeat' (first
      | (exact (r2 _ (by simp (disch := first | omega | decide) only [d2, zcn, zkpl, zki, zki1, zk8, zk16, zo32, zlt0, zle0, zeq0, zgt0, zLe0, nI_ltI, nI_leI, nI_eq, nI_add, nI_clamp, vp_in_nI, zup_s, zup_n, upd_s, upd_n, ne_eq, not_true_eq_false, not_false_eq_true])).use f287)
      | (show vp_in _ _; simp (disch := first | omega | decide) only [zcn, zkpl, zki, zki1, zk8, zk16, zo32, zlt0, zle0, zeq0, zgt0, zLe0, nI_ltI, nI_leI, nI_eq, nI_add, nI_clamp, vp_in_nI, zup_s, zup_n, upd_s, upd_n, ne_eq, not_true_eq_false, not_false_eq_true]; done)
      | (intro hc; exfalso; simp (disch := first | omega | decide) only [zcn, zkpl, zki, zki1, zk8, zk16, zo32, zlt0, zle0, zeq0, zgt0, zLe0, nI_ltI, nI_leI, nI_eq, nI_add, nI_clamp, vp_in_nI, zup_s, zup_n, upd_s, upd_n, ne_eq, not_true_eq_false, not_false_eq_true] at hc <;> omega)
      | (intro hc; exact absurd rfl hc)
      | intro hc
      | apply And.intro
      | exact Or.inl rfl
      | exact Or.inr rfl
      | (show (_ : Int32) = 0 ∨ _ = 1; simp (disch := first | omega | decide) only [zcn, zkpl, zki, zki1, zk8, zk16, zo32, zlt0, zle0, zeq0, zgt0, zLe0, nI_ltI, nI_leI, nI_eq, nI_add, nI_clamp, vp_in_nI, zup_s, zup_n, upd_s, upd_n, ne_eq, not_true_eq_false, not_false_eq_true, zeq1, true_or, or_true]; done))
  have f258 : ZW 200 (0, 0, 0, 0) 258 L [.int (nI x)] (SH, u) Q := by
    subst hL
    refine zgo 20 [] ?_
    repeat' (first
      | (exact (r1 _ (by simp (disch := first | omega | decide) only [hcb, zcn, zkpl, zki, zki1, zk8, zk16, zo32, zlt0, zle0, zeq0, zgt0, zLe0, nI_ltI, nI_leI, nI_eq, nI_add, nI_clamp, vp_in_nI, zup_s, zup_n, upd_s, upd_n, ne_eq, not_true_eq_false, not_false_eq_true])).use f274)
      | (show vp_in _ _; simp (disch := first | omega | decide) only [zcn, zkpl, zki, zki1, zk8, zk16, zo32, zlt0, zle0, zeq0, zgt0, zLe0, nI_ltI, nI_leI, nI_eq, nI_add, nI_clamp, vp_in_nI, zup_s, zup_n, upd_s, upd_n, ne_eq, not_true_eq_false, not_false_eq_true]; done)
      | (intro hc; exfalso; simp (disch := first | omega | decide) only [zcn, zkpl, zki, zki1, zk8, zk16, zo32, zlt0, zle0, zeq0, zgt0, zLe0, nI_ltI, nI_leI, nI_eq, nI_add, nI_clamp, vp_in_nI, zup_s, zup_n, upd_s, upd_n, ne_eq, not_true_eq_false, not_false_eq_true] at hc <;> omega)
      | (intro hc; exact absurd rfl hc)
      | intro hc
      | apply And.intro
      | exact Or.inl rfl
      | exact Or.inr rfl
      | (show (_ : Int32) = 0 ∨ _ = 1; simp (disch := first | omega | decide) only [zcn, zkpl, zki, zki1, zk8, zk16, zo32, zlt0, zle0, zeq0, zgt0, zLe0, nI_ltI, nI_leI, nI_eq, nI_add, nI_clamp, vp_in_nI, zup_s, zup_n, upd_s, upd_n, ne_eq, not_true_eq_false, not_false_eq_true, zeq1, true_or, or_true]; done))
  subst hL
  refine zgo 20 [] ?_
  repeat' (first
    | (exact sA.use f258)
    | (show vp_in _ _; simp (disch := first | omega | decide) only [zcn, zkpl, zki, zki1, zk8, zk16, zo32, zlt0, zle0, zeq0, zgt0, zLe0, nI_ltI, nI_leI, nI_eq, nI_add, nI_clamp, vp_in_nI, zup_s, zup_n, upd_s, upd_n, ne_eq, not_true_eq_false, not_false_eq_true]; done)
    | (intro hc; exfalso; simp (disch := first | omega | decide) only [zcn, zkpl, zki, zki1, zk8, zk16, zo32, zlt0, zle0, zeq0, zgt0, zLe0, nI_ltI, nI_leI, nI_eq, nI_add, nI_clamp, vp_in_nI, zup_s, zup_n, upd_s, upd_n, ne_eq, not_true_eq_false, not_false_eq_true] at hc <;> omega)
    | (intro hc; exact absurd rfl hc)
    | intro hc
    | apply And.intro
    | exact Or.inl rfl
    | exact Or.inr rfl
    | (show (_ : Int32) = 0 ∨ _ = 1; simp (disch := first | omega | decide) only [zcn, zkpl, zki, zki1, zk8, zk16, zo32, zlt0, zle0, zeq0, zgt0, zLe0, nI_ltI, nI_leI, nI_eq, nI_add, nI_clamp, vp_in_nI, zup_s, zup_n, upd_s, upd_n, ne_eq, not_true_eq_false, not_false_eq_true, zeq1, true_or, or_true]; done))
/-- what an accepted message asks -/
def accM (m : zM) (nT W K n : Nat) (nm : Nat → List Nat) (vl pl : Nat → Nat) : Prop := W < 4000 ∧ ((K = 80 ∧ vl 2 = n ∧ (∀ t, t < n → pl (6 + 5 * t) ≠ pl (7 + 5 * t)) ∧ (∀ t o, t < n → o < t → n8 (nm (5 + 5 * t)) ≠ n8 (nm (5 + 5 * o))) ∧ (∀ t j, t < n → j < nT → m 29 j ≠ nI (n8 (nm (5 + 5 * t)))) ∧ nT + n ≤ 20) ∨ (K = 81 ∧ ∃ t, t < nT ∧ m 29 t = nI (n8 (nm 2)) ∧ m 33 t = nI 3) ∨ (K = 82 ∧ ∃ t, t < nT ∧ m 29 t = nI (n8 (nm 2)) ∧ m 33 t = nI 4))
theorem rul_acc {m : zM} {nT nM W K n : Nat} {nm : Nat → List Nat} {vl pl dg : Nat → Nat} (h : rul m nT nM W K n nm vl pl dg 0) : accM m nT W K n nm vl pl := by
  unfold rul at h
  rcases h with ⟨_, g⟩ | ⟨_, ⟨k, g⟩ | ⟨k, g⟩ | ⟨k, g⟩⟩
  · exact absurd g (by decide)
  · unfold rbP at g
    rcases g with ⟨_, g⟩ | ⟨_, _, g⟩ | ⟨_, _, _, g⟩ | ⟨_, _, _, _, g⟩ | ⟨_, _, _, _, _, g⟩ | ⟨_, _, _, _, _, _, g⟩ | ⟨h4, h5, h6, h7, h8, h9, _⟩
    · exact absurd g (by decide)
    · exact absurd g (by decide)
    · exact absurd g (by decide)
    · exact absurd g (by decide)
    · exact absurd g (by decide)
    · exact absurd g (by decide)
    · refine ⟨by omega, Or.inl ⟨k, Classical.not_not.1 h4, fun t ht e => h7 ⟨t, ht, e⟩, fun t o ht ho e => h8 (Or.inl ⟨t, o, ht, ho, e⟩), fun t j ht hj e => h8 (Or.inr ⟨t, j, ht, hj, e⟩), by omega⟩⟩
  · unfold fol at g
    rcases g with ⟨_, g⟩ | ⟨_, _, g⟩ | ⟨hw, t, h1, h2, ⟨_, g⟩ | ⟨h3, _⟩⟩
    · exact absurd g (by decide)
    · exact absurd g (by decide)
    · exact absurd g (by decide)
    · exact ⟨hw, Or.inr (Or.inl ⟨k, t, h1, h2, h3⟩)⟩
  · unfold rtn at g
    rcases g with ⟨_, g⟩ | ⟨hw, t, h1, h2, h3, _⟩
    · exact absurd rfl g
    · exact ⟨hw, Or.inr (Or.inr ⟨k, t, h1, h2, h3⟩)⟩
