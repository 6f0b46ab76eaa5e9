/-! submit: what both sides leave -/
def nH (u u' : zM) : Prop := (∀ a, a < 42 ∨ a = 43 ∨ 57 ≤ a → u' a = u a) ∧ ∀ f, f < 14 ∨ 32 < f → u' 42 f = u 42 f
theorem nH_G {u u' : zM} (h : mG u u') : nH u u' := ⟨fun a ha => h.1 a (by omega), fun f hf => h.2 f (by omega)⟩
theorem nH_n {u u' u'' : zM} (h : nH u u') (h' : nG u' u'') : nH u u'' := ⟨fun a ha => (h'.1 a (by omega)).trans (h.1 a ha), fun f hf => (h'.2 f (by omega)).trans (h.2 f hf)⟩
theorem IX.nh {m u u' : zM} {J : Nat → Nat} {n W d nT nQ nR nM : Nat} (h : IX m u J n W d nT nQ nR nM) (hu : nH u u') : IX m u' J n W d nT nQ nR nM := h.cg2 (fun a ha => hu.1 a (by omega)) (fun f hf => hu.2 f (by omega))
theorem gd_of {u : zM} {s : pS} (hs : mS u s) (h : mvW u s) : gd u s := by
  refine ⟨hs.1, fun e h1 h2 h3 => ?_⟩
  by_cases e4 : e < 4
  · exact h.2.1 e h1 e4
  · rcases h.2.2 with ⟨_, n, _, _, hN, _, _, _, hp⟩ | ⟨_, hN, _⟩ | ⟨_, hN, _⟩
    · obtain ⟨t, j, rfl, hj⟩ : ∃ t j, e = 4 + 5 * t + j ∧ j < 5 := ⟨(e - 4) / 5, (e - 4) % 5, by omega, by omega⟩
      obtain ⟨⟨_, _, _, q1⟩, _, q2⟩ := hp t (by omega)
      by_cases j0 : j = 0
      · subst j0
        rw [Nat.add_zero, q1.2.1] at h3
        exact absurd h3 (by decide)
      · have := q2 (j - 1) (by omega)
        rw [show 4 + 5 * t + 1 + (j - 1) = 4 + 5 * t + j by omega] at this
        exact this
    · omega
    · omega
theorem shr_of {m u : zM} {J : Nat → Nat} {n W d nT nQ nR nM : Nat} (h : IX m u J n W d nT nQ nR nM) : shr m u nT nM n := by
  obtain ⟨⟨t1, t2, t3⟩, ⟨q1, q2, q3⟩, ⟨r1, r2, r3⟩, ⟨k1, k2, k3⟩, hrow, hq, hac, hen, hrp, hmn⟩ := h.l
  exact ⟨⟨t2, t3⟩, ⟨k2, k3⟩, ⟨h.j.2.1, h.j.2.2.1⟩, fun t ht => ⟨(hrow t ht).2.2.2.2.2, (hrow t ht).1, (hrow t ht).2.2.1, (hrow t ht).2.2.2.1⟩, hmn, fun a ha => ⟨(hac a ha).1, (hac a ha).2.1⟩, h.lim.symm⟩
theorem kR2_up {m u : zM} {nR nR' : Nat} (h : kR2 m u nR) (h1 : nR ≤ nR') (h2 : nR' ≤ 40) : kR2 m u nR' := by
  obtain ⟨a1, a2, a3⟩ := h
  refine ⟨fun r hr => ?_, fun r g1 g2 => a2 r (by omega) g2, fun r g1 g2 => a3 r (by omega) g2⟩
  by_cases g : r < nR
  · exact a1 r g
  · rw [a2 r (by omega) (by omega), a3 r (by omega) (by omega)]
/-- the record of a message -/
def Dm (xs : List Nat) : Nat → Nat := fun j => if j = 0 then 77 else if j = 1 then 0 else xs.getD (j - 2) 0
theorem Dm_lt {xs : List Nat} (h : ∀ c ∈ xs, c < 256) (j : Nat) : Dm xs j < 256 := by
  unfold Dm
  split
  · decide
  · split
    · decide
    · exact getD_lt xs h _
theorem zPre_m {m : zM} {n : Nat} {xs : List Nat} (h : ∀ c ∈ xs, c < 256) (h1 : 1 ≤ xs.length) (h2 : xs.length ≤ 207) (hn : m 14 1 = nI n) (hn2 : n < 4000) : zPre (cA (bg m) 2 xs) n (2 + xs.length) (Dm xs) := by
  have e : bg m 14 4 = nI 2 := by unfold bg; simp (disch := first | omega | decide) only [zcn, zkpl, zki, zki1, zk8, zk16, zo32, zlt0, zle0, zeq0, zgt0, zLe0, nI_ltI, nI_leI, nI_eq, nI_add, nI_clamp, vp_in_nI, zup_s, zup_n, upd_s, upd_n, ne_eq, not_true_eq_false, not_false_eq_true]
  refine ⟨cA_cnt e xs, by omega, by omega, fun j hj => ⟨Dm_lt h j, ?_⟩, ?_, by omega⟩
  · by_cases g : j < 2
    · have o := apd_old (A := 16) (F := 14) (f := 4) (by decide) xs (bg m) 2 j g
      rw [show cA (bg m) 2 xs 16 j = bg m 16 j from o]
      obtain rfl | rfl : j = 0 ∨ j = 1 := by omega
      · unfold bg Dm
        simp (disch := first | omega | decide) only [zcn, zkpl, zki, zki1, zk8, zk16, zo32, zlt0, zle0, zeq0, zgt0, zLe0, nI_ltI, nI_leI, nI_eq, nI_add, nI_clamp, vp_in_nI, zup_s, zup_n, upd_s, upd_n, ne_eq, not_true_eq_false, not_false_eq_true]
        rfl
      · unfold bg Dm
        simp (disch := first | omega | decide) only [zcn, zkpl, zki, zki1, zk8, zk16, zo32, zlt0, zle0, zeq0, zgt0, zLe0, nI_ltI, nI_leI, nI_eq, nI_add, nI_clamp, vp_in_nI, zup_s, zup_n, upd_s, upd_n, ne_eq, not_true_eq_false, not_false_eq_true]
        rfl
    · have o := apd_new (A := 16) (F := 14) (f := 4) (by decide) xs (bg m) 2 (j - 2) (by omega)
      rw [show 2 + (j - 2) = j by omega] at o
      rw [show cA (bg m) 2 xs 16 j = _ from o]
      unfold Dm
      rw [if_neg (by omega), if_neg (by omega)]
  · have o := apd_fld (A := 16) (F := 14) (f := 4) (g := 1) (by decide) (by decide) xs (bg m) 2
    rw [show cA (bg m) 2 xs 14 1 = bg m 14 1 from o]
    unfold bg
    simp (disch := first | omega | decide) only [hn, zcn, zkpl, zki, zki1, zk8, zk16, zo32, zlt0, zle0, zeq0, zgt0, zLe0, nI_ltI, nI_leI, nI_eq, nI_add, nI_clamp, vp_in_nI, zup_s, zup_n, upd_s, upd_n, ne_eq, not_true_eq_false, not_false_eq_true]
theorem cA_14 {m : zM} {xs : List Nat} {f : Nat} (hf : f ≠ 4) : cA (bg m) 2 xs 14 f = m 14 f := by
  have o := apd_fld (A := 16) (F := 14) (f := 4) (g := f) (by decide) hf xs (bg m) 2
  rw [show cA (bg m) 2 xs 14 f = bg m 14 f from o]
  unfold bg
  rw [zup_s, upd_n _ hf, zup_n _ (by decide), zup_s, upd_n _ hf, zup_n _ (by decide), zup_s, upd_n _ hf]
theorem mPre_m {u : zM} {n : Nat} {xs : List Nat} (h : ∀ c ∈ xs, c < 256) (h1 : 1 ≤ xs.length) (h2 : xs.length ≤ 207) (hn : u 42 36 = nI n) (hn2 : n < 4000) : mPre (uA (zup u 42 34 (nI 0)) 0 xs) n (2 + xs.length) (Dm xs) := by
  have e : zup u 42 34 (nI 0) 42 34 = nI 0 := by simp (disch := first | omega | decide) only [zcn, zkpl, zki, zki1, zk8, zk16, zo32, zlt0, zle0, zeq0, zgt0, zLe0, nI_ltI, nI_leI, nI_eq, nI_add, nI_clamp, vp_in_nI, zup_s, zup_n, upd_s, upd_n, ne_eq, not_true_eq_false, not_false_eq_true]
  refine ⟨?_, by omega, by omega, fun j hj => Dm_lt h j, fun j g1 g2 => ?_, ?_, by omega⟩
  · rw [uA_cnt e xs]
    congr 1
    omega
  · have o := apd_new (A := 57) (F := 42) (f := 34) (by decide) xs (zup u 42 34 (nI 0)) 0 (j - 2) (by omega)
    rw [Nat.zero_add] at o
    rw [show uA (zup u 42 34 (nI 0)) 0 xs 57 (j - 2) = _ from o]
    unfold Dm
    rw [if_neg (by omega), if_neg (by omega)]
  · rw [uA_fld (by decide)]
    simp (disch := first | omega | decide) only [hn, zcn, zkpl, zki, zki1, zk8, zk16, zo32, zlt0, zle0, zeq0, zgt0, zLe0, nI_ltI, nI_leI, nI_eq, nI_add, nI_clamp, vp_in_nI, zup_s, zup_n, upd_s, upd_n, ne_eq, not_true_eq_false, not_false_eq_true]
/-- the model does a message's record -/
theorem es_202M {u u' : zM} {p : Nat} {c : Nat} (hp : p < 5000) (hk : u 58 p = nI 77) (hc' : u 58 (p + 2) = nI c) (hE : Ev 200 [.ref 42, .int (nI (p + 2))] u none u') : Ev 202 [.ref 42, .int (nI p)] u none u' := by
  intro Q hQ
  refine mr_head (by omega) hk hc' Q ?_
  have fin : ZW 202 (0, 0, 0, 0) 29 [(3, .int (nI c)), (2, .int (nI 77)), (0, .ref 42), (1, .int (nI p))] [] (SH, u') Q := by
    refine zgo 2 [] ?_
    exact hQ
  have e2 : nI p + Int32.ofInt 2 = nI (p + 2) := by rw [zki, nI_add]
  rw [← e2] at hE
  refine zgo 20 [] ?_
  repeat' (first
    | (exact hE.use fin)
    | (show vp_in _ _; simp (disch := first | omega | decide) only [zcn, zkpl, zki, zki1, zk8, zk16, zo32, zlt0, zle0, zeq0, zgt0, zLe0, nI_ltI, nI_leI, nI_eq, nI_add, nI_clamp, vp_in_nI, zup_s, zup_n, upd_s, upd_n, ne_eq, not_true_eq_false, not_false_eq_true]; done)
    | (intro hc; exfalso; simp (disch := first | omega | decide) only [zcn, zkpl, zki, zki1, zk8, zk16, zo32, zlt0, zle0, zeq0, zgt0, zLe0, nI_ltI, nI_leI, nI_eq, nI_add, nI_clamp, vp_in_nI, zup_s, zup_n, upd_s, upd_n, ne_eq, not_true_eq_false, not_false_eq_true] at hc <;> omega)
    | (intro hc; exact absurd rfl hc)
    | intro hc
    | apply And.intro
    | exact Or.inl rfl
    | exact Or.inr rfl
    | (show (_ : Int32) = 0 ∨ _ = 1; simp (disch := first | omega | decide) only [zcn, zkpl, zki, zki1, zk8, zk16, zo32, zlt0, zle0, zeq0, zgt0, zLe0, nI_ltI, nI_leI, nI_eq, nI_add, nI_clamp, vp_in_nI, zup_s, zup_n, upd_s, upd_n, ne_eq, not_true_eq_false, not_false_eq_true, zeq1, true_or, or_true]; done))
theorem lt_mtx {K n : Nat} {nm : Nat → List Nat} {vl pl dg : Nat → Nat} (ho : okM K n nm vl pl dg) : ∀ c ∈ mtx K n nm vl pl dg, c < 256 := by
  obtain ⟨o1, o2, o3, o4, o5, o6, o7⟩ := ho
  rcases o1 with ⟨rfl, hn⟩ | ⟨rfl, rfl⟩ | ⟨rfl, rfl⟩
  · rw [m80]
    exact lt_app (lt_b (by decide)) (lt_app (lt_b (by decide)) (lt_app (fun c hc' => (nm_ch o2 c hc').2) (lt_app (lt_e (by decide)) (lt_app (lt_lf (by decide) (fun c hc' => by have := nda_ch _ c hc'; omega)) (lt_app (lt_lf (by decide) (fun c hc' => (amT_ch2 c hc').2)) (lt_app (lt_ptx o7 n 0 (by omega)) (lt_e (by decide))))))))
  · rw [m81]
    exact lt_app (lt_b (by decide)) (lt_app (lt_b (by decide)) (lt_app (fun c hc' => (nm_ch o2 c hc').2) (lt_app (lt_e (by decide)) (lt_app (lt_lf (by decide) (fun c hc' => (nm_ch (o3 (by decide)) c hc').2)) (lt_app (lt_lf (by decide) (fun c hc' => by
      have := o5 rfl
      simp only [List.mem_cons, List.not_mem_nil, or_false] at hc'
      omega)) (lt_e (by decide)))))))
  · rw [m82]
    exact lt_app (lt_b (by decide)) (lt_app (lt_b (by decide)) (lt_app (fun c hc' => (nm_ch o2 c hc').2) (lt_app (lt_e (by decide)) (lt_app (lt_lf (by decide) (fun c hc' => (nm_ch (o3 (by decide)) c hc').2)) (lt_app (lt_lf (by decide) (fun c hc' => (amT_ch2 c hc').2)) (lt_e (by decide)))))))
theorem mtx_1 {K n : Nat} {nm : Nat → List Nat} {vl pl dg : Nat → Nat} : 1 ≤ (mtx K n nm vl pl dg).length := by
  unfold mtx
  simp only [List.length_append, List.length_cons, List.length_nil]
  omega
theorem rul_13 {m : zM} {nT nM nb K n r : Nat} {nm : Nat → List Nat} {vl pl dg : Nat → Nat} (h : rul m nT nM nb K n nm vl pl dg r) : r ≤ 13 := by
  unfold rul rbP fol rtn fol at h
  rcases h with ⟨_, g⟩ | ⟨_, ⟨k, g⟩ | ⟨k, g⟩ | ⟨k, g⟩⟩
  · omega
  · rcases g with ⟨_, g⟩ | ⟨_, _, g⟩ | ⟨_, _, _, g⟩ | ⟨_, _, _, _, g⟩ | ⟨_, _, _, _, _, g⟩ | ⟨_, _, _, _, _, _, g⟩ | ⟨_, _, _, _, _, _, g⟩ <;> omega
  · rcases g with ⟨_, g⟩ | ⟨_, _, g⟩ | ⟨_, _, _, _, ⟨_, g⟩ | ⟨_, g⟩⟩ <;> omega
  · rcases g with ⟨⟨_, g⟩ | ⟨_, _, g⟩ | ⟨_, _, _, _, ⟨_, g⟩ | ⟨_, g⟩⟩, _⟩ | ⟨_, _, _, _, _, ⟨_, g⟩ | ⟨_, _, _, _, ⟨_, g⟩ | ⟨_, g⟩⟩⟩ <;> omega
