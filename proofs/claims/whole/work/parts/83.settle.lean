/-! the model settles, rejects, gives back -/
def mst (u : zM) (n t d c r ed ec : Nat) : zM := zwk (ztl (men (men (zup u 68 d (u 68 d - u 61 t)) d ed (-(u 61 t))) c ec (u 61 t)) t r (nI 4)) 64 62 66 42 47 (nI c) 0 n
def mgb (u : zM) (n t d c r ed ec : Nat) (x : Int32) : zM := zwk (ztl (men (men u c ec (-x)) d ed x) t r (nI 6)) 64 62 66 42 47 (nI d) 0 n
theorem LR_settle {u m : zM} {nT nQ nR nM t d c ed ec : Nat} (h : LR u m nT nQ nR nM) (ht : t < nT) (h3 : m 33 t = nI 3) (hd : d < 4) (hc : c < 4) (hcd : c ≠ d) (hed : m 22 d = nI ed) (hed2 : ed < 40) (hec : m 22 c = nI ec) (hec2 : ec < 40) (hz : m 39 nR = 0) : ∃ q', LR (mst u nT t d c nR ed ec) (cst m nT t d c nR ed ec) nT q' (nR + 1) nM := by
  have e1 : u 68 d - u 61 t = m 21 d + -(m 30 t) := by
    rw [(h.1.2.2.2.2.2.2.1 d hd).2.1, (h.1.2.2.2.2.1 t ht).1, Int32.sub_eq_add_neg]
  have e2 : u 61 t = m 30 t := (h.1.2.2.2.2.1 t ht).1
  unfold mst cst
  rw [e1, e2]
  have hL := LR_enter (m 30 t) hc hec2 (by rw [cbk_22 hd hcd, zup_n _ (by decide)]; exact hec) (LR_enter (-(m 30 t)) hd hed2 (by rw [zup_n _ (by decide)]; exact hed) (LR_res (d := d) (m 21 d + -(m 30 t)) h))
  have f : ∀ b, b = 33 ∨ b = 39 → cbk (cbk (zup m 21 d (m 21 d + -(m 30 t))) d ed (-(m 30 t))) c ec (m 30 t) b = m b := fun b hb => by
    rw [cbk_far hc (by omega) (by omega) (by omega), cbk_far hd (by omega) (by omega) (by omega), zup_n _ (by omega)]
  exact LR_wake (nI c) (LR_end (s0 := 3) (s := 4) ht (by rw [f 33 (by omega)]; exact h3) (Or.inl ⟨rfl, Or.inl rfl⟩) (by rw [f 39 (by omega)]; exact hz) hL)
theorem LR_back {u m : zM} {nT nQ nR nM t d c ed ec : Nat} (x : Int32) (h : LR u m nT nQ nR nM) (ht : t < nT) (h4 : m 33 t = nI 4) (hd : d < 4) (hc : c < 4) (hcd : c ≠ d) (hed : m 22 d = nI ed) (hed2 : ed < 40) (hec : m 22 c = nI ec) (hec2 : ec < 40) (hz : m 39 nR = 0) : ∃ q', LR (mgb u nT t d c nR ed ec x) (cgb m nT t d c nR ed ec x) nT q' (nR + 1) nM := by
  unfold mgb cgb
  have hL := LR_enter x hd hed2 (by rw [cbk_22 hc (Ne.symm hcd)]; exact hed) (LR_enter (-x) hc hec2 hec h)
  have f : ∀ b, b = 33 ∨ b = 39 → cbk (cbk m c ec (-x)) d ed x b = m b := fun b hb => by
    rw [cbk_far hd (by omega) (by omega) (by omega), cbk_far hc (by omega) (by omega) (by omega)]
  exact LR_wake (nI d) (LR_end (s0 := 4) (s := 6) ht (by rw [f 33 (by omega)]; exact h4) (Or.inr ⟨rfl, rfl⟩) (by rw [f 39 (by omega)]; exact hz) hL)
theorem men_mF {u v : zM} {a e : Nat} {x : Int32} (h : mF u v) : mF u (men v a e x) := by
  unfold men
  exact ((h.up (by decide) (by decide)).up (by decide) (by decide)).up (by decide) (by decide)
theorem ztl_mF {u v : zM} {t r : Nat} {s : Int32} (h : mF u v) : mF u (ztl v t r s) := by
  unfold ztl
  exact ((((h.up (by decide) (by decide)).up (by decide) (by decide)).up (by decide) (by decide)).up (by decide) (by decide)).fld (by omega)
theorem mst_mF {u : zM} {n t d c r ed ec : Nat} : mF u (mst u n t d c r ed ec) := by
  unfold mst
  exact (ztl_mF (men_mF (men_mF ((mF.rf u).up (by decide) (by decide))))).wk
theorem mgb_mF {u : zM} {n t d c r ed ec : Nat} {x : Int32} : mF u (mgb u n t d c r ed ec x) := by
  unfold mgb
  exact (ztl_mF (men_mF (men_mF (mF.rf u)))).wk
theorem mrj_mF {u : zM} {n t d r : Nat} : mF u (mrj u n t d r) := by
  unfold mrj
  exact (ztl_mF ((mF.rf u).up (by decide) (by decide))).wk
theorem men_far {u : zM} {a e b : Nat} {v : Int32} (h1 : b ≠ 67) (h2 : b ≠ 69) (h3 : b ≠ 70) : men u a e v b = u b := by
  unfold men
  rw [zup_n _ h1, zup_n _ h3, zup_n _ h2]
theorem men_70 {u : zM} {a e b : Nat} {v : Int32} (h : b ≠ a) : men u a e v 70 b = u 70 b := by
  unfold men
  rw [zup_n _ (by decide), zup_s, upd_n _ h, zup_n _ (by decide)]
/-- rejected -/
theorem dm_rej {u : zM} {n q r t d p P7 : Nat} {L : zLs} {x5 x4 x3 : Int32} (hL : L = [(7, .int (nI P7)), (6, .int (nI t)), (5, .int x5), (4, .int x4), (3, .int x3), (2, .int (nI 81)), (0, .ref 42), (1, .int (nI p))]) (hP : P7 < 6000) (hv : u 58 P7 = nI 82) (hn : n ≤ 20) (ht : t < n) (hr : r < 64) (hdd : d < 4) (hm : u 42 45 = nI n) (hR : u 42 55 = nI r) (hq : u 42 47 = nI q) (hdb : u 62 t = nI d) (hcn : q + cnt (upd (u 64) t (nI 5)) (nI 2) n ≤ 20) (Q : zQ) (hQ : Q none (SH, mrj u n t d r)) : ZW 200 (0, 0, 0, 0) 143 L [] (SH, u) Q := by
  subst hL
  have sR := mw_reject hn ht hr hdd hm hR hq hdb hcn
  have f167 : ZW 200 (0, 0, 0, 0) 167 [(7, .int (nI P7)), (6, .int (nI t)), (5, .int x5), (4, .int x4), (3, .int x3), (2, .int (nI 81)), (0, .ref 42), (1, .int (nI p))] [] (SH, mrj u n t d r) Q := by
    refine zgo 2 [] ?_
    exact hQ
  refine zgo 20 [] ?_
  repeat' (first
    | (exact sR.use f167)
    | (show vp_in _ _; simp (disch := first | omega | decide) only [hv, zcn, zkpl, zki, zki1, zk8, zk16, zo32, zlt0, zle0, zeq0, zgt0, zLe0, nI_ltI, nI_leI, nI_eq, nI_add, nI_clamp, vp_in_nI, zup_s, zup_n, upd_s, upd_n, ne_eq, not_true_eq_false, not_false_eq_true]; done)
    | (intro hc; exfalso; simp (disch := first | omega | decide) only [hv, zcn, zkpl, zki, zki1, zk8, zk16, zo32, zlt0, zle0, zeq0, zgt0, zLe0, nI_ltI, nI_leI, nI_eq, nI_add, nI_clamp, vp_in_nI, zup_s, zup_n, upd_s, upd_n, ne_eq, not_true_eq_false, not_false_eq_true] at hc <;> omega)
    | (intro hc; exact absurd rfl hc)
    | intro hc
    | apply And.intro
    | exact Or.inl rfl
    | exact Or.inr rfl
    | (show (_ : Int32) = 0 ∨ _ = 1; simp (disch := first | omega | decide) only [hv, zcn, zkpl, zki, zki1, zk8, zk16, zo32, zlt0, zle0, zeq0, zgt0, zLe0, nI_ltI, nI_leI, nI_eq, nI_add, nI_clamp, vp_in_nI, zup_s, zup_n, upd_s, upd_n, ne_eq, not_true_eq_false, not_false_eq_true, zeq1, true_or, or_true]; done))
theorem dm_set {u : zM} {n q r t d c ed ec p P7 : Nat} {L : zLs} {x5 x4 x3 : Int32} (hL : L = [(7, .int (nI P7)), (6, .int (nI t)), (5, .int x5), (4, .int x4), (3, .int x3), (2, .int (nI 81)), (0, .ref 42), (1, .int (nI p))]) (hP : P7 < 6000) (hv : u 58 P7 = nI 65) (hn : n ≤ 20) (ht : t < n) (hr : r < 64) (hdd : d < 4) (hc4 : c < 4) (hcd : c ≠ d) (hm : u 42 45 = nI n) (hR : u 42 55 = nI r) (hq : u 42 47 = nI q) (hdb : u 62 t = nI d) (hcb : u 63 t = nI c) (hed : u 70 d = nI ed) (hed2 : ed < 40) (hec : u 70 c = nI ec) (hec2 : ec < 40) (hcn : q + cnt (upd (u 64) t (nI 4)) (nI 2) n ≤ 20) (Q : zQ) (hQ : Q none (SH, mst u n t d c r ed ec)) : ZW 200 (0, 0, 0, 0) 143 L [] (SH, u) Q := by
  have hL0 := hL
  unfold mst at hQ
  have s1 := mw_enter (u := zup u 68 d (u 68 d - u 61 t)) (a := d) (e := ed) (-(u 61 t)) hdd (by omega) (by rw [zup_n _ (by decide)]; exact hed)
  generalize hu1 : zup u 68 d (u 68 d - u 61 t) = u1 at *
  have g1 : ∀ b, b ≠ 68 → u1 b = u b := fun b hb => by rw [← hu1, zup_n _ hb]
  have s2 := mw_enter (u := men u1 d ed (-(u 61 t))) (a := c) (e := ec) (u 61 t) hc4 (by omega) (by rw [men_70 hcd, g1 70 (by decide)]; exact hec)
  generalize hu2 : men u1 d ed (-(u 61 t)) = u2 at *
  have g2 : ∀ b, b ≠ 67 → b ≠ 68 → b ≠ 69 → b ≠ 70 → u2 b = u b := fun b h1 h2 h3 h4 => by rw [← hu2, men_far h1 h3 h4, g1 b h2]
  generalize hu3 : men u2 c ec (u 61 t) = u3 at *
  have g3 : ∀ b, b ≠ 67 → b ≠ 68 → b ≠ 69 → b ≠ 70 → u3 b = u b := fun b h1 h2 h3 h4 => by rw [← hu3, men_far h1 h3 h4, g2 b h1 h2 h3 h4]
  have k42 : u3 42 = u 42 := g3 42 (by decide) (by decide) (by decide) (by decide)
  have s3 := mw_tell (u := u3) (r := r) (q := q) (nI 4) (nI c) hn ht hr (by rw [k42]; exact hm) (by rw [k42]; exact hR) (by rw [k42]; exact hq) (by rw [g3 64 (by decide) (by decide) (by decide) (by decide)]; exact hcn)
  have f249 : ZW 200 (0, 0, 0, 0) 249 L [] (SH, zwk (ztl u3 t r (nI 4)) 64 62 66 42 47 (nI c) 0 n) Q := by
    subst hL
    refine zgo 2 [] ?_
    exact hQ
  have c3 : u3 63 t = nI c := by rw [g3 63 (by decide) (by decide) (by decide) (by decide)]; exact hcb
  have c2 : u2 63 t = nI c := by rw [g2 63 (by decide) (by decide) (by decide) (by decide)]; exact hcb
  have a2 : u2 61 t = u 61 t := by rw [g2 61 (by decide) (by decide) (by decide) (by decide)]
  have d1 : u1 62 t = nI d := by rw [g1 62 (by decide)]; exact hdb
  have a1 : u1 61 t = u 61 t := by rw [g1 61 (by decide)]
  have r3 : ∀ z, z = nI c → Ev 198 [.ref 42, .int (nI t), .int (nI 4), .int z] u3 none (zwk (ztl u3 t r (nI 4)) 64 62 66 42 47 (nI c) 0 n) := by rintro z rfl; exact s3
  have r2 : ∀ y z, y = nI c → z = u 61 t → Ev 197 [.ref 42, .int y, .int z] u2 none u3 := by rintro y z rfl rfl; exact s2
  have r1 : ∀ y z, y = nI d → z = -(u 61 t) → Ev 197 [.ref 42, .int y, .int z] u1 none u2 := by rintro y z rfl rfl; exact s1
  have f235 : ZW 200 (0, 0, 0, 0) 235 L [] (SH, u3) Q := by
    subst hL
    refine zgo 10 [] ?_
    repeat' (first
      | (exact (r3 _ (by simp (disch := first | omega | decide) only [c3, zcn, zkpl, zki, zki1, zk8, zk16, zo32, zlt0, zle0, zeq0, zgt0, zLe0, nI_ltI, nI_leI, nI_eq, nI_add, nI_clamp, vp_in_nI, zup_s, zup_n, upd_s, upd_n, ne_eq, not_true_eq_false, not_false_eq_true])).use f249)
      | (show vp_in _ _; simp (disch := first | omega | decide) only [zcn, zkpl, zki, zki1, zk8, zk16, zo32, zlt0, zle0, zeq0, zgt0, zLe0, nI_ltI, nI_leI, nI_eq, nI_add, nI_clamp, vp_in_nI, zup_s, zup_n, upd_s, upd_n, ne_eq, not_true_eq_false, not_false_eq_true]; done)
      | (intro hc; exfalso; simp (disch := first | omega | decide) only [zcn, zkpl, zki, zki1, zk8, zk16, zo32, zlt0, zle0, zeq0, zgt0, zLe0, nI_ltI, nI_leI, nI_eq, nI_add, nI_clamp, vp_in_nI, zup_s, zup_n, upd_s, upd_n, ne_eq, not_true_eq_false, not_false_eq_true] at hc <;> omega)
      | (intro hc; exact absurd rfl hc)
      | intro hc
      | apply And.intro
      | exact Or.inl rfl
      | exact Or.inr rfl
      | (show (_ : Int32) = 0 ∨ _ = 1; simp (disch := first | omega | decide) only [zcn, zkpl, zki, zki1, zk8, zk16, zo32, zlt0, zle0, zeq0, zgt0, zLe0, nI_ltI, nI_leI, nI_eq, nI_add, nI_clamp, vp_in_nI, zup_s, zup_n, upd_s, upd_n, ne_eq, not_true_eq_false, not_false_eq_true, zeq1, true_or, or_true]; done))
  have f217 : ZW 200 (0, 0, 0, 0) 217 L [] (SH, u2) Q := by
    subst hL
    refine zgo 20 [] ?_
    repeat' (first
      | (exact (r2 _ _ (by simp (disch := first | omega | decide) only [c2, zcn, zkpl, zki, zki1, zk8, zk16, zo32, zlt0, zle0, zeq0, zgt0, zLe0, nI_ltI, nI_leI, nI_eq, nI_add, nI_clamp, vp_in_nI, zup_s, zup_n, upd_s, upd_n, ne_eq, not_true_eq_false, not_false_eq_true]) (by simp (disch := first | omega | decide) only [a2, zcn, zkpl, zki, zki1, zk8, zk16, zo32, zlt0, zle0, zeq0, zgt0, zLe0, nI_ltI, nI_leI, nI_eq, nI_add, nI_clamp, vp_in_nI, zup_s, zup_n, upd_s, upd_n, ne_eq, not_true_eq_false, not_false_eq_true])).use f235)
      | (show vp_in _ _; simp (disch := first | omega | decide) only [zcn, zkpl, zki, zki1, zk8, zk16, zo32, zlt0, zle0, zeq0, zgt0, zLe0, nI_ltI, nI_leI, nI_eq, nI_add, nI_clamp, vp_in_nI, zup_s, zup_n, upd_s, upd_n, ne_eq, not_true_eq_false, not_false_eq_true]; done)
      | (intro hc; exfalso; simp (disch := first | omega | decide) only [zcn, zkpl, zki, zki1, zk8, zk16, zo32, zlt0, zle0, zeq0, zgt0, zLe0, nI_ltI, nI_leI, nI_eq, nI_add, nI_clamp, vp_in_nI, zup_s, zup_n, upd_s, upd_n, ne_eq, not_true_eq_false, not_false_eq_true] at hc <;> omega)
      | (intro hc; exact absurd rfl hc)
      | intro hc
      | apply And.intro
      | exact Or.inl rfl
      | exact Or.inr rfl
      | (show (_ : Int32) = 0 ∨ _ = 1; simp (disch := first | omega | decide) only [zcn, zkpl, zki, zki1, zk8, zk16, zo32, zlt0, zle0, zeq0, zgt0, zLe0, nI_ltI, nI_leI, nI_eq, nI_add, nI_clamp, vp_in_nI, zup_s, zup_n, upd_s, upd_n, ne_eq, not_true_eq_false, not_false_eq_true, zeq1, true_or, or_true]; done))
  have f198 : ZW 200 (0, 0, 0, 0) 198 L [] (SH, u1) Q := by
    subst hL
    refine zgo 20 [] ?_
    repeat' (first
      | (exact (r1 _ _ (by simp (disch := first | omega | decide) only [d1, zcn, zkpl, zki, zki1, zk8, zk16, zo32, zlt0, zle0, zeq0, zgt0, zLe0, nI_ltI, nI_leI, nI_eq, nI_add, nI_clamp, vp_in_nI, zup_s, zup_n, upd_s, upd_n, ne_eq, not_true_eq_false, not_false_eq_true]) (by simp (disch := first | omega | decide) only [a1, zcn, zkpl, zki, zki1, zk8, zk16, zo32, zlt0, zle0, zeq0, zgt0, zLe0, nI_ltI, nI_leI, nI_eq, nI_add, nI_clamp, vp_in_nI, zup_s, zup_n, upd_s, upd_n, ne_eq, not_true_eq_false, not_false_eq_true])).use f217)
      | (show vp_in _ _; simp (disch := first | omega | decide) only [zcn, zkpl, zki, zki1, zk8, zk16, zo32, zlt0, zle0, zeq0, zgt0, zLe0, nI_ltI, nI_leI, nI_eq, nI_add, nI_clamp, vp_in_nI, zup_s, zup_n, upd_s, upd_n, ne_eq, not_true_eq_false, not_false_eq_true]; done)
      | (intro hc; exfalso; simp (disch := first | omega | decide) only [zcn, zkpl, zki, zki1, zk8, zk16, zo32, zlt0, zle0, zeq0, zgt0, zLe0, nI_ltI, nI_leI, nI_eq, nI_add, nI_clamp, vp_in_nI, zup_s, zup_n, upd_s, upd_n, ne_eq, not_true_eq_false, not_false_eq_true] at hc <;> omega)
      | (intro hc; exact absurd rfl hc)
      | intro hc
      | apply And.intro
      | exact Or.inl rfl
      | exact Or.inr rfl
      | (show (_ : Int32) = 0 ∨ _ = 1; simp (disch := first | omega | decide) only [zcn, zkpl, zki, zki1, zk8, zk16, zo32, zlt0, zle0, zeq0, zgt0, zLe0, nI_ltI, nI_leI, nI_eq, nI_add, nI_clamp, vp_in_nI, zup_s, zup_n, upd_s, upd_n, ne_eq, not_true_eq_false, not_false_eq_true, zeq1, true_or, or_true]; done))
  subst hL
  refine zgo 26 [] ?_
  repeat' (first
    | (exact zcg (by rw [← hu1]; simp (disch := first | omega | decide) only [hdb, zcn, zkpl, zki, zki1, zk8, zk16, zo32, zlt0, zle0, zeq0, zgt0, zLe0, nI_ltI, nI_leI, nI_eq, nI_add, nI_clamp, vp_in_nI, zup_s, zup_n, upd_s, upd_n, ne_eq, not_true_eq_false, not_false_eq_true]) f198)
    | (show vp_in _ _; simp (disch := first | omega | decide) only [hv, hdb, zcn, zkpl, zki, zki1, zk8, zk16, zo32, zlt0, zle0, zeq0, zgt0, zLe0, nI_ltI, nI_leI, nI_eq, nI_add, nI_clamp, vp_in_nI, zup_s, zup_n, upd_s, upd_n, ne_eq, not_true_eq_false, not_false_eq_true]; done)
    | (intro hc; exfalso; simp (disch := first | omega | decide) only [hv, hdb, zcn, zkpl, zki, zki1, zk8, zk16, zo32, zlt0, zle0, zeq0, zgt0, zLe0, nI_ltI, nI_leI, nI_eq, nI_add, nI_clamp, vp_in_nI, zup_s, zup_n, upd_s, upd_n, ne_eq, not_true_eq_false, not_false_eq_true] at hc <;> omega)
    | (intro hc; exact absurd rfl hc)
    | intro hc
    | apply And.intro
    | exact Or.inl rfl
    | exact Or.inr rfl
    | (show (_ : Int32) = 0 ∨ _ = 1; simp (disch := first | omega | decide) only [hv, hdb, zcn, zkpl, zki, zki1, zk8, zk16, zo32, zlt0, zle0, zeq0, zgt0, zLe0, nI_ltI, nI_leI, nI_eq, nI_add, nI_clamp, vp_in_nI, zup_s, zup_n, upd_s, upd_n, ne_eq, not_true_eq_false, not_false_eq_true, zeq1, true_or, or_true]; done))
