/-! THE EVALUATOR IS SOUND: written by wip/gen/emit10.py -/
def zSf (k : Nat) (is : zIs) : Prop := ∃ pre, zI k = pre ++ is
theorem zif_inv {c : Prop} [Decidable c] {a : Prop} (h : zif c a) : c ∧ a := by
  unfold zif at h
  by_cases hc : c
  · rw [if_pos hc] at h
    exact ⟨hc, h⟩
  · rw [if_neg hc] at h
    exact h.elim
theorem zif2_inv {c : Prop} [Decidable c] {a b : Prop} (h : zif2 c a b) : (c ∧ a) ∨ (¬ c ∧ b) := by
  unfold zif2 at h
  by_cases hc : c
  · rw [if_pos hc] at h
    exact Or.inl ⟨hc, h⟩
  · rw [if_neg hc] at h
    exact Or.inr ⟨hc, h⟩
theorem zbz_inv {h : zH} {a : Nat} {f f2 : Nat → Prop} (w : zbz h a f f2) : (∃ n rs, h.1[a]? = some (.inl 1, n, rs) ∧ f n) ∨ (∃ n rs, h.1[a]? = some (.inl 2, n, rs) ∧ f2 n) := by
  unfold zbz at w
  split at w
  · rename_i n rs e
    exact Or.inl ⟨n, rs, e, w⟩
  · rename_i n rs e
    exact Or.inr ⟨n, rs, e, w⟩
  · exact w.elim
theorem zra_inv {h : zH} {a : Nat} {f : Nat → List (Option Nat) → Prop} (w : zra h a f) : ∃ n rs, h.1[a]? = some (.inl 4, n, rs) ∧ f n rs := by
  unfold zra at w
  split at w
  · rename_i n rs e
    exact ⟨n, rs, e, w⟩
  · exact w.elim
theorem zal_inv {h : zH} {a : Nat} {f : Nat → Prop} (w : zal h a f) : ∃ t n rs, h.1[a]? = some (.inl t, n, rs) ∧ t < 5 ∧ f n := by
  unfold zal at w
  split at w
  · rename_i t n rs e
    by_cases ht : t < 5
    · rw [if_pos ht] at w
      exact ⟨t, n, rs, e, ht, w⟩
    · rw [if_neg ht] at w
      exact w.elim
  · exact w.elim
theorem zrc_inv {st : List Value} {na : Nat} {f : Nat → Prop} (w : zrc st na f) : ∃ a tl, st.drop (na - 1) = .ref a :: tl ∧ f a := by
  unfold zrc at w
  split at w
  · rename_i a tl e
    exact ⟨a, tl, e, w⟩
  · exact w.elim
theorem zc1_inv {st : List Value} {f : Value → List Value → Prop} (w : zc1 st f) : ∃ v r, st = v :: r ∧ v.category = 1 ∧ f v r := by
  unfold zc1 at w
  split at w
  · rename_i v r
    by_cases hv : v.category = 1
    · rw [if_pos hv] at w
      exact ⟨v, r, rfl, hv, w⟩
    · rw [if_neg hv] at w
      exact w.elim
  · exact w.elim
theorem zr1_inv {st : List Value} {f : Int32 → Prop} (w : zr1 st f) : ∃ v, st = [.int v] ∧ f v := by
  unfold zr1 at w
  split at w
  · exact ⟨_, rfl, w⟩
  · exact w.elim
theorem zrA_inv {st : List Value} {ty : Option FieldType} {f : Nat → Prop} (w : zrA st ty f) : ∃ v n, st = [.ref v] ∧ ty = some (.object n) ∧ f v := by
  unfold zrA at w
  split at w
  · exact ⟨_, _, rfl, rfl, w⟩
  · exact w.elim
theorem zr0_inv {st : List Value} {ty : Option FieldType} {f : Prop} (w : zr0 st ty f) : st = [] ∧ ty = none ∧ f := by
  unfold zr0 at w
  split at w
  · exact ⟨rfl, rfl, w⟩
  · exact w.elim
theorem zret_inv {ty : Option FieldType} {v : Int32} {f : Prop} (w : zret ty v f) : (ty = some .int ∨ (ty = some .boolean ∧ (v = 0 ∨ v = 1))) ∧ f := by
  unfold zret at w
  split at w
  · exact ⟨Or.inl rfl, w⟩
  · exact ⟨Or.inr ⟨rfl, w.1⟩, w.2⟩
  · exact w.elim
theorem zat0_inv {t : ArrayType} {d : Nat} (h : zat0 t = some d) : (t = .int ∧ d = 0) ∨ (t = .byte ∧ d = 1) ∨ (t = .boolean ∧ d = 2) ∨ (t = .char ∧ d = 3) := by
  cases t <;> simp [zat0] at h <;> simp [h]
theorem zI_lt {k : Nat} (h : zI k ≠ []) : k < 234 := by
  apply Decidable.byContradiction
  intro hn
  apply h
  unfold zI
  by_cases h1 : k / 16 < 15
  · have h2 : k / 16 = 14 := by omega
    rw [h2]
    exact zgD (by show 10 ≤ k % 16; omega)
  · rw [show zIT.getD (k / 16) [] = [] from zgD (by show 15 ≤ k / 16; omega)]
    rfl
theorem zsq_drop : ∀ (pre : zIs) (is : zIs), zsq (pre ++ is) = true → zsq is = true
  | [], _, h => h
  | e :: r, is, h => by
    have h1 : zsq (e :: (r ++ is)) = true := h
    unfold zsq at h1
    rw [Bool.and_eq_true] at h1
    exact zsq_drop r is h1.2
theorem zdec {k : Nat} {e : Nat × Instr × Nat × Bool} {is : zIs} (hs : zSf k (e :: is)) : decode (zC k) e.1 = .ok (e.2.1, e.2.2.1) ∧ (zlen e.2.1 = 0 ∨ zlen e.2.1 = e.2.2.1) ∧ (is ≠ [] → zpc is = e.1 + e.2.2.1) ∧ zSf k is := by
  obtain ⟨pre, hp⟩ := hs
  have hk : k < 234 := zI_lt (by rw [hp]; simp)
  have hmem : e ∈ zI k := by
    rw [hp]
    simp
  obtain ⟨h1, h2⟩ := zD_all k hk
  have h3 := List.all_eq_true.mp h1 e hmem
  have h4 := List.all_eq_true.mp (zln_all k hk) e hmem
  simp only [decide_eq_true_eq] at h3
  simp only [Bool.or_eq_true, beq_iff_eq] at h4
  refine ⟨h3, h4, ?_, pre ++ [e], by rw [hp]; simp⟩
  rw [hp] at h2
  have h5 := zsq_drop pre _ h2
  intro hne
  cases is with
  | nil => exact absurd rfl hne
  | cons f r =>
    unfold zsq at h5
    rw [Bool.and_eq_true] at h5
    simpa [zpc] using h5.1
theorem zdr_sf : ∀ (l : zIs) (t : Nat), ∃ pre, l = pre ++ zdr l t
  | [], _ => ⟨[], rfl⟩
  | e :: r, t => by
    unfold zdr
    split
    · exact ⟨[], rfl⟩
    · obtain ⟨pre, h⟩ := zdr_sf r t
      exact ⟨e :: pre, by rw [List.cons_append, ← h]⟩
theorem zat_sf (k t : Nat) : zSf k (zat k t) := zdr_sf (zI k) t
theorem zdr_pc : ∀ (l : zIs) (t : Nat), zdr l t ≠ [] → zpc (zdr l t) = t
  | [], _, h => absurd rfl h
  | e :: r, t, h => by
    unfold zdr at h ⊢
    split
    · rename_i h1
      simpa [zpc] using h1
    · rename_i h1
      rw [if_neg h1] at h
      exact zdr_pc r t h
theorem zat_pc {k t : Nat} (h : zat k t ≠ []) : zpc (zat k t) = t := zdr_pc _ _ h
theorem zw_nil {N : List Nat} {n k : Nat} {g : Nat × Nat × Nat × Nat} {ls : zLs} {st : List Value} {h : zH} {Q : zQ} (hz : zw N n k g [] ls st h Q) : False := by
  cases n <;> exact hz
theorem zw_ne {N : List Nat} {n k : Nat} {g : Nat × Nat × Nat × Nat} {is : zIs} {ls : zLs} {st : List Value} {h : zH} {Q : zQ} (hz : zw N n k g is ls st h Q) : is ≠ [] := by
  intro e
  subst e
  exact zw_nil hz
theorem zi_ne {is : zIs} {P Q : Prop} (h : zif2 (zhd is = true) P Q) (hq : Q → is ≠ []) : is ≠ [] := by
  intro e
  subst e
  exact hq h rfl
theorem zsplit {st tl : List Value} {na a : Nat} (h : st.drop (na - 1) = .ref a :: tl) (h0 : 0 < na) : (st.take na).reverse = .ref a :: (st.take (na - 1)).reverse ∧ st = (st.take (na - 1)).reverse.reverse ++ .ref a :: st.drop na := by
  obtain ⟨n, rfl⟩ : ∃ n, na = n + 1 := ⟨na - 1, by omega⟩
  rw [Nat.add_sub_cancel] at h ⊢
  have h1 : st[n]? = some (.ref a) := by
    have := congrArg (fun l => l[0]?) h
    simpa [List.getElem?_drop] using this
  have h2 : st.drop (n + 1) = tl := by
    have := congrArg (List.drop 1) h
    simpa [List.drop_drop] using this
  have h3 : st.take (n + 1) = st.take n ++ [.ref a] := by
    rw [List.take_add_one, h1]
    rfl
  refine ⟨by rw [h3]; simp, ?_⟩
  rw [List.reverse_reverse, h2, ← h, List.take_append_drop]
theorem zNa_pos {j : Nat} (hj : j < 219) (hs : zSt j = false) : 0 < zNa j := by
  have hm := zmo_all j hj
  simp only [zmo, Bool.and_eq_true, decide_eq_true_eq, hs, Bool.false_or] at hm
  exact hm.2
theorem zst_pc {j : Nat} (hj : j < 234) : zpc (zI j) = 0 := by
  have h := zst_all j hj
  unfold zst at h
  unfold zpc
  generalize zI j = l at h ⊢
  cases l with
  | nil => cases h
  | cons e r => exact eq_of_beq h
theorem zsw_mono {x : Int32} {d : Nat} {f f' : Nat → Prop} (hf : ∀ t, f t → f' t) : ∀ (ps : List (Int × Nat)), zsw x ps d f → zsw x ps d f'
  | [], h => hf _ h
  | (_, _) :: r, h => ⟨fun e => hf _ (h.1 e), fun e => zsw_mono hf r (h.2 e)⟩
set_option maxHeartbeats 4000000 in
set_option maxRecDepth 20000 in
theorem zw_sound (N : List Nat) : ∀ (n k : Nat) (g : Nat × Nat × Nat × Nat) (is : zIs) (ls : zLs) (st : List Value) (h : zH) (Q : zQ), zSf k is → zw N n k g is ls st h Q → ZW k g (zpc is) ls st h Q := by
  intro n
  induction n with
  | zero =>
    intro k g is ls st h Q hs hz
    cases is with
    | nil => exact (zw_nil hz).elim
    | cons e r => exact hz
  | succ n ih =>
    intro k g is ls st h Q hs hz
    cases is with
    | nil => exact (zw_nil hz).elim
    | cons e is =>
    obtain ⟨pc, i, len, b⟩ := e
    obtain ⟨hd, hlen, hpc, hs'⟩ := zdec hs
    dsimp only at hd hlen hpc
    have nx : ∀ (is' : zIs) (ls' : zLs) (st' : List Value) (h' : zH), zSf k is' → zif2 (zhd is' = true) (ZW k g (zpc is') ls' st' h' Q) (zw N n k g is' ls' st' h' Q) → ZW k g (zpc is') ls' st' h' Q := by
      intro is' ls' st' h' h1 h2
      rcases zif2_inv h2 with ⟨-, h2⟩ | ⟨-, h2⟩
      · exact h2
      · exact ih k g is' ls' st' h' Q h1 h2
    have nx1 : ∀ (ls' : zLs) (st' : List Value) (h' : zH), zif2 (zhd is = true) (ZW k g (zpc is) ls' st' h' Q) (zw N n k g is ls' st' h' Q) → ZW k g (pc + len) ls' st' h' Q := by
      intro ls' st' h' h2
      have := nx is ls' st' h' hs' h2
      rwa [hpc (zi_ne h2 zw_ne)] at this
    have nx2 : ∀ (t : Nat) (ls' : zLs) (st' : List Value) (h' : zH), zif2 (zhd (zat k t) = true) (ZW k g (zpc (zat k t)) ls' st' h' Q) (zw N n k g (zat k t) ls' st' h' Q) → ZW k g t ls' st' h' Q := by
      intro t ls' st' h' h2
      have := nx (zat k t) ls' st' h' (zat_sf k t) h2
      rwa [zat_pc (zi_ne h2 zw_ne)] at this
    have jm : ∀ (off : Int) (ls' : zLs) (st' : List Value) (h' : zH), zif2 (off ≤ 0) (ZW k g (ztg pc off) ls' st' h' Q) (zif2 (zhd (zat k (ztg pc off)) = true) (ZW k g (zpc (zat k (ztg pc off))) ls' st' h' Q) (zw N n k g (zat k (ztg pc off)) ls' st' h' Q)) → ZW k g (ztg pc off) ls' st' h' Q := by
      intro off ls' st' h' h2
      rcases zif2_inv h2 with ⟨-, h2⟩ | ⟨-, h2⟩
      · exact h2
      · exact nx2 _ _ _ _ h2
    have cl : ∀ (j : Nat) (st : List Value) (P : Prop), zif (j < 219 ∧ zcr k j (st.drop (zNa j)) = true ∧ zsl (st.take (zNa j)).reverse ≤ zL j ∧ (st.take (zNa j)).length = zNa j ∧ g.2.2.1 ≤ g.1 ∧ g.2.2.2 ≤ g.2.1)
          (zif2 (N.contains j = true) (zw N n j (0, 0, 0, 0) (zI j) (lv_args 0 (st.take (zNa j)).reverse) [] h (fun r h => zif2 (zhd is = true) (ZW k g (zpc is) ls (r.toList ++ st.drop (zNa j)) h Q) (zw N n k g is ls (r.toList ++ st.drop (zNa j)) h Q)))
          (ZM j 0 0 (st.take (zNa j)).reverse h (fun r h => ZW k g (pc + 3) ls (r.toList ++ st.drop (zNa j)) h Q))) → len = 3 → (j < 219 → zcr k j (st.drop (zNa j)) = true → zsl (st.take (zNa j)).reverse ≤ zL j → (st.take (zNa j)).length = zNa j → (g.2.2.1 ≤ g.1 ∧ g.2.2.2 ≤ g.2.1) → ZM j 0 0 (st.take (zNa j)).reverse h (fun r h => ZW k g (pc + 3) ls (r.toList ++ st.drop (zNa j)) h Q) → P) → P := by
      intro j st P h2 hl3 hP
      obtain ⟨hc, h2⟩ := zif_inv h2
      refine hP hc.1 hc.2.1 hc.2.2.1 hc.2.2.2.1 hc.2.2.2.2 ?_
      rcases zif2_inv h2 with ⟨-, h2⟩ | ⟨-, h2⟩
      · have h3 := ih j (0, 0, 0, 0) (zI j) (lv_args 0 (st.take (zNa j)).reverse) [] h _ ⟨[], rfl⟩ h2
        rw [zst_pc (by have := hc.1; omega)] at h3
        refine ZW.mono (fun r h' hq => ?_) h3
        have := nx1 _ _ _ hq
        rwa [hl3] at this
      · exact h2
    show ZW k g pc ls st h Q
    unfold zw at hz
    dsimp only at hz
    cases i
    case iconst c =>
      have hl : len = 1 := by simpa [zlen, eq_comm] using hlen
      subst hl
      exact ZW.iconst hd (nx1 _ _ _ hz)
    case bipush c =>
      have hl : len = 2 := by simpa [zlen, eq_comm] using hlen
      subst hl
      exact ZW.bipush hd (nx1 _ _ _ hz)
    case sipush c =>
      have hl : len = 3 := by simpa [zlen, eq_comm] using hlen
      subst hl
      exact ZW.sipush hd (nx1 _ _ _ hz)
    case ldc x =>
      dsimp only at hz
      have hl : len = 2 := by simpa [zlen, eq_comm] using hlen
      subst hl
      cases hv : zKi (zO k) x with
      | some v =>
        rw [hv] at hz
        exact ZW.ldc hv hd (nx1 _ _ _ hz)
      | none =>
        rw [hv] at hz
        obtain ⟨j, hj, hz⟩ := zo1_inv (show zo1 _ _ from hz)
        exact ZW.ldcS hj hd (nx1 _ _ _ hz)
    case ldc_w x =>
      dsimp only at hz
      have hl : len = 3 := by simpa [zlen, eq_comm] using hlen
      subst hl
      obtain ⟨v, hv, hz⟩ := zo1_inv hz
      exact ZW.ldcw hv hd (nx1 _ _ _ hz)
    case ldc2_w x =>
      dsimp only at hz
      have hl : len = 3 := by simpa [zlen, eq_comm] using hlen
      subst hl
      obtain ⟨v, hv, hz⟩ := zo1_inv hz
      exact ZW.ldc2 hv hd (nx1 _ _ _ hz)
    case iload x =>
      dsimp only at hz
      have hl : len = 2 := by simpa [zlen, eq_comm] using hlen
      subst hl
      obtain ⟨v, hm, hz⟩ := zld_inv hz
      obtain ⟨y, rfl, hz⟩ := zIv_inv hz
      exact ZW.iload hm hd (nx1 _ _ _ hz)
    case iload_n x =>
      dsimp only at hz
      have hl : len = 1 := by simpa [zlen, eq_comm] using hlen
      subst hl
      obtain ⟨v, hm, hz⟩ := zld_inv hz
      obtain ⟨y, rfl, hz⟩ := zIv_inv hz
      exact ZW.iload_n hm hd (nx1 _ _ _ hz)
    case lload x =>
      dsimp only at hz
      have hl : len = 2 := by simpa [zlen, eq_comm] using hlen
      subst hl
      obtain ⟨v, hm, hz⟩ := zld_inv hz
      obtain ⟨y, rfl, hz⟩ := zLv_inv hz
      exact ZW.lload hm hd (nx1 _ _ _ hz)
    case lload_n x =>
      dsimp only at hz
      have hl : len = 1 := by simpa [zlen, eq_comm] using hlen
      subst hl
      obtain ⟨v, hm, hz⟩ := zld_inv hz
      obtain ⟨y, rfl, hz⟩ := zLv_inv hz
      exact ZW.lload_n hm hd (nx1 _ _ _ hz)
    case aload x =>
      dsimp only at hz
      have hl : len = 2 := by simpa [zlen, eq_comm] using hlen
      subst hl
      obtain ⟨v, hm, hz⟩ := zld_inv hz
      obtain ⟨y, rfl, hz⟩ := zRv_inv hz
      exact ZW.aload hm hd (nx1 _ _ _ hz)
    case aload_n x =>
      dsimp only at hz
      have hl : len = 1 := by simpa [zlen, eq_comm] using hlen
      subst hl
      obtain ⟨v, hm, hz⟩ := zld_inv hz
      obtain ⟨y, rfl, hz⟩ := zRv_inv hz
      exact ZW.aload_n hm hd (nx1 _ _ _ hz)
    case istore x =>
      dsimp only at hz
      have hl : len = 2 := by simpa [zlen, eq_comm] using hlen
      subst hl
      obtain ⟨v, r, rfl, hz⟩ := zi1_inv hz
      obtain ⟨hc, hz⟩ := zif_inv hz
      exact ZW.istore hc hd (nx1 _ _ _ hz)
    case istore_n x =>
      dsimp only at hz
      have hl : len = 1 := by simpa [zlen, eq_comm] using hlen
      subst hl
      obtain ⟨v, r, rfl, hz⟩ := zi1_inv hz
      obtain ⟨hc, hz⟩ := zif_inv hz
      exact ZW.istore_n hc hd (nx1 _ _ _ hz)
    case astore x =>
      dsimp only at hz
      have hl : len = 2 := by simpa [zlen, eq_comm] using hlen
      subst hl
      obtain ⟨v, r, rfl, hz⟩ := za1_inv hz
      obtain ⟨hc, hz⟩ := zif_inv hz
      exact ZW.astore hc hd (nx1 _ _ _ hz)
    case astore_n x =>
      dsimp only at hz
      have hl : len = 1 := by simpa [zlen, eq_comm] using hlen
      subst hl
      obtain ⟨v, r, rfl, hz⟩ := za1_inv hz
      obtain ⟨hc, hz⟩ := zif_inv hz
      exact ZW.astore_n hc hd (nx1 _ _ _ hz)
    case lstore x =>
      dsimp only at hz
      have hl : len = 2 := by simpa [zlen, eq_comm] using hlen
      subst hl
      obtain ⟨v, r, rfl, hz⟩ := zl1_inv hz
      obtain ⟨hc, hz⟩ := zif_inv hz
      exact ZW.lstore hc hd (nx1 _ _ _ hz)
    case iinc x c =>
      dsimp only at hz
      have hl : len = 3 := by simpa [zlen, eq_comm] using hlen
      subst hl
      obtain ⟨v, hm, hz⟩ := zld_inv hz
      obtain ⟨y, rfl, hz⟩ := zIv_inv hz
      obtain ⟨hc, hz⟩ := zif_inv hz
      exact ZW.iinc hm hc hd (nx1 _ _ _ hz)
    case iadd =>
      dsimp only at hz
      have hl : len = 1 := by simpa [zlen, eq_comm] using hlen
      subst hl
      obtain ⟨x, y, r, rfl, hz⟩ := zi2_inv hz
      exact ZW.iadd hd (nx1 _ _ _ hz)
    case isub =>
      dsimp only at hz
      have hl : len = 1 := by simpa [zlen, eq_comm] using hlen
      subst hl
      obtain ⟨x, y, r, rfl, hz⟩ := zi2_inv hz
      exact ZW.isub hd (nx1 _ _ _ hz)
    case imul =>
      dsimp only at hz
      have hl : len = 1 := by simpa [zlen, eq_comm] using hlen
      subst hl
      obtain ⟨x, y, r, rfl, hz⟩ := zi2_inv hz
      exact ZW.imul hd (nx1 _ _ _ hz)
    case iand =>
      dsimp only at hz
      have hl : len = 1 := by simpa [zlen, eq_comm] using hlen
      subst hl
      obtain ⟨x, y, r, rfl, hz⟩ := zi2_inv hz
      exact ZW.iand hd (nx1 _ _ _ hz)
    case ior =>
      dsimp only at hz
      have hl : len = 1 := by simpa [zlen, eq_comm] using hlen
      subst hl
      obtain ⟨x, y, r, rfl, hz⟩ := zi2_inv hz
      exact ZW.ior hd (nx1 _ _ _ hz)
    case ishl =>
      dsimp only at hz
      have hl : len = 1 := by simpa [zlen, eq_comm] using hlen
      subst hl
      obtain ⟨x, y, r, rfl, hz⟩ := zi2_inv hz
      exact ZW.ishl hd (nx1 _ _ _ hz)
    case ishr =>
      dsimp only at hz
      have hl : len = 1 := by simpa [zlen, eq_comm] using hlen
      subst hl
      obtain ⟨x, y, r, rfl, hz⟩ := zi2_inv hz
      exact ZW.ishr hd (nx1 _ _ _ hz)
    case idiv =>
      dsimp only at hz
      have hl : len = 1 := by simpa [zlen, eq_comm] using hlen
      subst hl
      obtain ⟨x, y, r, rfl, hz⟩ := zi2_inv hz
      exact ZW.idiv hz.1 hd (nx1 _ _ _ hz.2)
    case irem =>
      dsimp only at hz
      have hl : len = 1 := by simpa [zlen, eq_comm] using hlen
      subst hl
      obtain ⟨x, y, r, rfl, hz⟩ := zi2_inv hz
      exact ZW.irem hz.1 hd (nx1 _ _ _ hz.2)
    case land =>
      dsimp only at hz
      have hl : len = 1 := by simpa [zlen, eq_comm] using hlen
      subst hl
      obtain ⟨x, y, r, rfl, hz⟩ := zl2_inv hz
      exact ZW.land hd (nx1 _ _ _ hz)
    case lor =>
      dsimp only at hz
      have hl : len = 1 := by simpa [zlen, eq_comm] using hlen
      subst hl
      obtain ⟨x, y, r, rfl, hz⟩ := zl2_inv hz
      exact ZW.lor hd (nx1 _ _ _ hz)
    case lcmp =>
      dsimp only at hz
      have hl : len = 1 := by simpa [zlen, eq_comm] using hlen
      subst hl
      obtain ⟨x, y, r, rfl, hz⟩ := zl2_inv hz
      exact ZW.lcmp hd (nx1 _ _ _ hz)
    case lshl =>
      dsimp only at hz
      have hl : len = 1 := by simpa [zlen, eq_comm] using hlen
      subst hl
      obtain ⟨x, y, r, rfl, hz⟩ := zli_inv hz
      exact ZW.lshl hd (nx1 _ _ _ hz)
    case lshr =>
      dsimp only at hz
      have hl : len = 1 := by simpa [zlen, eq_comm] using hlen
      subst hl
      obtain ⟨x, y, r, rfl, hz⟩ := zli_inv hz
      exact ZW.lshr hd (nx1 _ _ _ hz)
    case lushr =>
      dsimp only at hz
      have hl : len = 1 := by simpa [zlen, eq_comm] using hlen
      subst hl
      obtain ⟨x, y, r, rfl, hz⟩ := zli_inv hz
      exact ZW.lushr hd (nx1 _ _ _ hz)
    case ineg =>
      dsimp only at hz
      have hl : len = 1 := by simpa [zlen, eq_comm] using hlen
      subst hl
      obtain ⟨x, r, rfl, hz⟩ := zi1_inv hz
      exact ZW.ineg hd (nx1 _ _ _ hz)
    case i2l =>
      dsimp only at hz
      have hl : len = 1 := by simpa [zlen, eq_comm] using hlen
      subst hl
      obtain ⟨x, r, rfl, hz⟩ := zi1_inv hz
      exact ZW.i2l hd (nx1 _ _ _ hz)
    case i2b =>
      dsimp only at hz
      have hl : len = 1 := by simpa [zlen, eq_comm] using hlen
      subst hl
      obtain ⟨x, r, rfl, hz⟩ := zi1_inv hz
      exact ZW.i2b hd (nx1 _ _ _ hz)
    case i2c =>
      dsimp only at hz
      have hl : len = 1 := by simpa [zlen, eq_comm] using hlen
      subst hl
      obtain ⟨x, r, rfl, hz⟩ := zi1_inv hz
      exact ZW.i2c hd (nx1 _ _ _ hz)
    case l2i =>
      dsimp only at hz
      have hl : len = 1 := by simpa [zlen, eq_comm] using hlen
      subst hl
      obtain ⟨x, r, rfl, hz⟩ := zl1_inv hz
      exact ZW.l2i hd (nx1 _ _ _ hz)
    case dup =>
      dsimp only at hz
      have hl : len = 1 := by simpa [zlen, eq_comm] using hlen
      subst hl
      obtain ⟨v, r, rfl, hv, hz⟩ := zc1_inv hz
      exact ZW.dup hv hd (nx1 _ _ _ hz)
    case pop =>
      dsimp only at hz
      have hl : len = 1 := by simpa [zlen, eq_comm] using hlen
      subst hl
      obtain ⟨v, r, rfl, hv, hz⟩ := zc1_inv hz
      exact ZW.pop hv hd (nx1 _ _ _ hz)
    case dup2 =>
      dsimp only at hz
      have hl : len = 1 := by simpa [zlen, eq_comm] using hlen
      subst hl
      obtain ⟨a, x, r, rfl, hz⟩ := zai_inv hz
      exact ZW.dup2 rfl rfl hd (nx1 _ _ _ hz)
    case ifCond o off =>
      dsimp only at hz
      have hl : len = 3 := by simpa [zlen, eq_comm] using hlen
      subst hl
      obtain ⟨x, r, rfl, hz⟩ := zi1_inv hz
      obtain ⟨h0, hz⟩ := zif_inv hz
      exact ZW.ifc h0 hd (fun hc => jm _ _ _ _ (hz.1 hc)) (fun hc => nx1 _ _ _ (hz.2 hc))
    case if_icmp o off =>
      dsimp only at hz
      have hl : len = 3 := by simpa [zlen, eq_comm] using hlen
      subst hl
      obtain ⟨x, y, r, rfl, hz⟩ := zi2_inv hz
      obtain ⟨h0, hz⟩ := zif_inv hz
      exact ZW.icmp h0 hd (fun hc => jm _ _ _ _ (hz.1 hc)) (fun hc => nx1 _ _ _ (hz.2 hc))
    case goto off =>
      dsimp only at hz
      have hl : len = 3 := by simpa [zlen, eq_comm] using hlen
      subst hl
      obtain ⟨h0, hz⟩ := zif_inv hz
      exact ZW.goto h0 hd (jm _ _ _ _ hz)
    case tableswitch d lo hi offs =>
      dsimp only at hz
      obtain ⟨x, r, rfl, hz⟩ := zi1_inv hz
      obtain ⟨hc, hz⟩ := zif_inv hz
      exact ZW.table hc.1 hc.2.1 hc.2.2.1 hc.2.2.2.1 hc.2.2.2.2 hd (zsw_mono (fun t ht => nx2 _ _ _ _ ht) _ hz)
    case lookupswitch d ps =>
      dsimp only at hz
      obtain ⟨x, r, rfl, hz⟩ := zi1_inv hz
      obtain ⟨hc, hz⟩ := zif_inv hz
      exact ZW.look hc.1 hc.2.1 hc.2.2 hd (zsw_mono (fun t ht => nx2 _ _ _ _ ht) _ hz)
    case getfield x =>
      dsimp only at hz
      have hl : len = 3 := by simpa [zlen, eq_comm] using hlen
      subst hl
      obtain ⟨a, r, rfl, hz⟩ := za1_inv hz
      obtain ⟨c, f, hF, hz⟩ := zob2_inv hz
      obtain ⟨nn, rs, ho, hz⟩ := zob_inv hz
      refine ZW.getfield hF ho hd ?_
      rcases zif2_inv hz with ⟨hk, hz⟩ | ⟨hk, hz⟩
      · rw [if_pos hk]
        exact nx1 _ _ _ hz
      · rw [if_neg hk]
        exact nx1 _ _ _ hz
    case putfield x =>
      dsimp only at hz
      have hl : len = 3 := by simpa [zlen, eq_comm] using hlen
      subst hl
      obtain ⟨a, v, r, rfl, hz⟩ := zav_inv hz
      obtain ⟨c, f, hF, hz⟩ := zob2_inv hz
      obtain ⟨nn, rs, ho, hz⟩ := zob_inv hz
      obtain ⟨hw, hz⟩ := zif_inv hz
      rcases zif2_inv hz with ⟨hk, hz⟩ | ⟨hk, hz⟩
      · obtain ⟨bb, rfl, hz⟩ := zRv_inv hz
        obtain ⟨hb, hz⟩ := zif_inv hz
        exact ZW.putR hF ho hw hk hb.2 hd (nx1 _ _ _ hz)
      · obtain ⟨y, rfl, hz⟩ := zIv_inv hz
        rcases zif2_inv hz with ⟨hk0, hz⟩ | ⟨hk0, hz⟩
        · exact ZW.putI hF ho hw hk (Or.inl hk0) hd (nx1 _ _ _ hz)
        · exact ZW.putI hF ho hw hk (Or.inr hz.1) hd (nx1 _ _ _ hz.2)
    case iaload =>
      dsimp only at hz
      have hl : len = 1 := by simpa [zlen, eq_comm] using hlen
      subst hl
      obtain ⟨a, j, r, rfl, hz⟩ := zai_inv hz
      rcases zif2_inv hz with ⟨ha, hz⟩ | ⟨ha, hz⟩
      · subst ha
        exact ZW.sld hz.1 hd (nx1 _ _ _ hz.2)
      · obtain ⟨nn, rs, ha, hz⟩ := zar_inv hz
        exact ZW.iald ha hz.1 hd (nx1 _ _ _ hz.2)
    case baload =>
      dsimp only at hz
      have hl : len = 1 := by simpa [zlen, eq_comm] using hlen
      subst hl
      obtain ⟨a, j, r, rfl, hz⟩ := zai_inv hz
      rcases zbz_inv hz with ⟨nn, rs, ha, hz⟩ | ⟨nn, rs, ha, hz⟩
      · exact ZW.bald ha hz.1 hd (nx1 _ _ _ hz.2)
      · exact ZW.zald ha hz.1 hd (nx1 _ _ _ hz.2)
    case caload =>
      dsimp only at hz
      have hl : len = 1 := by simpa [zlen, eq_comm] using hlen
      subst hl
      obtain ⟨a, j, r, rfl, hz⟩ := zai_inv hz
      obtain ⟨nn, rs, ha, hz⟩ := zar_inv hz
      exact ZW.cald ha hz.1 hd (nx1 _ _ _ hz.2)
    case aaload =>
      dsimp only at hz
      have hl : len = 1 := by simpa [zlen, eq_comm] using hlen
      subst hl
      obtain ⟨a, j, r, rfl, hz⟩ := zai_inv hz
      obtain ⟨nn, rs, ha, hj, hz⟩ := zra_inv hz
      obtain ⟨bb, hb, hz⟩ := zo1_inv hz
      exact ZW.aald ha hj hb hd (nx1 _ _ _ hz)
    case iastore =>
      dsimp only at hz
      have hl : len = 1 := by simpa [zlen, eq_comm] using hlen
      subst hl
      obtain ⟨a, j, x, r, rfl, hz⟩ := zaii_inv hz
      obtain ⟨nn, rs, ha, hz⟩ := zar_inv hz
      exact ZW.iast ha hz.1 hd (nx1 _ _ _ hz.2)
    case bastore =>
      dsimp only at hz
      have hl : len = 1 := by simpa [zlen, eq_comm] using hlen
      subst hl
      obtain ⟨a, j, x, r, rfl, hz⟩ := zaii_inv hz
      rcases zbz_inv hz with ⟨nn, rs, ha, hz⟩ | ⟨nn, rs, ha, hz⟩
      · exact ZW.bast ha hz.1 hd (nx1 _ _ _ hz.2)
      · exact ZW.zast ha hz.1 hd (nx1 _ _ _ hz.2)
    case castore =>
      dsimp only at hz
      have hl : len = 1 := by simpa [zlen, eq_comm] using hlen
      subst hl
      obtain ⟨a, j, x, r, rfl, hz⟩ := zaii_inv hz
      obtain ⟨nn, rs, ha, hz⟩ := zar_inv hz
      exact ZW.cast ha hz.1 hd (nx1 _ _ _ hz.2)
    case arraylength =>
      dsimp only at hz
      have hl : len = 1 := by simpa [zlen, eq_comm] using hlen
      subst hl
      obtain ⟨a, r, rfl, hz⟩ := za1_inv hz
      rcases zif2_inv hz with ⟨ha, hz⟩ | ⟨ha, hz⟩
      · subst ha
        exact ZW.slen hd (nx1 _ _ _ hz)
      · obtain ⟨t, nn, rs, ha, ht, hz⟩ := zal_inv hz
        exact ZW.alen ha ht hd (nx1 _ _ _ hz)
    case new x =>
      dsimp only at hz
      have hl : len = 3 := by simpa [zlen, eq_comm] using hlen
      subst hl
      obtain ⟨c, hc, hz⟩ := zo1_inv hz
      obtain ⟨hg, hz⟩ := zif_inv hz
      refine ZW.new hc hg.1 hg.2.1 hg.2.2 hd ?_
      have := ih _ _ _ _ _ _ _ hs' hz
      rwa [hpc (zw_ne hz)] at this
    case newarray t =>
      dsimp only at hz
      have hl : len = 2 := by simpa [zlen, eq_comm] using hlen
      subst hl
      obtain ⟨x, r, rfl, hz⟩ := zi1_inv hz
      obtain ⟨d, hdd, hz⟩ := zo1_inv hz
      obtain ⟨hg, hz⟩ := zif_inv hz
      have hw := ih _ _ _ _ _ _ _ hs' hz
      rw [hpc (zw_ne hz)] at hw
      rcases zat0_inv hdd with ⟨rfl, rfl⟩ | ⟨rfl, rfl⟩ | ⟨rfl, rfl⟩ | ⟨rfl, rfl⟩
      · exact ZW.newa0 hg.1 hg.2.1 hg.2.2.1 hg.2.2.2.1 hg.2.2.2.2 hd hw
      · exact ZW.newa1 hg.1 hg.2.1 hg.2.2.1 hg.2.2.2.1 hg.2.2.2.2 hd hw
      · exact ZW.newa2 hg.1 hg.2.1 hg.2.2.1 hg.2.2.2.1 hg.2.2.2.2 hd hw
      · exact ZW.newa3 hg.1 hg.2.1 hg.2.2.1 hg.2.2.2.1 hg.2.2.2.2 hd hw
    case invokespecial x =>
      dsimp only at hz
      have hl : len = 3 := by simpa [zlen, eq_comm] using hlen
      subst hl
      obtain ⟨j, hj, hz⟩ := zo1_inv hz
      have hy := zif2_inv hz
      clear hz
      rcases hy with ⟨e9, hz⟩ | ⟨-, hz⟩
      · subst e9
        obtain ⟨a, r, rfl, hz⟩ := za1_inv hz
        obtain ⟨hg, hz⟩ := zif_inv hz
        exact ZW.objInit hj hg.1 hg.2 hd (nx1 _ _ _ hz)
      · obtain ⟨a, tl, hdrop, hz⟩ := zrc_inv hz
        obtain ⟨⟨g1, g2, g3, gr, g4, g5, g6, g7, g8⟩, hz⟩ := zif_inv hz
        obtain ⟨hst, hsplit⟩ := zsplit hdrop (zNa_pos g1 g2)
        rw [hst] at hz g5
        have hle : (st.take (zNa j - 1)).reverse.length + 1 = zNa j := by
          have hq := congrArg List.length hst
          rw [List.length_reverse, g6, List.length_cons] at hq
          omega
        rw [hsplit]
        exact ZW.callI hj g1 g2 g3 g4 g5 hle ⟨g7, g8⟩ gr hd hz
    case invokevirtual x =>
      dsimp only at hz
      have hl : len = 3 := by simpa [zlen, eq_comm] using hlen
      subst hl
      obtain ⟨j, hj, hz⟩ := zo1_inv hz
      have hy := zif2_inv hz
      clear hz
      rcases hy with ⟨e9, hz⟩ | ⟨-, hz⟩
      · subst e9
        obtain ⟨a, r, rfl, hz⟩ := za1_inv hz
        obtain ⟨nn, hn, hz⟩ := zo1_inv hz
        obtain ⟨hg, hz⟩ := zif_inv hz
        exact ZW.strLen hj hn hg.2 hg.1 hd (nx1 _ _ _ hz)
      have hy := zif2_inv hz
      clear hz
      rcases hy with ⟨e9, hz⟩ | ⟨-, hz⟩
      · subst e9
        obtain ⟨a, r, rfl, hz⟩ := za1_inv hz
        obtain ⟨nn, hn, hz⟩ := zo1_inv hz
        obtain ⟨hg, hz⟩ := zif_inv hz
        exact ZW.strEmpty hj hn hg.2 hg.1 hd (nx1 _ _ _ hz)
      have hy := zif2_inv hz
      clear hz
      rcases hy with ⟨e9, hz⟩ | ⟨-, hz⟩
      · subst e9
        obtain ⟨a, ii, r, rfl, hz⟩ := zai_inv hz
        obtain ⟨nn, hn, hz⟩ := zo1_inv hz
        obtain ⟨hg, hz⟩ := zif_inv hz
        exact ZW.strChar hj hn hg.2 hg.1 hz.1 hd (nx1 _ _ _ hz.2)
      obtain ⟨a, tl, hdrop, hz⟩ := zrc_inv hz
      obtain ⟨hq, hz⟩ := zif_inv hz
      obtain ⟨nn, rs, ho, hz⟩ := zob_inv hz
      refine cl j st _ hz rfl (fun g1 g4 g5 g6 hgc hM => ?_)
      obtain ⟨hst, hsplit⟩ := zsplit hdrop (zNa_pos g1 hq.1)
      rw [hst] at hM g5
      have hle : (st.take (zNa j - 1)).reverse.length + 1 = zNa j := by
          have hq := congrArg List.length hst
          rw [List.length_reverse, g6, List.length_cons] at hq
          omega
      rw [hsplit]
      exact ZW.callV hj g1 hq.1 hq.2 ho g4 g5 hle hgc hd hM
    case invokestatic x =>
      dsimp only at hz
      have hl : len = 3 := by simpa [zlen, eq_comm] using hlen
      subst hl
      obtain ⟨j, hj, hz⟩ := zo1_inv hz
      have hy := zif2_inv hz
      clear hz
      rcases hy with ⟨e9, hz⟩ | ⟨-, hz⟩
      · subst e9
        obtain ⟨x, y, r, rfl, hz⟩ := zi2_inv hz
        obtain ⟨hg, hz⟩ := zif_inv hz
        exact ZW.mmax hj hg.1 hg.2.1 ⟨hg.2.2.1, hg.2.2.2⟩ hd (nx1 _ _ _ hz)
      have hy := zif2_inv hz
      clear hz
      rcases hy with ⟨e9, hz⟩ | ⟨-, hz⟩
      · subst e9
        obtain ⟨x, y, r, rfl, hz⟩ := zi2_inv hz
        obtain ⟨hg, hz⟩ := zif_inv hz
        exact ZW.mmin hj hg.1 hg.2.1 ⟨hg.2.2.1, hg.2.2.2⟩ hd (nx1 _ _ _ hz)
      obtain ⟨hq, hz⟩ := zif_inv hz
      refine cl j st _ hz rfl (fun g1 g4 g5 g6 hgc hM => ?_)
      have hsplit : st = (st.take (zNa j)).reverse.reverse ++ st.drop (zNa j) := by
        rw [List.reverse_reverse, List.take_append_drop]
      have hw := ZW.callS hj g1 hq g4 g5 (by rw [List.length_reverse]; exact g6) hgc hd hM
      rwa [← hsplit] at hw
    case ireturn =>
      dsimp only at hz
      have hl : len = 1 := by simpa [zlen, eq_comm] using hlen
      subst hl
      obtain ⟨v, rfl, hz⟩ := zr1_inv hz
      obtain ⟨hr, hz⟩ := zret_inv hz
      obtain ⟨hg, hz⟩ := zif_inv hz
      rcases hr with hr | ⟨hr, hv⟩
      · exact ZW.iret hr hg hd hz
      · exact ZW.zret hr hv hg hd hz
    case areturn =>
      dsimp only at hz
      have hl : len = 1 := by simpa [zlen, eq_comm] using hlen
      subst hl
      obtain ⟨v, nn, rfl, hr, hz⟩ := zrA_inv hz
      obtain ⟨hg, hz⟩ := zif_inv hz
      exact ZW.aret hr hg hd hz
    case return_ =>
      dsimp only at hz
      have hl : len = 1 := by simpa [zlen, eq_comm] using hlen
      subst hl
      obtain ⟨rfl, hr, hz⟩ := zr0_inv hz
      obtain ⟨hg, hz⟩ := zif_inv hz
      exact ZW.vret hr hg hd hz
    all_goals exact hz.elim
theorem zgo (n : Nat) (N : List Nat) {k : Nat} {g : Nat × Nat × Nat × Nat} {pc : Nat} {ls : zLs} {st : List Value} {h : zH} {Q : zQ} (h0 : zw N n k g (zat k pc) ls st h Q) : ZW k g pc ls st h Q := by
  have := zw_sound N n k g (zat k pc) ls st h Q (zat_sf k pc) h0
  rwa [zat_pc (zw_ne h0)] at this
