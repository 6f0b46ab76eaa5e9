/-! from the machine's state at the law's entry: what the tables and the premises give -/
def zTm (i : Nat) : Term := ([.string "PaymentHub" 284, .string "PaymentHub$Message" 55, .string "PaymentHub" 286, .string "PaymentHub" 288, .string "PaymentHub" 290] : List Term).getD i (.string "PaymentHub" 290)
theorem zar1 {args : Array Value} {s : State} {ty : FieldType} (h : (Jvm.Cond.arrayClass ty).before args s = true) (ho : ∀ C, ty ≠ .object C) : ∃ c : ClassId, ArrOfT s c ty ∧ va_RA s c ty := by
  obtain ⟨c, k, comp, h1, h2, h3⟩ := Jvm.Cond.arrayClass_spec h
  refine ⟨c, fun N z => ⟨(fun q hq => by cases hq), k, h2, comp, h3⟩, ?_⟩
  cases ty <;> first | exact h1 | exact absurd rfl (ho _)
theorem zK_start {args : Array Value} {s : State} (hts : ∀ w ∈ zTB, w.before args s = true) (hao : (Jvm.Cond.arrayOver (.array .int)).before args s = true) : ∃ (D : va_G) (cA : Nat → ClassId), va_K D vwCl [(cA 0, .int), (cA 1, .byte), (cA 2, .boolean), (cA 3, .char), (cA 4, .array .int)] s := by
  have h0 : ∀ c : Nat, ∃ q : ClassId × (Nat → Nat), c < 12 → u_Kn s (zRN c) (zTt c) (zN c) q.1 q.2 := by
    intro c
    by_cases hc : c < 12
    · obtain ⟨-, hin, -, -, -⟩ := zcls c hc
      have hins : (.instantiable (zRN c) (zN c) : Jvm.Cond) ∈ zTB := by
        have := List.all_eq_true.mp zno_all c (List.mem_range.mpr hc)
        simp only [decide_eq_true_eq] at this
        exact zin _ this rfl
      obtain ⟨cC, iS, h⟩ := u_known hts hin (hts _ hins)
      exact ⟨(cC, iS), fun _ => h⟩
    · exact ⟨(0, fun _ => 0), fun h => absurd h hc⟩
  obtain ⟨q, hq⟩ := Classical.axiomOfChoice h0
  obtain ⟨c0, a0⟩ := zar1 (hts _ zarr_0) (fun _ h => by cases h)
  obtain ⟨c1, a1⟩ := zar1 (hts _ zarr_1) (fun _ h => by cases h)
  obtain ⟨c2, a2⟩ := zar1 (hts _ zarr_2) (fun _ h => by cases h)
  obtain ⟨c3, a3⟩ := zar1 (hts _ zarr_3) (fun _ h => by cases h)
  obtain ⟨comp, c4, k4, -, b1, b2, b3⟩ := zao_spec hao
  have a4 : ArrOfT s c4 (.array .int) ∧ va_RA s c4 (.array .int) := ⟨fun N z => ⟨(fun q hq => by cases hq), k4, b1, comp, b2⟩, b3⟩
  refine ⟨(fun c => (q c).1, fun c => (q c).2), fun k => ([c0, c1, c2, c3, c4] : List ClassId).getD k c0, fun c r hr => ?_, fun k r hr => ?_⟩
  · have hc : c < 12 := (List.getElem?_eq_some_iff.mp hr).1
    have e := (zcls c hc).1.symm.trans hr
    cases e
    exact hq c hc
  · match k, hr with
    | 0, hr => cases hr; exact a0
    | 1, hr => cases hr; exact a1
    | 2, hr => cases hr; exact a2
    | 3, hr => cases hr; exact a3
    | 4, hr => cases hr; exact a4
    | k + 5, hr => simp at hr
set_option maxRecDepth 4000 in
theorem zS_start {args : Array Value} {s : State} (hgv : (Jvm.Cond.and given_1 narrow_1).before args s = true) : ∃ adK adV : Nat → Nat, vk_S 5 zLn zBy adK adV (fun q => s.heap.size ≤ q) s s.heap ∧ (∀ i : Nat, i < 5 → (zTm i).eval args s none [] s = some (.ref (adK i))) := by
  have hs := flat_of_before _ hgv
  refine vk_Sof (tm := zTm) (len := zLn) (byt := zBy) (A := fun q => s.heap.size ≤ q) (fun i hi => ?_) (fun i hi => ?_) (fun i hi => ?_) (fun i hi => ?_) (fun i hi => ?_) (fun i hi j hj => ?_) (fun i j hi hj hij => ?_) (fun a h1 h2 => Nat.not_le.mpr h1 h2)
  · have : ∀ i : Fin 5, zLn.getD i.val 0 < 2 ^ 31 := by decide
    exact this ⟨i, hi⟩
  · match i, hi with
    | 0, _ => exact hs (.exactly (.string "PaymentHub" 284) "java/lang/String") (by decide +kernel)
    | 1, _ => exact hs (.exactly (.string "PaymentHub$Message" 55) "java/lang/String") (by decide +kernel)
    | 2, _ => exact hs (.exactly (.string "PaymentHub" 286) "java/lang/String") (by decide +kernel)
    | 3, _ => exact hs (.exactly (.string "PaymentHub" 288) "java/lang/String") (by decide +kernel)
    | 4, _ => exact hs (.exactly (.string "PaymentHub" 290) "java/lang/String") (by decide +kernel)
    | n + 5, h => exact absurd h (by omega)
  · match i, hi with
    | 0, _ => exact hs (.eq (.field (.string "PaymentHub" 284) "java/lang/String" "coder" "B") (.int 0)) (by decide +kernel)
    | 1, _ => exact hs (.eq (.field (.string "PaymentHub$Message" 55) "java/lang/String" "coder" "B") (.int 0)) (by decide +kernel)
    | 2, _ => exact hs (.eq (.field (.string "PaymentHub" 286) "java/lang/String" "coder" "B") (.int 0)) (by decide +kernel)
    | 3, _ => exact hs (.eq (.field (.string "PaymentHub" 288) "java/lang/String" "coder" "B") (.int 0)) (by decide +kernel)
    | 4, _ => exact hs (.eq (.field (.string "PaymentHub" 290) "java/lang/String" "coder" "B") (.int 0)) (by decide +kernel)
    | n + 5, h => exact absurd h (by omega)
  · match i, hi with
    | 0, _ => exact hs (.arrayOf (.field (.string "PaymentHub" 284) "java/lang/String" "value" "[B") .byte) (by decide +kernel)
    | 1, _ => exact hs (.arrayOf (.field (.string "PaymentHub$Message" 55) "java/lang/String" "value" "[B") .byte) (by decide +kernel)
    | 2, _ => exact hs (.arrayOf (.field (.string "PaymentHub" 286) "java/lang/String" "value" "[B") .byte) (by decide +kernel)
    | 3, _ => exact hs (.arrayOf (.field (.string "PaymentHub" 288) "java/lang/String" "value" "[B") .byte) (by decide +kernel)
    | 4, _ => exact hs (.arrayOf (.field (.string "PaymentHub" 290) "java/lang/String" "value" "[B") .byte) (by decide +kernel)
    | n + 5, h => exact absurd h (by omega)
  · match i, hi with
    | 0, _ => exact hs (.eq (.length (.field (.string "PaymentHub" 284) "java/lang/String" "value" "[B")) (.int 4)) (by decide +kernel)
    | 1, _ => exact hs (.eq (.length (.field (.string "PaymentHub$Message" 55) "java/lang/String" "value" "[B")) (.int 5)) (by decide +kernel)
    | 2, _ => exact hs (.eq (.length (.field (.string "PaymentHub" 286) "java/lang/String" "value" "[B")) (.int 4)) (by decide +kernel)
    | 3, _ => exact hs (.eq (.length (.field (.string "PaymentHub" 288) "java/lang/String" "value" "[B")) (.int 4)) (by decide +kernel)
    | 4, _ => exact hs (.eq (.length (.field (.string "PaymentHub" 290) "java/lang/String" "value" "[B")) (.int 0)) (by decide +kernel)
    | n + 5, h => exact absurd h (by omega)
  · match i, j, hi, hj with
    | 0, 0, _, _ => exact hs (.eq (.elem (.field (.string "PaymentHub" 284) "java/lang/String" "value" "[B") (.int 0)) (.int 80)) (by decide +kernel)
    | 0, 1, _, _ => exact hs (.eq (.elem (.field (.string "PaymentHub" 284) "java/lang/String" "value" "[B") (.int 1)) (.int 73)) (by decide +kernel)
    | 0, 2, _, _ => exact hs (.eq (.elem (.field (.string "PaymentHub" 284) "java/lang/String" "value" "[B") (.int 2)) (.int 78)) (by decide +kernel)
    | 0, 3, _, _ => exact hs (.eq (.elem (.field (.string "PaymentHub" 284) "java/lang/String" "value" "[B") (.int 3)) (.int 83)) (by decide +kernel)
    | 0, n + 4, _, h => exact absurd h (by show ¬ n + 4 < 4; omega)
    | 1, 0, _, _ => exact hs (.eq (.elem (.field (.string "PaymentHub$Message" 55) "java/lang/String" "value" "[B") (.int 0)) (.int 84)) (by decide +kernel)
    | 1, 1, _, _ => exact hs (.eq (.elem (.field (.string "PaymentHub$Message" 55) "java/lang/String" "value" "[B") (.int 1)) (.int 69)) (by decide +kernel)
    | 1, 2, _, _ => exact hs (.eq (.elem (.field (.string "PaymentHub$Message" 55) "java/lang/String" "value" "[B") (.int 2)) (.int 68)) (by decide +kernel)
    | 1, 3, _, _ => exact hs (.eq (.elem (.field (.string "PaymentHub$Message" 55) "java/lang/String" "value" "[B") (.int 3)) (.int 67)) (by decide +kernel)
    | 1, 4, _, _ => exact hs (.eq (.elem (.field (.string "PaymentHub$Message" 55) "java/lang/String" "value" "[B") (.int 4)) (.int 65)) (by decide +kernel)
    | 1, n + 5, _, h => exact absurd h (by show ¬ n + 5 < 5; omega)
    | 2, 0, _, _ => exact hs (.eq (.elem (.field (.string "PaymentHub" 286) "java/lang/String" "value" "[B") (.int 0)) (.int 81)) (by decide +kernel)
    | 2, 1, _, _ => exact hs (.eq (.elem (.field (.string "PaymentHub" 286) "java/lang/String" "value" "[B") (.int 1)) (.int 73)) (by decide +kernel)
    | 2, 2, _, _ => exact hs (.eq (.elem (.field (.string "PaymentHub" 286) "java/lang/String" "value" "[B") (.int 2)) (.int 79)) (by decide +kernel)
    | 2, 3, _, _ => exact hs (.eq (.elem (.field (.string "PaymentHub" 286) "java/lang/String" "value" "[B") (.int 3)) (.int 86)) (by decide +kernel)
    | 2, n + 4, _, h => exact absurd h (by show ¬ n + 4 < 4; omega)
    | 3, 0, _, _ => exact hs (.eq (.elem (.field (.string "PaymentHub" 288) "java/lang/String" "value" "[B") (.int 0)) (.int 82)) (by decide +kernel)
    | 3, 1, _, _ => exact hs (.eq (.elem (.field (.string "PaymentHub" 288) "java/lang/String" "value" "[B") (.int 1)) (.int 73)) (by decide +kernel)
    | 3, 2, _, _ => exact hs (.eq (.elem (.field (.string "PaymentHub" 288) "java/lang/String" "value" "[B") (.int 2)) (.int 79)) (by decide +kernel)
    | 3, 3, _, _ => exact hs (.eq (.elem (.field (.string "PaymentHub" 288) "java/lang/String" "value" "[B") (.int 3)) (.int 65)) (by decide +kernel)
    | 3, n + 4, _, h => exact absurd h (by show ¬ n + 4 < 4; omega)
    | 4, n + 0, _, h => exact absurd h (by show ¬ n + 0 < 0; omega)
    | n + 5, _, h, _ => exact absurd h (by omega)
  · match i, j, hi, hj, hij with
    | 0, 0, _, _, h => exact absurd rfl h
    | 0, 1, _, _, _ => exact Or.inl (hs (.not (.eq (.string "PaymentHub" 284) (.string "PaymentHub$Message" 55))) (by decide +kernel))
    | 0, 2, _, _, _ => exact Or.inl (hs (.not (.eq (.string "PaymentHub" 284) (.string "PaymentHub" 286))) (by decide +kernel))
    | 0, 3, _, _, _ => exact Or.inl (hs (.not (.eq (.string "PaymentHub" 284) (.string "PaymentHub" 288))) (by decide +kernel))
    | 0, 4, _, _, _ => exact Or.inl (hs (.not (.eq (.string "PaymentHub" 284) (.string "PaymentHub" 290))) (by decide +kernel))
    | 1, 0, _, _, _ => exact Or.inr (hs (.not (.eq (.string "PaymentHub" 284) (.string "PaymentHub$Message" 55))) (by decide +kernel))
    | 1, 1, _, _, h => exact absurd rfl h
    | 1, 2, _, _, _ => exact Or.inr (hs (.not (.eq (.string "PaymentHub" 286) (.string "PaymentHub$Message" 55))) (by decide +kernel))
    | 1, 3, _, _, _ => exact Or.inr (hs (.not (.eq (.string "PaymentHub" 288) (.string "PaymentHub$Message" 55))) (by decide +kernel))
    | 1, 4, _, _, _ => exact Or.inr (hs (.not (.eq (.string "PaymentHub" 290) (.string "PaymentHub$Message" 55))) (by decide +kernel))
    | 2, 0, _, _, _ => exact Or.inr (hs (.not (.eq (.string "PaymentHub" 284) (.string "PaymentHub" 286))) (by decide +kernel))
    | 2, 1, _, _, _ => exact Or.inl (hs (.not (.eq (.string "PaymentHub" 286) (.string "PaymentHub$Message" 55))) (by decide +kernel))
    | 2, 2, _, _, h => exact absurd rfl h
    | 2, 3, _, _, _ => exact Or.inl (hs (.not (.eq (.string "PaymentHub" 286) (.string "PaymentHub" 288))) (by decide +kernel))
    | 2, 4, _, _, _ => exact Or.inl (hs (.not (.eq (.string "PaymentHub" 286) (.string "PaymentHub" 290))) (by decide +kernel))
    | 3, 0, _, _, _ => exact Or.inr (hs (.not (.eq (.string "PaymentHub" 284) (.string "PaymentHub" 288))) (by decide +kernel))
    | 3, 1, _, _, _ => exact Or.inl (hs (.not (.eq (.string "PaymentHub" 288) (.string "PaymentHub$Message" 55))) (by decide +kernel))
    | 3, 2, _, _, _ => exact Or.inr (hs (.not (.eq (.string "PaymentHub" 286) (.string "PaymentHub" 288))) (by decide +kernel))
    | 3, 3, _, _, h => exact absurd rfl h
    | 3, 4, _, _, _ => exact Or.inl (hs (.not (.eq (.string "PaymentHub" 288) (.string "PaymentHub" 290))) (by decide +kernel))
    | 4, 0, _, _, _ => exact Or.inr (hs (.not (.eq (.string "PaymentHub" 284) (.string "PaymentHub" 290))) (by decide +kernel))
    | 4, 1, _, _, _ => exact Or.inl (hs (.not (.eq (.string "PaymentHub" 290) (.string "PaymentHub$Message" 55))) (by decide +kernel))
    | 4, 2, _, _, _ => exact Or.inr (hs (.not (.eq (.string "PaymentHub" 286) (.string "PaymentHub" 290))) (by decide +kernel))
    | 4, 3, _, _, _ => exact Or.inr (hs (.not (.eq (.string "PaymentHub" 288) (.string "PaymentHub" 290))) (by decide +kernel))
    | 4, 4, _, _, h => exact absurd rfl h
    | n + 5, _, h, _, _ => exact absurd h (by omega)
    | _, n + 5, _, h, _ => exact absurd h (by omega)
theorem zfm_start {args : Array Value} {s : State} (hgv : (Jvm.Cond.and given_1 narrow_1).before args s = true) {a : Nat} (ha : (Term.string "PaymentHub$Message" 55).eval args s none [] s = some (.ref a)) : (Term.string "PaymentHub$Form" 42).eval args s none [] s = some (.ref a) := by
  have hs := flat_of_before _ hgv
  have hx := hs (.exactly (.string "PaymentHub$Form" 42) "java/lang/String") (by decide +kernel)
  have he := hs (.eq (.string "PaymentHub$Message" 55) (.string "PaymentHub$Form" 42)) (by decide +kernel)
  obtain ⟨b, c, cA, kA, q1, -⟩ := Jvm.Cond.exactly_spec (args := args) (first := s) (o := none) (s := s) (idx := []) (t := .string "PaymentHub$Form" 42) (cls := "java/lang/String") hx
  simp only [Jvm.Cond.before, Jvm.Cond.holds, Jvm.Cond.value, ha, q1] at he
  have e : a = b := by simpa using he
  rw [e]
  exact q1
theorem zlt (i : Nat) {w : Jvm.Cond} {args : Array Value} {s : State} (hts : ∀ w ∈ lw_tbl, w.before args s = true) (h : lw_tbl[i]? = some w) : w.before args s = true := hts _ (List.mem_of_getElem? h)
theorem zStr_start {args : Array Value} {s : State} (hts : ∀ w ∈ lw_tbl, w.before args s = true) (hgv : (Jvm.Cond.and given_1 narrow_1).before args s = true) (D : va_G) (cA : Nat → ClassId) (b : Nat) : ∃ adK adV : Nat → Nat, zStr (s.heap.size, D, cA, b, adK, adV) s := by
  have hs := flat_of_before _ hgv
  obtain ⟨adK, adV, hS, hev⟩ := zS_start hgv
  have hA : ∀ a : Nat, a < s.heap.size → ¬ (fun q : Nat => s.heap.size ≤ q) a := fun a h1 h2 => Nat.not_le.mpr h1 h2
  have hzc : va_Z "java/lang/String" "COMPACT_STRINGS" "Z" (.int 1) (fun q => s.heap.size ≤ q) s s.heap := va_Zof (zlt 528 hts (by decide +kernel)) (zlt 93 hts (by decide +kernel)) (va_eqi (hs (.eq (.static "java/lang/String" "COMPACT_STRINGS" "Z") (.int 1)) (by decide +kernel))) hA
  have hzf := va_Zqof (C := "jdk/internal/util/Preconditions") (n := "SIOOBE_FORMATTER") (d := "Ljava/util/function/BiFunction;") (A := fun q => s.heap.size ≤ q) (zlt 536 hts (by decide +kernel)) (zlt 95 hts (by decide +kernel)) (hs (.isRef (.static "jdk/internal/util/Preconditions" "SIOOBE_FORMATTER" "Ljava/util/function/BiFunction;")) (by decide +kernel)) hA
  have hao0 : (Jvm.Cond.arrayOver (.array .int)).before args s = true := zlt 269 hts (by decide +kernel)
  have hao : (Jvm.Cond.arrayOver (.array .int)).before #[] s = true := hao0
  have all : ∀ ad : Nat → Nat, (∀ i, i < 5 → ad i = adK i) → (va_Z "jdk/internal/util/Preconditions" "SIOOBE_FORMATTER" "Ljava/util/function/BiFunction;" .null (fun q => s.heap.size ≤ q) s s.heap ∨ va_Z "jdk/internal/util/Preconditions" "SIOOBE_FORMATTER" "Ljava/util/function/BiFunction;" (.ref (ad 9)) (fun q => s.heap.size ≤ q) s s.heap) → zStr (s.heap.size, D, cA, b, ad, adV) s := by
    intro ad had hf
    refine ⟨⟨fun i hi => ?_, fun i j hi hj e => ?_⟩, fun e he => ?_, hzc, hf, hao⟩
    · show va_O _ (ad i) _ _ _ ∧ va_OF _ _ _ _ (ad i) _ _ _ ∧ va_OF _ _ _ _ (ad i) _ _ _ ∧ _
      rw [had i hi]
      exact hS.1 i hi
    · replace e : ad i = ad j := e
      rw [had i hi, had j hj] at e
      exact hS.2 i j hi hj e
    · have h0 := hev 0 (by decide)
      have h1 := hev 1 (by decide)
      have h2 := hev 2 (by decide)
      have h3 := hev 3 (by decide)
      have h4 := hev 4 (by decide)
      rw [← had 0 (by decide)] at h0
      rw [← had 1 (by decide)] at h1
      rw [← had 2 (by decide)] at h2
      rw [← had 3 (by decide)] at h3
      rw [← had 4 (by decide)] at h4
      simp only [zST, List.mem_cons, List.not_mem_nil, or_false] at he
      rcases he with rfl | rfl | rfl | rfl | rfl | rfl
      · exact vk_R.of (own := "PaymentHub") (tx := "PINS") (k := 284) (A := args) (zlt 507 hts (by decide +kernel)) h0
      · exact vk_R.of (own := "PaymentHub$Message") (tx := "TEDCA") (k := 55) (A := args) (zlt 621 hts (by decide +kernel)) h1
      · exact vk_R.of (own := "PaymentHub$Form") (tx := "TEDCA") (k := 42) (A := args) (zlt 810 hts (by decide +kernel)) (zfm_start hgv h1)
      · exact vk_R.of (own := "PaymentHub") (tx := "QIOV") (k := 286) (A := args) (zlt 508 hts (by decide +kernel)) h2
      · exact vk_R.of (own := "PaymentHub") (tx := "RIOA") (k := 288) (A := args) (zlt 509 hts (by decide +kernel)) h3
      · exact vk_R.of (own := "PaymentHub") (tx := "") (k := 290) (A := args) (zlt 510 hts (by decide +kernel)) h4
  rcases hzf with h | ⟨t, h⟩
  · exact ⟨adK, adV, all adK (fun _ _ => rfl) (Or.inl h)⟩
  · refine ⟨fun i => if i = 9 then t else adK i, adV, all _ (fun i hi => if_neg (by omega)) (Or.inr ?_)⟩
    exact h
theorem zNW_start {args : Array Value} {s : State} (hts : ∀ w ∈ lw_tbl, w.before args s = true) : ∀ w ∈ zNW, va_Nw w s := by
  intro w hw
  have h0 := zNw_tab w hw
  refine va_Nw.of (A := args) h0 ?_
  simp only [zNW, List.mem_cons, List.not_mem_nil, or_false] at hw
  rcases hw with rfl | rfl | rfl | rfl | rfl | rfl | rfl | rfl | rfl | rfl | rfl
  · exact zlt 343 hts (by decide +kernel)
  · exact zlt 345 hts (by decide +kernel)
  · exact zlt 347 hts (by decide +kernel)
  · exact zlt 462 hts (by decide +kernel)
  · exact zlt 473 hts (by decide +kernel)
  · exact zlt 504 hts (by decide +kernel)
  · exact zlt 600 hts (by decide +kernel)
  · exact zlt 682 hts (by decide +kernel)
  · exact zlt 773 hts (by decide +kernel)
  · exact zlt 795 hts (by decide +kernel)
  · exact zlt 835 hts (by decide +kernel)
