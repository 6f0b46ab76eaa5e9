/-! one transaction more, on both sides -/
def mrc (u : zM) (T q : Nat) (nm am db cr : Int32) : zM := zup (zup (zup (zup (zup (zup (zup (zup (zup u 60 T nm) 62 T db) 63 T cr) 61 T am) 64 T (nI 1)) 65 T (nI 0)) 66 q (nI T)) 42 47 (nI (q + 1))) 42 45 (nI (T + 1))
theorem mrc_mF {u : zM} {T q : Nat} {nm am db cr : Int32} : mF u (mrc u T q nm am db cr) := ((((((((((mF.rf u).up (by decide) (by decide)).up (by decide) (by decide)).up (by decide) (by decide)).up (by decide) (by decide)).up (by decide) (by decide)).up (by decide) (by decide)).up (by decide) (by decide)).fld (by omega)).fld (by omega))
theorem cnt_new {f : Nat → Int32} {v x : Int32} {n : Nat} : cnt (upd f n x) v (n + 1) = cnt f v n + if x = v then 1 else 0 := by
  rw [cnt, upd_s, cnt_ext n (fun j hj => upd_n f (show j ≠ n by omega))]
theorem LR_recv {u m : zM} {nT nQ nR nM a d c : Nat} {nm nm' : Int32} (h : LR u m nT nQ nR nM) (hT : nT < 20) (hn : nmR nm nm') (ha : 1 ≤ a ∧ a < 100000000) (hd : d < 4) (hc : c < 4) (hcd : c ≠ d) : LR (mrc u nT nQ nm' (nI a) (nI d) (nI c)) (crc m nT nQ nm (nI a) (nI d) (nI c)) (nT + 1) (nQ + 1) nR nM := by
  obtain ⟨⟨h1, h2, h3, h4, h5, h6, h7, h8, h9, h10⟩, ⟨w1, ⟨w2, w3, w4, w5⟩, w6⟩⟩ := h
  have uf : ∀ b, b ≠ 42 → b ≠ 60 → b ≠ 61 → b ≠ 62 → b ≠ 63 → b ≠ 64 → b ≠ 65 → b ≠ 66 → mrc u nT nQ nm' (nI a) (nI d) (nI c) b = u b := fun b g1 g2 g3 g4 g5 g6 g7 g8 => by
    unfold mrc
    rw [zup_n _ g1, zup_n _ g1, zup_n _ g8, zup_n _ g7, zup_n _ g6, zup_n _ g3, zup_n _ g5, zup_n _ g4, zup_n _ g2]
  have ug : ∀ f, f ≠ 47 → f ≠ 45 → mrc u nT nQ nm' (nI a) (nI d) (nI c) 42 f = u 42 f := fun f g1 g2 => by
    unfold mrc
    rw [zup_s, upd_n _ g2, zup_s, upd_n _ g1, zup_n _ (by decide), zup_n _ (by decide), zup_n _ (by decide), zup_n _ (by decide), zup_n _ (by decide), zup_n _ (by decide), zup_n _ (by decide)]
  have cf : ∀ b, (b < 28 ∨ 35 < b) → crc m nT nQ nm (nI a) (nI d) (nI c) b = m b := fun b g => crc_far g
  have c29 : crc m nT nQ nm (nI a) (nI d) (nI c) 29 = upd (m 29) nT nm := rfl
  have c30 : crc m nT nQ nm (nI a) (nI d) (nI c) 30 = upd (m 30) nT (nI a) := rfl
  have c31 : crc m nT nQ nm (nI a) (nI d) (nI c) 31 = upd (m 31) nT (nI d) := rfl
  have c32 : crc m nT nQ nm (nI a) (nI d) (nI c) 32 = upd (m 32) nT (nI c) := rfl
  have c33 : crc m nT nQ nm (nI a) (nI d) (nI c) 33 = upd (m 33) nT (nI 1) := rfl
  have c34 : crc m nT nQ nm (nI a) (nI d) (nI c) 34 = upd (m 34) nT (nI 0) := rfl
  have c35 : crc m nT nQ nm (nI a) (nI d) (nI c) 35 = upd (m 35) nQ (nI nT) := rfl
  have c286 : crc m nT nQ nm (nI a) (nI d) (nI c) 28 6 = nI (nT + 1) := rfl
  have c288 : crc m nT nQ nm (nI a) (nI d) (nI c) 28 8 = nI (nQ + 1) := rfl
  have u60 : mrc u nT nQ nm' (nI a) (nI d) (nI c) 60 = upd (u 60) nT nm' := rfl
  have u61 : mrc u nT nQ nm' (nI a) (nI d) (nI c) 61 = upd (u 61) nT (nI a) := rfl
  have u62 : mrc u nT nQ nm' (nI a) (nI d) (nI c) 62 = upd (u 62) nT (nI d) := rfl
  have u63 : mrc u nT nQ nm' (nI a) (nI d) (nI c) 63 = upd (u 63) nT (nI c) := rfl
  have u64 : mrc u nT nQ nm' (nI a) (nI d) (nI c) 64 = upd (u 64) nT (nI 1) := rfl
  have u65 : mrc u nT nQ nm' (nI a) (nI d) (nI c) 65 = upd (u 65) nT (nI 0) := rfl
  have u66 : mrc u nT nQ nm' (nI a) (nI d) (nI c) 66 = upd (u 66) nQ (nI nT) := rfl
  have u45 : mrc u nT nQ nm' (nI a) (nI d) (nI c) 42 45 = nI (nT + 1) := rfl
  have u47 : mrc u nT nQ nm' (nI a) (nI d) (nI c) 42 47 = nI (nQ + 1) := rfl
  refine ⟨⟨⟨c286, u45, by omega⟩, ⟨c288, u47, by omega⟩, ?_, ?_, fun t ht => ?_, fun k hk => ?_, fun b hb => ?_, fun b hb => ?_, fun r hr => ?_, fun i hi => ?_⟩, ⟨fun t ht => ?_, ⟨c288, fun k hk => ?_, fun k j hk hj e => ?_, ?_⟩, ?_⟩⟩
  · rw [cf 36 (by omega), ug 55 (by decide) (by decide)]
    exact h3
  · rw [cf 18 (by omega), ug 38 (by decide) (by decide)]
    exact h4
  · rw [u60, u61, u62, u63, u64, u65, c29, c30, c31, c32, c33, c34]
    by_cases e : t = nT
    · subst e
      simp only [upd_s]
      exact ⟨trivial, trivial, trivial, trivial, trivial, hn⟩
    · simp only [upd_n _ e]
      exact h5 t (by omega)
  · rw [u66, c35]
    by_cases e : k = nQ
    · rw [e, upd_s, upd_s]
    · rw [upd_n _ e, upd_n _ e]
      exact h6 k (by omega)
  · rw [uf 67 (by decide) (by decide) (by decide) (by decide) (by decide) (by decide) (by decide) (by decide), uf 68 (by decide) (by decide) (by decide) (by decide) (by decide) (by decide) (by decide) (by decide), uf 70 (by decide) (by decide) (by decide) (by decide) (by decide) (by decide) (by decide) (by decide), cf 20 (by omega), cf 21 (by omega), cf 22 (by omega)]
    exact h7 b hb
  · rw [uf 69 (by decide) (by decide) (by decide) (by decide) (by decide) (by decide) (by decide) (by decide), cf 22 (by omega), cf (24 + b) (by omega)]
    exact h8 b hb
  · rw [uf 71 (by decide) (by decide) (by decide) (by decide) (by decide) (by decide) (by decide) (by decide), uf 72 (by decide) (by decide) (by decide) (by decide) (by decide) (by decide) (by decide) (by decide), uf 73 (by decide) (by decide) (by decide) (by decide) (by decide) (by decide) (by decide) (by decide), cf 37 (by omega), cf 38 (by omega), cf 39 (by omega)]
    exact h9 r hr
  · rw [uf 59 (by decide) (by decide) (by decide) (by decide) (by decide) (by decide) (by decide) (by decide), cf 41 (by omega)]
    exact h10 i hi
  · unfold txOk
    rw [c30, c31, c32, c33]
    by_cases e : t = nT
    · subst e
      simp only [upd_s]
      exact ⟨1, d, c, a, rfl, by omega, by omega, rfl, hd, rfl, hc, hcd, rfl, ha.1, ha.2⟩
    · simp only [upd_n _ e]
      exact w1 t (by omega)
  · rw [c33, c35]
    by_cases e : k = nQ
    · exact ⟨nT, by omega, by rw [e, upd_s], by rw [upd_s]⟩
    · obtain ⟨t, t1, t2, t3⟩ := w3 k (by omega)
      exact ⟨t, by omega, by rw [upd_n _ e]; exact t2, by rw [upd_n _ (by omega)]; exact t3⟩
  · rw [c35] at e
    have old : ∀ k, k < nQ → m 35 k ≠ nI nT := fun k hk g => by
      obtain ⟨t, t1, t2, _⟩ := w3 k hk
      rw [t2, nI_eq (by omega) (by omega)] at g
      omega
    by_cases e1 : k = nQ
    · by_cases e2 : j = nQ
      · omega
      · rw [e1, upd_s, upd_n _ e2] at e
        exact absurd e.symm (old j (by omega))
    · by_cases e2 : j = nQ
      · rw [e2, upd_s, upd_n _ e1] at e
        exact absurd e (old k (by omega))
      · rw [upd_n _ e1, upd_n _ e2] at e
        exact w4 k j (by omega) (by omega) e
  · rw [c33, cnt_new, if_pos rfl, ← w5]
  · rw [c33, cnt_new, cnt_new, cnt_new, if_neg (by decide), if_neg (by decide), if_neg (by decide)]
    exact w6
