/-! an accepted answer; an accepted return -/
theorem tk_Q {m u0 : zM} {nT nQ nR nM W t : Nat} {nm : Nat → List Nat} {vl pl dg : Nat → Nat} (ho : okM 81 0 nm vl pl dg) (hM : cM m 81 0 nm vl pl dg) (hg : gW m nT nQ nR nM W) (hl0 : lR u0 m nT nQ nR nM) (hW : W < 4000) (ht : t < nT) (h29 : m 29 t = nI (n8 (nm 2))) (h33 : m 33 t = nI 3) : TK m nT nQ nR nM W (mtx 81 0 nm vl pl dg) := by
  obtain ⟨⟨t1, t2, t3⟩, ⟨q1, q2, q3⟩, ⟨r1, r2, r3⟩, ⟨k1, k2, k3⟩, -⟩ := id hl0
  have hlen := mtx_len ho
  have o2 := ho.2.1
  have o3 : nmOk (nm 2) := ho.2.2.1 (by decide)
  have o5 := ho.2.2.2.2.1 rfl
  have hb := hg.2.1.1
  obtain ⟨s, d, c, a, -, -, -, b4, b5, b6, b7, b8, -⟩ := hg.1.1 t ht
  obtain ⟨ed, d1, d2⟩ := hg.2.1.2 d b5
  obtain ⟨ec, c1, c2⟩ := hg.2.1.2 c b7
  have cf : ∀ a, a ≠ 41 → a ≠ 18 → cnm m nM (nI (n8 (nm 1))) a = m a := fun a g1 g2 => cnm_far g1 g2
  have f28 := cf 28 (by decide) (by decide)
  have f29 := cf 29 (by decide) (by decide)
  have f31 := cf 31 (by decide) (by decide)
  have f32 := cf 32 (by decide) (by decide)
  have f33 := cf 33 (by decide) (by decide)
  have f36 := cf 36 (by decide) (by decide)
  have f22 := cf 22 (by decide) (by decide)
  have f39 := cf 39 (by decide) (by decide)
  have hfd : Ev 92 [.ref 28, .int (nI (n8 (nm 2)))] (cnm m nM (nI (n8 (nm 1)))) (some (.int (nI t))) (cnm m nM (nI (n8 (nm 1)))) := ev_find (nT := nT) (by rw [f28]; exact t1) t3 (by unfold dN; rw [f29]; exact hg.2.2.2.2) (Or.inl ⟨t, ht, by rw [f29]; exact h29, rfl⟩)
  obtain ⟨hr40, room4⟩ := room hg.1 t3 ht h33 (s := 4) (Or.inl ⟨rfl, Or.inl rfl⟩)
  obtain ⟨-, room5⟩ := room hg.1 t3 ht h33 (s := 5) (Or.inl ⟨rfl, Or.inr rfl⟩)
  have hz : m 39 nR = 0 := hg.2.2.2.1 nR (Nat.le_refl _) hr40
  have hM60 : nM < 60 := by omega
  have hx0 : ∀ {u : zM} {P7 : Nat} {zs : List Nat}, tx u P7 ([vl 3] ++ zs) → u 58 P7 = nI (vl 3) := fun h => h 0 (by simp only [List.length_append, List.length_cons]; omega)
  rcases o5 with v | v
  · have hev := ev_settle (m := cnm m nM (nI (n8 (nm 1)))) (n := nT) (q := nQ) (t := t) (d := d) (c := c) (r := nR) (ed := ed) (ec := ec) t3 ht hr40 b5 b7 b8 (by omega) (by omega) (by rw [f28]; exact t1) (by rw [f28]; exact q1) (by rw [f36]; exact r1) (by rw [f31]; exact b4) (by rw [f32]; exact b6) (by rw [f22]; exact d1) (by rw [f22]; exact c1) (by rw [f33]; exact room4)
    refine tk_F (K := 81) (t := t) hlen o2 hg hl0 hW hr40 (ev_22 hM k1 hM60 (Or.inr (Or.inl ⟨t, rfl, hfd, ev_27 (Or.inl ⟨v, hev⟩)⟩))) (fun a ha => cst_far b5 b7 ha) (cst_22 b5 b7 (fun b hb => by rw [f22]; obtain ⟨y, y1, y2⟩ := hg.2.1.2 b hb; exact ⟨y, y1, by omega⟩) (by omega) (by omega)) (fun u1 h1 => ?_) (fun u nb p hl hN h36 hnb htx hlt => ?_)
    · exact ⟨_, LR_settle h1 ht (by rw [f33]; exact h33) b5 b7 b8 (by rw [f22]; exact d1) (by omega) (by rw [f22]; exact c1) (by omega) (by rw [f39]; exact hz)⟩
    · rw [m81] at htx hlt
      obtain ⟨P4, P7, p1, p2, p3, p4⟩ := dm_fol (X := [vl 3]) (Or.inl ⟨rfl, rfl⟩) o2 o3 (fun c hc' => by
        simp only [List.mem_cons, List.not_mem_nil, or_false] at hc'
        omega) (Nat.le_refl 1) hl hg.2.2.2.2 ht h29 hM60 hnb h36 htx hlt
      obtain ⟨q', hS⟩ := LR_settle hN ht (by rw [f33]; exact h33) b5 b7 b8 (by rw [f22]; exact d1) (by omega) (by rw [f22]; exact c1) (by omega) (by rw [f39]; exact hz)
      have hF : mF u (zup (zup u 59 nM (nI (n37 (nm 1)))) 42 38 (nI (nM + 1))) := ((mF.rf u).up (by decide) (by decide)).fld (by omega)
      have g58 : zup (zup u 59 nM (nI (n37 (nm 1)))) 42 38 (nI (nM + 1)) 58 P7 = nI 65 := by rw [hF.1 58 (by omega), hx0 p2, v]
      have e62 := (hN.1.2.2.2.2.1 t ht).2.1
      have e63 := (hN.1.2.2.2.2.1 t ht).2.2.1
      rw [f31, b4] at e62
      rw [f32, b6] at e63
      have e70d := (hN.1.2.2.2.2.2.2.1 d b5).2.2
      have e70c := (hN.1.2.2.2.2.2.2.1 c b7).2.2
      rw [f22, d1] at e70d
      rw [f22, c1] at e70c
      refine ⟨_, q', fun Q hQ => p4 Q (dm_set rfl p1 g58 t3 ht (by omega) b5 b7 b8 hN.1.1.2.1 hN.1.2.2.1.2.1 hN.1.2.1.2.1 e62 e63 e70d (by omega) e70c (by omega) (by rw [cn_eq hN.1, f33]; exact room4) Q hQ), hF.tr mst_mF, hS⟩
  · have hev := ev_reject (m := cnm m nM (nI (n8 (nm 1)))) (n := nT) (q := nQ) (t := t) (d := d) (r := nR) t3 ht hr40 b5 (by rw [f28]; exact t1) (by rw [f28]; exact q1) (by rw [f36]; exact r1) (by rw [f31]; exact b4) (by rw [f33]; exact room5)
    refine tk_F (K := 81) (t := t) hlen o2 hg hl0 hW hr40 (ev_22 hM k1 hM60 (Or.inr (Or.inl ⟨t, rfl, hfd, ev_27 (Or.inr ⟨v, hev⟩)⟩))) (fun a ha => by
        by_cases g : a < 14 ∨ 16 < a
        · rw [crj_far (by omega)]
        · unfold crj
          rw [zwk_far (by omega) (by omega) (by omega), cend_39 (by omega) (by omega) (by omega) (by omega), zup_n _ (by omega)]) (fun b hb => by rw [crj_far (by omega), f22]; obtain ⟨y, y1, y2⟩ := hg.2.1.2 b hb; exact ⟨y, y1, by omega⟩) (fun u1 h1 => ?_) (fun u nb p hl hN h36 hnb htx hlt => ?_)
    · exact ⟨_, LR_expire h1 ht (by rw [f33]; exact h33) b5 (by rw [f39]; exact hz)⟩
    · rw [m81] at htx hlt
      obtain ⟨P4, P7, p1, p2, p3, p4⟩ := dm_fol (X := [vl 3]) (Or.inl ⟨rfl, rfl⟩) o2 o3 (fun c hc' => by
        simp only [List.mem_cons, List.not_mem_nil, or_false] at hc'
        omega) (Nat.le_refl 1) hl hg.2.2.2.2 ht h29 hM60 hnb h36 htx hlt
      obtain ⟨q', hS⟩ := LR_expire hN ht (by rw [f33]; exact h33) b5 (by rw [f39]; exact hz)
      have hF : mF u (zup (zup u 59 nM (nI (n37 (nm 1)))) 42 38 (nI (nM + 1))) := ((mF.rf u).up (by decide) (by decide)).fld (by omega)
      have g58 : zup (zup u 59 nM (nI (n37 (nm 1)))) 42 38 (nI (nM + 1)) 58 P7 = nI 82 := by rw [hF.1 58 (by omega), hx0 p2, v]
      have e62 := (hN.1.2.2.2.2.1 t ht).2.1
      rw [f31, b4] at e62
      refine ⟨_, q', fun Q hQ => p4 Q (dm_rej rfl p1 g58 t3 ht (by omega) b5 hN.1.1.2.1 hN.1.2.2.1.2.1 hN.1.2.1.2.1 e62 (by rw [cn_eq hN.1, f33]; exact room5) Q hQ), hF.tr mrj_mF, hS⟩
theorem tk_R {m u0 : zM} {nT nQ nR nM W t : Nat} {nm : Nat → List Nat} {vl pl dg : Nat → Nat} (ho : okM 82 0 nm vl pl dg) (hM : cM m 82 0 nm vl pl dg) (hg : gW m nT nQ nR nM W) (hl0 : lR u0 m nT nQ nR nM) (hW : W < 4000) (ht : t < nT) (h29 : m 29 t = nI (n8 (nm 2))) (h33 : m 33 t = nI 4) : TK m nT nQ nR nM W (mtx 82 0 nm vl pl dg) := by
  obtain ⟨⟨t1, t2, t3⟩, ⟨q1, q2, q3⟩, ⟨r1, r2, r3⟩, ⟨k1, k2, k3⟩, -⟩ := id hl0
  have hlen := mtx_len ho
  have o2 := ho.2.1
  have o3 : nmOk (nm 2) := ho.2.2.1 (by decide)
  have o6 := ho.2.2.2.2.2.1 rfl
  have hb := hg.2.1.1
  obtain ⟨s, d, c, a, -, -, -, b4, b5, b6, b7, b8, -⟩ := hg.1.1 t ht
  obtain ⟨ed, d1, d2⟩ := hg.2.1.2 d b5
  obtain ⟨ec, c1, c2⟩ := hg.2.1.2 c b7
  have cf : ∀ a, a ≠ 41 → a ≠ 18 → cnm m nM (nI (n8 (nm 1))) a = m a := fun a g1 g2 => cnm_far g1 g2
  have f28 := cf 28 (by decide) (by decide)
  have f29 := cf 29 (by decide) (by decide)
  have f31 := cf 31 (by decide) (by decide)
  have f32 := cf 32 (by decide) (by decide)
  have f33 := cf 33 (by decide) (by decide)
  have f36 := cf 36 (by decide) (by decide)
  have f22 := cf 22 (by decide) (by decide)
  have f39 := cf 39 (by decide) (by decide)
  have hfd : Ev 92 [.ref 28, .int (nI (n8 (nm 2)))] (cnm m nM (nI (n8 (nm 1)))) (some (.int (nI t))) (cnm m nM (nI (n8 (nm 1)))) := ev_find (nT := nT) (by rw [f28]; exact t1) t3 (by unfold dN; rw [f29]; exact hg.2.2.2.2) (Or.inl ⟨t, ht, by rw [f29]; exact h29, rfl⟩)
  obtain ⟨hr40, room6⟩ := room hg.1 t3 ht h33 (s := 6) (Or.inr ⟨rfl, rfl⟩)
  have hz : m 39 nR = 0 := hg.2.2.2.1 nR (Nat.le_refl _) hr40
  have hM60 : nM < 60 := by omega
  have hev := ev_giveBack (m := cnm m nM (nI (n8 (nm 1)))) (n := nT) (q := nQ) (t := t) (d := d) (c := c) (r := nR) (ed := ed) (ec := ec) (nI (vl 3)) t3 ht hr40 b5 b7 b8 (by omega) (by omega) (by rw [f28]; exact t1) (by rw [f28]; exact q1) (by rw [f36]; exact r1) (by rw [f31]; exact b4) (by rw [f32]; exact b6) (by rw [f22]; exact d1) (by rw [f22]; exact c1) (by rw [f33]; exact room6)
  refine tk_F (K := 82) (t := t) hlen o2 hg hl0 hW hr40 (ev_22 hM k1 hM60 (Or.inr (Or.inr ⟨t, rfl, hfd, hev⟩))) (fun a ha => cgb_far b5 b7 ha) (cgb_22 b5 b7 (fun b hb => by rw [f22]; obtain ⟨y, y1, y2⟩ := hg.2.1.2 b hb; exact ⟨y, y1, by omega⟩) (by omega) (by omega)) (fun u1 h1 => ?_) (fun u nb p hl hN h36 hnb htx hlt => ?_)
  · exact ⟨_, LR_back (nI (vl 3)) h1 ht (by rw [f33]; exact h33) b5 b7 b8 (by rw [f22]; exact d1) (by omega) (by rw [f22]; exact c1) (by omega) (by rw [f39]; exact hz)⟩
  · rw [m82] at htx hlt
    obtain ⟨P4, P7, p1, p2, p3, p4⟩ := dm_fol (Or.inr ⟨rfl, rfl⟩) o2 o3 (fun c hc' => (amT_ch2 c hc').2) (by unfold amT; simp only [List.length_append, List.length_cons]; omega) hl hg.2.2.2.2 ht h29 hM60 hnb h36 htx hlt
    obtain ⟨q', hS⟩ := LR_back (nI (vl 3)) hN ht (by rw [f33]; exact h33) b5 b7 b8 (by rw [f22]; exact d1) (by omega) (by rw [f22]; exact c1) (by omega) (by rw [f39]; exact hz)
    have hF : mF u (zup (zup u 59 nM (nI (n37 (nm 1)))) 42 38 (nI (nM + 1))) := ((mF.rf u).up (by decide) (by decide)).fld (by omega)
    have e62 := (hN.1.2.2.2.2.1 t ht).2.1
    have e63 := (hN.1.2.2.2.2.1 t ht).2.2.1
    rw [f31, b4] at e62
    rw [f32, b6] at e63
    have e70d := (hN.1.2.2.2.2.2.2.1 d b5).2.2
    have e70c := (hN.1.2.2.2.2.2.2.1 c b7).2.2
    rw [f22, d1] at e70d
    rw [f22, c1] at e70c
    refine ⟨_, q', fun Q hQ => p4 Q (dm_back rfl p1 hnb (by rw [hF.2 36 (by decide) (by decide) (by decide) (by decide)]; exact h36) amT_ch (tx_mF p2 hF) p3 (amF_amT o6.2) t3 ht (by omega) b5 b7 b8 hN.1.1.2.1 hN.1.2.2.1.2.1 hN.1.2.1.2.1 e62 e63 e70d (by omega) e70c (by omega) (by rw [cn_eq hN.1, f33]; exact room6) Q hQ), hF.tr mgb_mF, hS⟩
theorem tk_all {m u0 : zM} {K n nT nQ nR nM W : Nat} {nm : Nat → List Nat} {vl pl dg : Nat → Nat} (ho : okM K n nm vl pl dg) (hM : cM m K n nm vl pl dg) (hg : gW m nT nQ nR nM W) (hl0 : lR u0 m nT nQ nR nM) (ha : accM m nT W K n nm vl pl) : TK m nT nQ nR nM W (mtx K n nm vl pl dg) := by
  obtain ⟨hW, ⟨rfl, h1, h2, h3, h4, h5⟩ | ⟨rfl, t, h1, h2, h3⟩ | ⟨rfl, t, h1, h2, h3⟩⟩ := ha
  · exact tk_P ho hM hg hl0 hW h1 h2 h3 h4 h5
  · obtain rfl : n = 0 := by have := ho.1; omega
    exact tk_Q ho hM hg hl0 hW h1 h2 h3
  · obtain rfl : n = 0 := by have := ho.1; omega
    exact tk_R ho hM hg hl0 hW h1 h2 h3
