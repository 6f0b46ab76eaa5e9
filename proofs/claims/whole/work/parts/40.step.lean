/-! one step of reading, on both sides -/
def stOK (w : Nat → Nat) (wl a : Nat) (s : pS) (a' : Nat) (s' : pS) : Prop := (∀ m, tX w wl m a → tD m s → ∃ m', Ev 80 [.ref 9] m (some (.int 1)) m' ∧ tX w wl m' a' ∧ tD m' s' ∧ cF m m') ∧ ∀ u, mX w wl u a → mD u s → u 42 21 = 1 → ∃ u', (∀ (Q : zQ) R, mL R → (∀ R, mL R → ZW 171 (0, 0, 0, 0) 30 R [] (SH, u') Q) → ZW 171 (0, 0, 0, 0) 30 R [] (SH, u) Q) ∧ mX w wl u' a' ∧ mD u' s' ∧ u' 42 21 = 1 ∧ mG u u'
def stNo (w : Nat → Nat) (wl a : Nat) (s : pS) : Prop := (∀ m, tX w wl m a → tD m s → ∃ m', Ev 80 [.ref 9] m (some (.int 0)) m' ∧ cF m m') ∧ ∀ u, mX w wl u a → mD u s → u 42 21 = 1 → ∃ u', (∀ (Q : zQ) R, mL R → Q (some (.int 0)) (SH, u') → ZW 171 (0, 0, 0, 0) 30 R [] (SH, u) Q) ∧ mG u u'
def stE (w : Nat → Nat) (wl a : Nat) (s : pS) : Prop := (∃ a' s', a < a' ∧ a' ≤ wl ∧ sI a' s' ∧ stOK w wl a s a' s') ∨ stNo w wl a s
theorem st_char {w : Nat → Nat} {wl a : Nat} {s : pS} (ho : okT w wl) (hi : sI a s) (ha : a < wl) (h1 : w a ≠ 60) (h2 : w a ≠ 38) : stE w wl a s := by
  have hw := ho.2 a ha
  have hl := ho.1
  cases e : s 0 3 with
  | zero =>
    by_cases e2 : w a = 32
    · refine Or.inl ⟨a + 1, s, by omega, by omega, sI_mono hi (by omega), fun m hx hd => c_blank ho hx hd ha h1 h2 e (Or.inl ⟨rfl, e2⟩), fun u hx hd hf => ?_⟩
      have d3 := hd.1.2.2.1
      rw [e] at d3
      have he := m_1690 (b := 1) d3 hw.2 (Or.inl ⟨rfl, e2⟩)
      refine ⟨zup (zup u 42 21 1) 42 20 (nI (a + 1)), fun Q R hR W => mi_169 ho hx hf ha h1 h2 he (by rw [zup_s, upd_n _ (by decide)]; exact hx.2.2) hR W, ?_, (hd.f _ (Or.inr rfl)).f _ (Or.inl rfl), rfl, (mG_f _ _ (by decide)).tr (mG_f _ _ (by decide))⟩
      exact (hx.cg (u' := zup u 42 21 1) rfl rfl rfl).mv _
    · refine Or.inr ⟨fun m hx hd => ?_, fun u hx hd hf => ?_⟩
      · obtain ⟨m', g1, g2, g3, g4⟩ := c_blank ho hx hd ha h1 h2 e (b := 0) (Or.inr ⟨rfl, e2⟩)
        exact ⟨m', g1, g4⟩
      · have d3 := hd.1.2.2.1
        rw [e] at d3
        have he := m_1690 (b := 0) d3 hw.2 (Or.inr ⟨rfl, e2⟩)
        refine ⟨zup (zup u 42 21 0) 42 20 (nI (a + 1)), fun Q R hR hQ => mi_169 ho hx hf ha h1 h2 he (by rw [zup_s, upd_n _ (by decide)]; exact hx.2.2) hR (fun R hR => mi_end rfl hR hQ), (mG_f _ _ (by decide)).tr (mG_f _ _ (by decide))⟩
  | succ d =>
    refine Or.inl ⟨a + 1, addS s (w a) d, by omega, by omega, addS_I hi (by omega) hw, fun m hx hd => c_char ho hx hd hi ha h1 h2 e, fun u hx hd hf => ?_⟩
    have he := m_169 (c := w a) hd hi (by omega) hw.2 e
    refine ⟨zup (mad u s (w a) d) 42 20 (nI (a + 1)), fun Q R hR W => mi_169 ho hx hf ha h1 h2 he hx.2.2 hR W, ?_, (mD_add hd).f _ (Or.inl rfl), rfl, mG_add.tr (mG_f _ _ (by decide))⟩
    exact (hx.cg (u' := mad u s (w a) d) rfl rfl rfl).mv _
theorem st_com {w : Nat → Nat} {wl a : Nat} {s : pS} (ho : okT w wl) (hi : sI a s) (ha : a < wl) (h1 : w a = 60) (h2 : pe w wl (a + 1) = 33) : stE w wl a s := by
  have hl := ho.1
  by_cases e : pe w wl (a + 2) = 45 ∧ pe w wl (a + 3) = 45
  · obtain ⟨e1, e2⟩ := e
    have h3l := pe_in (w := w) (wl := wl) (j := a + 3) (by omega)
    obtain ⟨k, k1, k2⟩ := cm_ex w wl (a + 4)
    have hkl : a + 4 + k ≤ wl := by
      rcases Nat.eq_zero_or_pos k with rfl | g
      · omega
      · have := (k1 (k - 1) (by omega)).1
        omega
    have cl : ∀ (b : Int32), ((b = 1 ∧ pe w wl (a + 4 + k + 2) = 62) ∨ (b = 0 ∧ pe w wl (a + 4 + k + 2) ≠ 62)) → ∀ m, tX w wl m a → tD m s → Ev 80 [.ref 9] m (some (.int b)) (zup m 9 3 (nI (a + 4 + k + 3))) := fun b hb m hx hd => c_80_81 (hb.elim (fun g => Or.inr g.1) (fun g => Or.inl g.1)) ho hx ha h1 (c_81 (hb.elim (fun g => Or.inr g.1) (fun g => Or.inl g.1)) ho hx ha (Or.inl ⟨h2, c_82 ho hx ha e1 e2 k1 k2 hb⟩))
    by_cases e3 : pe w wl (a + 4 + k) = 45 ∧ pe w wl (a + 4 + k + 1) = 45
    · have e4 := pe_in (w := w) (wl := wl) (j := a + 4 + k + 1) (by omega)
      by_cases e5 : pe w wl (a + 4 + k + 2) = 62
      · have e6 := pe_in (w := w) (wl := wl) (j := a + 4 + k + 2) (by omega)
        refine Or.inl ⟨a + 4 + k + 3, s, by omega, by omega, sI_mono hi (by omega), fun m hx hd => ⟨_, cl 1 (Or.inl ⟨rfl, e5⟩) m hx hd, hx.mv _, tD_at hd _, cF_at m _⟩, fun u hx hd hf => ?_⟩
        have he := m_166 (b := 1) (k := k) ho hx (by omega) (fun j hj => ⟨by omega, (k1 j hj).2⟩) (Or.inr e3) (Or.inl ⟨rfl, e4, e5⟩)
        refine ⟨_, fun Q R hR W => mi_166 ho hx hf ha h1 h2 e1 e2 he hR W, (hx.cg (u' := zup u 42 21 1) rfl rfl rfl).mv _, (hd.f _ (Or.inr rfl)).f _ (Or.inl rfl), rfl, (mG_f _ _ (by decide)).tr (mG_f _ _ (by decide))⟩
      · refine Or.inr ⟨fun m hx hd => ⟨_, cl 0 (Or.inr ⟨rfl, e5⟩) m hx hd, cF_at m _⟩, fun u hx hd hf => ?_⟩
        have he := m_166 (b := 0) (k := k) ho hx (by omega) (fun j hj => ⟨by omega, (k1 j hj).2⟩) (Or.inr e3) (Or.inr ⟨rfl, fun g => e5 g.2⟩)
        exact ⟨_, fun Q R hR hQ => mi_166 ho hx hf ha h1 h2 e1 e2 he hR (fun R hR => mi_end rfl hR hQ), (mG_f _ _ (by decide)).tr (mG_f _ _ (by decide))⟩
    · have e4 := k2.resolve_right e3
      have e5 : a + 4 + k = wl := by omega
      refine Or.inr ⟨fun m hx hd => ⟨_, cl 0 (Or.inr ⟨rfl, by rw [pe_z (by omega)]; decide⟩) m hx hd, cF_at m _⟩, fun u hx hd hf => ?_⟩
      have he := m_166 (b := 0) (k := k - 1) ho hx (by omega) (fun j hj => ⟨by omega, (k1 j (by omega)).2⟩) (Or.inl (by omega)) (Or.inr ⟨rfl, fun g => by
        rcases Nat.eq_zero_or_pos k with g0 | g0
        · omega
        · omega⟩)
      exact ⟨_, fun Q R hR hQ => mi_166 ho hx hf ha h1 h2 e1 e2 he hR (fun R hR => mi_end rfl hR hQ), (mG_f _ _ (by decide)).tr (mG_f _ _ (by decide))⟩
  · refine Or.inr ⟨fun m hx hd => ⟨m, c_80_81 (Or.inl rfl) ho hx ha h1 (c_81 (Or.inl rfl) ho hx ha (Or.inl ⟨h2, c_82_no ho hx ha e⟩)), fun _ _ => rfl⟩, fun u hx hd hf => ?_⟩
    have he := m_168_no ho hx hd hi ha (Or.inl (by rw [h2]; unfold isL; omega))
    exact ⟨_, fun Q R hR hQ => mi_168 ho hx hf ha h1 (fun g => e g.2) (by omega) he hR (fun R hR => mi_end rfl hR hQ), mG_f _ _ (by decide)⟩
theorem st_end {w : Nat → Nat} {wl a : Nat} {s : pS} (ho : okT w wl) (hi : sI a s) (ha : a < wl) (h1 : w a = 60) (h2 : pe w wl (a + 1) = 47) : stE w wl a s := by
  have hl := ho.1
  obtain ⟨k, k1, k2, k3⟩ := sk_ex w wl (a + 3)
  by_cases e : ∃ d, s 0 3 = d + 1 ∧ s 2 (s 7 d) = pe w wl (a + 2)
  · obtain ⟨d, e1, e2⟩ := e
    have q2 := (hi.2.1 _ (hi.2.2.2.1 d (by omega)).1).1
    have hin := pe_in (w := w) (wl := wl) (j := a + 2) (by omega)
    have k3 := k3 (by omega)
    by_cases e5 : pe w wl (a + 3 + k) = 62
    · have hin2 := pe_in (w := w) (wl := wl) (j := a + 3 + k) (by omega)
      refine Or.inl ⟨a + 3 + k + 1, endS s d, by omega, by omega, endS_I hi (by omega) e1, fun m hx hd => ?_, fun u hx hd hf => ?_⟩
      · obtain ⟨m', g1, g2, g3, g4⟩ := c_84 (b := 1) ho hx hd hi ha e1 e2 k1 k2 (by omega) (Or.inl ⟨rfl, e5⟩)
        exact ⟨m', c_80_81 (Or.inr rfl) ho hx ha h1 (c_81 (Or.inr rfl) ho hx ha (Or.inr (Or.inl ⟨h2, g1⟩))), g2, g3, g4⟩
      · have he := m_167 ho hx hd hi ha k1 k2 e1 e2
        rw [if_pos e5] at he
        exact ⟨_, fun Q R hR W => mi_167 ho hx hf ha h1 h2 he hR W, ((hx.cg (u' := zup u 42 21 1) rfl rfl rfl).mv _).cg rfl rfl rfl, mD_end hd e1, rfl, mG_end⟩
    · refine Or.inr ⟨fun m hx hd => ?_, fun u hx hd hf => ?_⟩
      · obtain ⟨m', g1, g2, g3, g4⟩ := c_84 (b := 0) ho hx hd hi ha e1 e2 k1 k2 (by omega) (Or.inr ⟨rfl, e5⟩)
        exact ⟨m', c_80_81 (Or.inl rfl) ho hx ha h1 (c_81 (Or.inl rfl) ho hx ha (Or.inr (Or.inl ⟨h2, g1⟩))), g4⟩
      · have he := m_167 ho hx hd hi ha k1 k2 e1 e2
        rw [if_neg e5] at he
        exact ⟨_, fun Q R hR hQ => mi_167 ho hx hf ha h1 h2 he hR (fun R hR => mi_end rfl hR hQ), (mG_f _ _ (by decide)).tr (mG_f _ _ (by decide))⟩
  · have h' : ∀ d, s 0 3 = d + 1 → s 2 (s 7 d) ≠ pe w wl (a + 2) := fun d g1 g2 => e ⟨d, g1, g2⟩
    refine Or.inr ⟨fun m hx hd => ⟨m, c_80_81 (Or.inl rfl) ho hx ha h1 (c_81 (Or.inl rfl) ho hx ha (Or.inr (Or.inl ⟨h2, c_84_no ho hx hd hi ha h'⟩))), fun _ _ => rfl⟩, fun u hx hd hf => ?_⟩
    exact ⟨_, fun Q R hR hQ => mi_167 ho hx hf ha h1 h2 (m_167_no ho hx hd hi ha k1 k2 h') hR (fun R hR => mi_end rfl hR hQ), (mG_f _ _ (by decide)).tr (mG_f _ _ (by decide))⟩
theorem st_beg {w : Nat → Nat} {wl a : Nat} {s : pS} (ho : okT w wl) (hi : sI a s) (ha : a < wl) (h1 : w a = 60) (h2 : pe w wl (a + 1) ≠ 33) (h3 : pe w wl (a + 1) ≠ 47) : stE w wl a s := by
  have hl := ho.1
  have i1 := hi.1
  have cl : ∀ (b : Int32) m m', (b = 0 ∨ b = 1) → tX w wl m a → Ev 83 [.ref 9] m (some (.int b)) m' → Ev 80 [.ref 9] m (some (.int b)) m' := fun b m m' hb hx g => c_80_81 hb ho hx ha h1 (c_81 hb ho hx ha (Or.inr (Or.inr ⟨h2, h3, g⟩)))
  have nc : ¬ (pe w wl (a + 1) = 33 ∧ pe w wl (a + 2) = 45 ∧ pe w wl (a + 3) = 45) := fun g => h2 g.1
  by_cases hL : isL (pe w wl (a + 1))
  · by_cases e1 : (s 0 3 = 0 ∧ 0 < s 0 1) ∨ s 0 3 = 4
    · refine Or.inr ⟨fun m hx hd => ⟨m, cl 0 m m (Or.inl rfl) hx (c_83_no ho hx hd hi ha (Or.inr (by omega))), fun _ _ => rfl⟩, fun u hx hd hf => ?_⟩
      exact ⟨_, fun Q R hR hQ => mi_168 ho hx hf ha h1 nc h3 (m_168_no ho hx hd hi ha (Or.inr e1)) hR (fun R hR => mi_end rfl hR hQ), mG_f _ _ (by decide)⟩
    · have h0 : s 0 3 = 0 → s 0 1 = 0 := by omega
      have h4 : s 0 3 < 4 := by omega
      have hin : a + 1 < wl := pe_in (w := w) (by unfold isL at hL; omega)
      have hl2 : 65 ≤ pe w wl (a + 1) ∧ pe w wl (a + 1) ≤ 122 := by unfold isL at hL; omega
      obtain ⟨k, k1, k2, k3⟩ := sk_ex w wl (a + 2)
      have k3 := k3 (by omega)
      by_cases e2 : s 0 1 = 75
      · refine Or.inr ⟨fun m hx hd => ⟨m, cl 0 m m (Or.inl rfl) hx (c_83_no ho hx hd hi ha (Or.inr (by omega))), fun _ _ => rfl⟩, fun u hx hd hf => ?_⟩
        by_cases e3 : pe w wl (a + 2 + k) = 62
        · have hin2 := pe_in (w := w) (wl := wl) (j := a + 2 + k) (by omega)
          obtain ⟨u', g1, g2, g3, g4, g5⟩ := m_168o ho hx hd hi ha hL h0 h4 k1 e3
          exact ⟨u', fun Q R hR hQ => mi_168 ho hx hf ha h1 nc h3 g1 hR (fun R hR => mi_fin ho g2 g3 (show s 0 3 + 1 ≤ 4 by omega) g4 (by omega) (by omega) (Or.inr ⟨rfl, fun g => by have : s 0 3 + 1 = 0 := g.1; omega⟩) hR hQ), g5⟩
        · have e4 : ¬ (pe w wl (a + 2 + k) = 47 ∧ pe w wl (a + 2 + k + 1) = 62) := fun g => by
            have := pe_in (w := w) (wl := wl) (j := a + 2 + k + 1) (by omega)
            omega
          obtain ⟨u', g1, g2, g3, g4, g5⟩ := m_168e (b := 0) ho hx hd hi ha hL h0 h4 k1 k2 (by omega) e3 (Or.inr ⟨rfl, e4⟩)
          exact ⟨u', fun Q R hR hQ => mi_168 ho hx hf ha h1 nc h3 g1 hR (fun R hR => mi_end g4 hR hQ), g5⟩
      · have h5 : s 0 1 < 75 := by omega
        by_cases e3 : pe w wl (a + 2 + k) = 62
        · have hin2 := pe_in (w := w) (wl := wl) (j := a + 2 + k) (by omega)
          refine Or.inl ⟨a + 2 + k + 1, begS s (pe w wl (a + 1)), by omega, by omega, begS_I hi (by omega) hl2 h0 h4, fun m hx hd => ?_, fun u hx hd hf => ?_⟩
          · obtain ⟨m', g1, g2, g3, g4⟩ := c_83 (b := 1) ho hx hd hi ha hL h0 h4 h5 k1 k2 (by omega) (by omega) (Or.inl ⟨rfl, e3⟩)
            exact ⟨m', cl 1 m m' (Or.inr rfl) hx g1, g2, g3, g4⟩
          · obtain ⟨u', g1, g2, g3, g4, g5⟩ := m_168o ho hx hd hi ha hL h0 h4 k1 e3
            exact ⟨u', fun Q R hR W => mi_168 ho hx hf ha h1 nc h3 g1 hR W, g2, g3, g4, g5⟩
        · by_cases e4 : pe w wl (a + 2 + k) = 47
          · by_cases e5 : pe w wl (a + 2 + k + 1) = 62
            · have hin2 := pe_in (w := w) (wl := wl) (j := a + 2 + k + 1) (by omega)
              refine Or.inl ⟨a + 2 + k + 2, endS (begS s (pe w wl (a + 1))) (s 0 3), by omega, by omega, endS_I (begS_I (a' := a + 3) hi (by omega) hl2 h0 h4) (by omega) rfl, fun m hx hd => ?_, fun u hx hd hf => ?_⟩
              · obtain ⟨m', g1, g2, g3, g4⟩ := c_83e (b := 1) ho hx hd hi ha hL h0 h4 h5 k1 (by omega) e4 (Or.inl ⟨rfl, e5⟩)
                exact ⟨m', cl 1 m m' (Or.inr rfl) hx g1, g2, g3, g4⟩
              · obtain ⟨u', g1, g2, g3, g4, g5⟩ := m_168e (b := 1) ho hx hd hi ha hL h0 h4 k1 k2 (by omega) e3 (Or.inl ⟨rfl, e4, e5⟩)
                exact ⟨u', fun Q R hR W => mi_168 ho hx hf ha h1 nc h3 g1 hR W, g2, g3, g4, g5⟩
            · refine Or.inr ⟨fun m hx hd => ?_, fun u hx hd hf => ?_⟩
              · obtain ⟨m', g1, g2, g3, g4⟩ := c_83e (b := 0) ho hx hd hi ha hL h0 h4 h5 k1 (by omega) e4 (Or.inr ⟨rfl, e5⟩)
                exact ⟨m', cl 0 m m' (Or.inl rfl) hx g1, g4⟩
              · obtain ⟨u', g1, g2, g3, g4, g5⟩ := m_168e (b := 0) ho hx hd hi ha hL h0 h4 k1 k2 (by omega) e3 (Or.inr ⟨rfl, fun g => e5 g.2⟩)
                exact ⟨u', fun Q R hR hQ => mi_168 ho hx hf ha h1 nc h3 g1 hR (fun R hR => mi_end g4 hR hQ), g5⟩
          · refine Or.inr ⟨fun m hx hd => ?_, fun u hx hd hf => ?_⟩
            · obtain ⟨m', g1, g2, g3, g4⟩ := c_83 (b := 0) ho hx hd hi ha hL h0 h4 h5 k1 k2 (by omega) e4 (Or.inr ⟨rfl, e3⟩)
              exact ⟨m', cl 0 m m' (Or.inl rfl) hx g1, g4⟩
            · obtain ⟨u', g1, g2, g3, g4, g5⟩ := m_168e (b := 0) ho hx hd hi ha hL h0 h4 k1 k2 (by omega) e3 (Or.inr ⟨rfl, fun g => e4 g.1⟩)
              exact ⟨u', fun Q R hR hQ => mi_168 ho hx hf ha h1 nc h3 g1 hR (fun R hR => mi_end g4 hR hQ), g5⟩
  · refine Or.inr ⟨fun m hx hd => ⟨m, cl 0 m m (Or.inl rfl) hx (c_83_no ho hx hd hi ha (Or.inl hL)), fun _ _ => rfl⟩, fun u hx hd hf => ?_⟩
    exact ⟨_, fun Q R hR hQ => mi_168 ho hx hf ha h1 nc h3 (m_168_no ho hx hd hi ha (Or.inl hL)) hR (fun R hR => mi_end rfl hR hQ), mG_f _ _ (by decide)⟩
theorem st_ref {w : Nat → Nat} {wl a : Nat} {s : pS} (ho : okT w wl) (hi : sI a s) (ha : a < wl) (h1 : w a = 38) : stE w wl a s := by
  have hl := ho.1
  have i1 := hi.1
  obtain ⟨k, k1, k2, k3⟩ := rn_ex w wl (a + 2) 4
  have md : (pe w wl (a + 1) = 35 ∧ pe w wl (a + 2 + k) = 59 ∧ (k = 2 ∨ k = 3) ∧ 33 ≤ dvl (pe w wl) k 0 (a + 2) ∧ dvl (pe w wl) k 0 (a + 2) ≤ 126 ∧ s 0 3 ≠ 0) ∨ ¬ (pe w wl (a + 1) = 35 ∧ pe w wl (a + 2 + k) = 59 ∧ (k = 2 ∨ k = 3) ∧ 33 ≤ dvl (pe w wl) k 0 (a + 2) ∧ dvl (pe w wl) k 0 (a + 2) ≤ 126 ∧ s 0 3 ≠ 0) := Classical.em _
  rcases md with ⟨g0, g1, g2, g3, g4, g5⟩ | hbad
  · obtain ⟨d, e⟩ : ∃ d, s 0 3 = d + 1 := ⟨s 0 3 - 1, by omega⟩
    have hin := pe_in (w := w) (wl := wl) (j := a + 2 + k) (by omega)
    have k4 := k3.resolve_left (by omega)
    refine Or.inl ⟨a + 2 + k + 1, addS s (dvl (pe w wl) k 0 (a + 2)) d, by omega, by omega, addS_I hi (by omega) ⟨by omega, g4⟩, fun m hx hd => ?_, fun u hx hd hf => ?_⟩
    · obtain ⟨m', x1, x2, x3, x4⟩ := c_86 ho hx hd hi ha g0 (by omega) k2 (Or.inr k4) g1 (by omega) g3 g4 e
      exact ⟨m', c_80_86 (Or.inr rfl) ho hx ha h1 x1, x2, x3, x4⟩
    · refine ⟨_, fun Q R hR W => mi_170 ho hx hf ha h1 (m_170 ho hx hd hi ha k1 k2 k4 g0 g1 g2 g3 g4 e) hR W, ?_, mD_add ((hd.f _ (Or.inr rfl)).f _ (Or.inl rfl)), rfl, (mG_f _ _ (by decide)).tr ((mG_f _ _ (by decide)).tr mG_add)⟩
      exact ((hx.cg (u' := zup u 42 21 1) rfl rfl rfl).mv _).cg rfl rfl rfl
  · refine Or.inr ⟨fun m hx hd => ?_, fun u hx hd hf => ?_⟩
    · by_cases e : pe w wl (a + 1) = 35
      · obtain ⟨k', q1, q2, q3⟩ := rn_ex w wl (a + 2) 3
        refine ⟨_, c_80_86 (Or.inl rfl) ho hx ha h1 (c_86_bad ho hx hd ha e q1 q2 q3 (fun g => ?_)), cF_at m _⟩
        obtain ⟨r1, r2, r3, r4, r5⟩ := g
        have hkk : k' = k := by
          by_cases g : k' = k
          · exact g
          · exfalso
            by_cases g' : k' < k
            · have := k2 k' g'
              unfold isD at this
              omega
            · have := q2 k (by omega)
              exact k3.elim (fun g => by omega) (fun g => g this)
        subst hkk
        exact hbad ⟨e, r1, by omega, r3, r4, r5⟩
      · exact ⟨m, c_80_86 (Or.inl rfl) ho hx ha h1 (c_86_no ho hx ha e), fun _ _ => rfl⟩
    · exact ⟨_, fun Q R hR hQ => mi_170 ho hx hf ha h1 (m_170_bad ho hx hd hi ha k1 k2 k3 hbad) hR (fun R hR => mi_end rfl hR hQ), (mG_f _ _ (by decide)).tr (mG_f _ _ (by decide))⟩
theorem st_all {w : Nat → Nat} {wl a : Nat} {s : pS} (ho : okT w wl) (hi : sI a s) (ha : a < wl) : stE w wl a s := by
  by_cases h1 : w a = 60
  · by_cases h2 : pe w wl (a + 1) = 33
    · exact st_com ho hi ha h1 h2
    · by_cases h3 : pe w wl (a + 1) = 47
      · exact st_end ho hi ha h1 h3
      · exact st_beg ho hi ha h1 h2 h3
  · by_cases h2 : w a = 38
    · exact st_ref ho hi ha h2
    · exact st_char ho hi ha h1 h2
