/-! the pairs after a substitution; what the model does -/
theorem PR_new {t m s g c : Nat} {f f' : Nat → Int32} {z y : vRow} (hms : m ≤ s) (hs6 : s < 6)
    (h5 : ∀ i, i < m → ∃ a b : Nat, 1 ≤ a ∧ a ≤ 20 ∧ 1 ≤ b ∧ b ≤ 20 ∧ a ≠ b ∧ z (42 + 18 * t + 3 * i) = nI a ∧ z (43 + 18 * t + 3 * i) = nI b ∧ ((z (44 + 18 * t + 3 * i) = 1 ∧ f a = -1 ∧ f b = nI a) ∨ (z (44 + 18 * t + 3 * i) = 2 ∧ f a = -1 ∧ f b = -1)))
    (h6 : ∀ x, 1 ≤ x → x ≤ 20 → (∀ i, i < m → z (42 + 18 * t + 3 * i) ≠ nI x ∧ z (43 + 18 * t + 3 * i) ≠ nI x) → f x = 0)
    (h7 : ∀ i j, i < m → j < m → i ≠ j → z (42 + 18 * t + 3 * i) ≠ z (42 + 18 * t + 3 * j) ∧ z (42 + 18 * t + 3 * i) ≠ z (43 + 18 * t + 3 * j) ∧ z (43 + 18 * t + 3 * i) ≠ z (43 + 18 * t + 3 * j))
    (hg : 1 ≤ g ∧ g ≤ 20) (hc : 1 ≤ c ∧ c ≤ 20) (hgc : g ≠ c) (ng : ∀ i, i < m → ¬ inP t i (nI g) z) (nc : ∀ i, i < m → ¬ inP t i (nI c) z)
    (hf : ∀ x, f' x = if x = c then nI g else if x = g then -1 else f x)
    (y78 : y (78 + t) = nI (m + 1)) (y32 : y (32 + t) = nI (s + 1)) (yo : ∀ j, 42 + 18 * t ≤ j → j < 42 + 18 * t + 3 * m → y j = z j) (ya : y (42 + 18 * t + 3 * m) = nI g) (yb : y (43 + 18 * t + 3 * m) = nI c) (yc : y (44 + 18 * t + 3 * m) = 1) : PR t f' y := by
  refine ⟨m + 1, s + 1, by omega, by omega, y78, y32, fun i hi => ?_, fun x x1 x2 hx => ?_, fun i j hi hj hij => ?_⟩
  · by_cases e : i = m
    · subst e
      exact ⟨g, c, hg.1, hg.2, hc.1, hc.2, hgc, ya, yb, Or.inl ⟨yc, by rw [hf, if_neg hgc, if_pos rfl], by rw [hf, if_pos rfl]⟩⟩
    · have hi' : i < m := by omega
      obtain ⟨a, b, a1, a2, b1, b2, ab, za, zb, st⟩ := h5 i hi'
      have ag : a ≠ g := fun e => ng i hi' (Or.inl (by rw [za, e]))
      have ac : a ≠ c := fun e => nc i hi' (Or.inl (by rw [za, e]))
      have bg : b ≠ g := fun e => ng i hi' (Or.inr (by rw [zb, e]))
      have bc : b ≠ c := fun e => nc i hi' (Or.inr (by rw [zb, e]))
      refine ⟨a, b, a1, a2, b1, b2, ab, by rw [yo _ (by omega) (by omega)]; exact za, by rw [yo _ (by omega) (by omega)]; exact zb, ?_⟩
      rw [yo _ (by omega) (by omega), hf a, hf b, if_neg ac, if_neg ag, if_neg bc, if_neg bg]
      exact st
  · have xm := hx m (by omega)
    have xg : x ≠ g := fun e => xm.1 (by rw [ya, e])
    have xc : x ≠ c := fun e => xm.2 (by rw [yb, e])
    rw [hf, if_neg xc, if_neg xg]
    refine h6 x x1 x2 (fun i hi => ?_)
    have := hx i (by omega)
    rw [yo _ (by omega) (by omega), yo _ (by omega) (by omega)] at this
    exact this
  · by_cases ei : i = m
    · subst ei
      have hj' : j < i := by omega
      rw [ya, yb, yo _ (by omega) (by omega), yo _ (by omega) (by omega)]
      exact ⟨fun e => ng j hj' (Or.inl e.symm), fun e => ng j hj' (Or.inr e.symm), fun e => nc j hj' (Or.inr e.symm)⟩
    · have hi' : i < m := by omega
      by_cases ej : j = m
      · subst ej
        rw [ya, yb, yo _ (by omega) (by omega), yo _ (by omega) (by omega)]
        exact ⟨fun e => ng i hi' (Or.inl e), fun e => nc i hi' (Or.inl e), fun e => nc i hi' (Or.inr e)⟩
      · rw [yo _ (by omega) (by omega), yo _ (by omega) (by omega), yo _ (by omega) (by omega), yo _ (by omega) (by omega)]
        exact h7 i j hi' (by omega) hij
theorem PR_back {t m s g c k : Nat} {f f' : Nat → Int32} {z y : vRow} (hms : m ≤ s) (hs6 : s < 6)
    (h5 : ∀ i, i < m → ∃ a b : Nat, 1 ≤ a ∧ a ≤ 20 ∧ 1 ≤ b ∧ b ≤ 20 ∧ a ≠ b ∧ z (42 + 18 * t + 3 * i) = nI a ∧ z (43 + 18 * t + 3 * i) = nI b ∧ ((z (44 + 18 * t + 3 * i) = 1 ∧ f a = -1 ∧ f b = nI a) ∨ (z (44 + 18 * t + 3 * i) = 2 ∧ f a = -1 ∧ f b = -1)))
    (h6 : ∀ x, 1 ≤ x → x ≤ 20 → (∀ i, i < m → z (42 + 18 * t + 3 * i) ≠ nI x ∧ z (43 + 18 * t + 3 * i) ≠ nI x) → f x = 0)
    (h7 : ∀ i j, i < m → j < m → i ≠ j → z (42 + 18 * t + 3 * i) ≠ z (42 + 18 * t + 3 * j) ∧ z (42 + 18 * t + 3 * i) ≠ z (43 + 18 * t + 3 * j) ∧ z (43 + 18 * t + 3 * i) ≠ z (43 + 18 * t + 3 * j))
    (hg : 1 ≤ g ∧ g ≤ 20) (hc : 1 ≤ c ∧ c ≤ 20) (hgc : g ≠ c) (hk : k < m) (za : z (42 + 18 * t + 3 * k) = nI c) (zb : z (43 + 18 * t + 3 * k) = nI g)
    (hf : ∀ x, f' x = if x = c then -1 else if x = g then -1 else f x)
    (y78 : y (78 + t) = z (78 + t)) (z78 : z (78 + t) = nI m) (y32 : y (32 + t) = nI (s + 1)) (yo : ∀ j, 42 + 18 * t ≤ j → j < 60 + 18 * t → j ≠ 44 + 18 * t + 3 * k → y j = z j) (yc : y (44 + 18 * t + 3 * k) = 2) : PR t f' y := by
  refine ⟨m, s + 1, by omega, by omega, y78.trans z78, y32, fun i hi => ?_, fun x x1 x2 hx => ?_, fun i j hi hj hij => ?_⟩
  · by_cases e : i = k
    · subst e
      refine ⟨c, g, hc.1, hc.2, hg.1, hg.2, fun e => hgc e.symm, by rw [yo _ (by omega) (by omega) (by omega)]; exact za, by rw [yo _ (by omega) (by omega) (by omega)]; exact zb, Or.inr ⟨yc, by rw [hf, if_pos rfl], by rw [hf, if_neg hgc, if_pos rfl]⟩⟩
    · obtain ⟨a, b, a1, a2, b1, b2, ab, wa, wb, st⟩ := h5 i hi
      have d1 := h7 i k hi hk e
      have d2 := h7 k i hk hi (fun q => e q.symm)
      have ac : a ≠ c := fun q => d1.1 (by rw [wa, za, q])
      have ag : a ≠ g := fun q => d1.2.1 (by rw [wa, zb, q])
      have bc : b ≠ c := fun q => d2.2.1 (by rw [wb, za, q])
      have bg : b ≠ g := fun q => d1.2.2 (by rw [wb, zb, q])
      refine ⟨a, b, a1, a2, b1, b2, ab, by rw [yo _ (by omega) (by omega) (by omega)]; exact wa, by rw [yo _ (by omega) (by omega) (by omega)]; exact wb, ?_⟩
      rw [yo _ (by omega) (by omega) (by omega), hf a, hf b, if_neg ac, if_neg ag, if_neg bc, if_neg bg]
      exact st
  · have xm := hx k hk
    rw [yo _ (by omega) (by omega) (by omega), yo _ (by omega) (by omega) (by omega)] at xm
    have xc : x ≠ c := fun e => xm.1 (by rw [za, e])
    have xg : x ≠ g := fun e => xm.2 (by rw [zb, e])
    rw [hf, if_neg xc, if_neg xg]
    refine h6 x x1 x2 (fun i hi => ?_)
    have := hx i hi
    rw [yo _ (by omega) (by omega) (by omega), yo _ (by omega) (by omega) (by omega)] at this
    exact this
  · rw [yo _ (by omega) (by omega) (by omega), yo _ (by omega) (by omega) (by omega), yo _ (by omega) (by omega) (by omega), yo _ (by omega) (by omega) (by omega)]
    exact h7 i j hi hj hij
theorem m_sb355 {t q g c : Nat} {a b d : Int32} (ht : t < 2) (τ : gSt) {y1 y : vRow} (hτ : τ 29 = y1) (hq : 1 ≤ q ∧ q ≤ 6) (hp1 : pFirst (pRow t y1) (nI g) = nI q) (hp2 : pLast (pRow t y1) (nI g) = nI q) (hy : y = upd y1 (32 + t) (y1 (32 + t) + 1)) : F_Model_substitute_B355 a b d (nI t) (nI g) (nI c) τ = some (y1 (32 + t) + 1, gs τ 29 (vSub t (nI g) (nI c) y)) := by
  have e32 : (32 : Int32) + nI t = nI (32 + t) := nI_add 32 t
  have pf : pFirst (pRow t y) (nI g) = nI q := by
    rw [pFirst_cong (g := pRow t y1) (fun p p1 p2 => by unfold pRow; rw [hy]; unfold upd; rw [if_neg (by omega)])]
    exact hp1
  have u32 : upd y1 (13 + 6 * t + q) (nI c) (32 + t) = y1 (32 + t) := by unfold upd; rw [if_neg (by omega)]
  have o32 : ¬ ((32 : Int32) + nI t < 0 ∨ 92 ≤ 32 + t) := by rw [e32]; exact gin (by omega)
  unfold F_Model_substitute_B355
  rw [m_place ht, gbi_some, hτ, hp2, m_slot ht (by omega), gbi_some, gif rfl (by omega), gcl rfl (by omega), gs_up, hτ, gl_eq, gif e32 (by omega), gif e32 (by omega), gcl e32 (by omega), gs_up, gs_s, gs_gs, gl_eq, u32, if_neg o32, gs_s]
  unfold vSub
  rw [pf, nI_clamp (by omega), hy, upd_comm (show 32 + t ≠ 13 + 6 * t + q by omega)]
  congr 2
  unfold upd
  rw [if_pos rfl]
theorem m_sub_no {t m s g c : Nat} {a b d : Int32} {f : Nat → Int32} (ht : t < 2) (τ : gSt) {z : vRow} (hτ : τ 29 = z) (hms : m ≤ s) (hs6 : s ≤ 6) (h78 : z (78 + t) = nI m)
    (h5 : ∀ i, i < m → ∃ a b : Nat, 1 ≤ a ∧ a ≤ 20 ∧ 1 ≤ b ∧ b ≤ 20 ∧ a ≠ b ∧ z (42 + 18 * t + 3 * i) = nI a ∧ z (43 + 18 * t + 3 * i) = nI b ∧ ((z (44 + 18 * t + 3 * i) = 1 ∧ f a = -1 ∧ f b = nI a) ∨ (z (44 + 18 * t + 3 * i) = 2 ∧ f a = -1 ∧ f b = -1)))
    (h6 : ∀ x, 1 ≤ x → x ≤ 20 → (∀ i, i < m → z (42 + 18 * t + 3 * i) ≠ nI x ∧ z (43 + 18 * t + 3 * i) ≠ nI x) → f x = 0)
    (h7 : ∀ i j, i < m → j < m → i ≠ j → z (42 + 18 * t + 3 * i) ≠ z (42 + 18 * t + 3 * j) ∧ z (42 + 18 * t + 3 * i) ≠ z (43 + 18 * t + 3 * j) ∧ z (43 + 18 * t + 3 * i) ≠ z (43 + 18 * t + 3 * j))
    (hg : 1 ≤ g ∧ g ≤ 20) (hc : 1 ≤ c ∧ c ≤ 20) (hgc : g ≠ c) (hno : ¬ okC f g c) : F_Model_substitute_B140 a b d (nI t) (nI g) (nI c) 1 1 τ = some ((0 : Int32), gs τ 28 (upd (τ 28) 2 2)) := by
  obtain ⟨r1, w1, v1⟩ := m_pair ht (show m ≤ 6 by omega) τ hτ h78 (nI g)
  obtain ⟨r2, w2, v2⟩ := m_pair ht (show m ≤ 6 by omega) τ hτ h78 (nI c)
  have h258 : ∀ l9, F_Model_substitute_B258 a b d (nI t) (nI g) (nI c) r1 l9 τ = some ((0 : Int32), gs τ 28 (upd (τ 28) 2 2)) := fun l9 => by
    unfold F_Model_substitute_B258 F_Model_substitute_B259
    rw [m_goesN _ (by decide), gbi_some, if_pos rfl]
  have h219 : ¬ (r1 = -1 ∧ r2 = -1) → F_Model_substitute_B219 a b d (nI t) (nI g) (nI c) 1 1 r1 r2 τ = some ((0 : Int32), gs τ 28 (upd (τ 28) 2 2)) := fun hn => by
    unfold F_Model_substitute_B219 F_Model_substitute_B220
    rw [if_neg (by decide), if_neg (by decide), if_pos rfl, h258]
    by_cases e1 : r1 = -1
    · rw [if_pos e1, if_neg (fun e2 => hn ⟨e1, e2⟩)]
    · rw [if_neg e1]
  unfold F_Model_substitute_B140 F_Model_substitute_B157
  rw [if_neg (by decide), w1, gbi_some, if_neg (by decide), w2, gbi_some]
  unfold F_Model_substitute_B174
  rcases pairs_ok ht hms hs6 h5 h6 h7 hg hc hgc v1 v2 with ⟨p1, p2, p3, _⟩ | ⟨i, p1, p2, p3, p4, p5, p6, p7, _⟩ | ⟨p1, p2, p3⟩
  · exact absurd p3 hno
  · exact absurd p7 hno
  · rw [h219 p2]
    rcases p3 with p3 | ⟨w, q1, q2, q3⟩
    · rw [if_pos p3]
    · have hn1 : r1 ≠ -1 := by rw [q2]; exact nI_ne1 (by omega)
      rw [if_neg hn1]
      by_cases e : r1 = r2
      · rw [if_pos e]
        have i2 : r1 + 2 = nI (w + 2) := by rw [q2]; exact nI_add w 2
        have i1 : r1 + 1 = nI (w + 1) := by rw [q2]; exact nI_add w 1
        rw [gif i2 (by omega), gcl i2 (by omega), gif i1 (by omega), gcl i1 (by omega), hτ]
        by_cases e2 : z (w + 2) = 1
        · rw [if_pos e2]
          by_cases e3 : z (w + 1) = nI g
          · exact absurd ⟨hn1, e, by rw [q2, nI_clamp (by omega)]; exact e2, by rw [q2, nI_clamp (by omega)]; exact e3⟩ q3
          · rw [if_neg e3]
        · rw [if_neg e2]
      · rw [if_neg e]
