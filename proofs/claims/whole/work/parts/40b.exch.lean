/-! an exchange -/
theorem INV_tell {n L : Nat} {σ W9 : gSt} {y : vRow} (h : INV n σ) (hL : L + 1 ≤ 15 + (n + 1)) (w29 : W9 29 = y) (y3 : y 3 = σ 29 3) (y38 : y 38 = σ 29 38) (y39 : y 39 = σ 29 39) (y41 : y 41 = 0) (y0 : y 0 = 1) (y1 : y 1 = 0)
    (w06 : W9 0 6 = -1) (w07 : W9 0 7 = σ 0 7) (w15 : W9 15 = σ 15) (w150 : σ 15 0 = 0) (w16 : W9 16 1 = nI (L + 1)) (hC : CO 1 (n + 1) W9 y) (hR : Rdg (W9 17) (L + 1) (RR y)) (h9 : ∀ t, t < 2 → W9 (1 + 1 + 3 * t) 9 = y (30 + t)) : INV (n + 1) W9 := by
  obtain ⟨i1, i2, i3, _, _⟩ := h
  refine ⟨by rw [w07, w29, y3]; exact i1, by rw [w15, w29, y38]; exact i2, by rw [w15, w29, y39]; exact i3, Or.inl ⟨by rw [w29]; exact y41, w06⟩, L + 1, hL, w16, Or.inl ⟨by rw [w29]; exact y0, by rw [w29]; exact hC, by rw [w29]; exact hR, Or.inl ⟨by rw [w29]; exact y1, by rw [w15]; exact w150, fun t ht => by rw [w29]; exact h9 t ht⟩⟩⟩
def bQ (t : Nat) (x : Int32) (z : vRow) : Int32 := fQ (pFirst (pRow t z) x).toNatClampNeg
theorem bQ_or (t : Nat) (x : Int32) (z : vRow) : bQ t x z = 0 ∨ bQ t x z = 1 := by
  unfold bQ fQ
  split
  · exact Or.inr rfl
  · exact Or.inl rfl
theorem p_beh {k t : Nat} (hk : gIsSide k) {σ : gSt} {z : vRow} {x : Int32} (h : SR k t σ z) (hU : pU (pRow t z)) : F_Side_isBehind k x σ = some (bQ t x z, σ) := by
  unfold bQ
  rcases p_in hU x with ⟨q, q1, q2, q3, q4, q5⟩ | ⟨q3, q4, q5⟩
  · rw [p_behind hk h ⟨q1, q2⟩ q4, q4, nI_clamp (by omega)]
  · unfold F_Side_isBehind
    rw [p_placeOf hk, gbi_some, pFirst_SR h, q4]
    rfl
theorem m_beh {t : Nat} {z : vRow} {x : Int32} (hU : pU (pRow t z)) (τ : gSt) : F_Model_isBehind (pLast (pRow t z) x) τ = some (bQ t x z, τ) := by
  unfold bQ
  rcases p_in hU x with ⟨q, q1, q2, q3, q4, q5⟩ | ⟨q3, q4, q5⟩
  · rw [q5, m_behind ⟨q1, q2⟩, q4, nI_clamp (by omega)]
  · rw [q5, q4]
    rfl
def cX (t : Nat) (x : Int32) (z : vRow) : Int32 := if z (26 + t) = -1 then 0 else if z (30 + t) = 0 then (if z (28 + t) = -1 then bQ t x z else if x = z (28 + t) then 1 else 0) else 0
theorem cX_or (t : Nat) (x : Int32) (z : vRow) : cX t x z = 0 ∨ cX t x z = 1 := by
  unfold cX
  rcases bQ_or t x z with e | e <;> rw [e] <;> split <;> (try split) <;> (try split) <;> (try split) <;> simp
theorem p_canX {k t : Nat} (hk : gIsSide k) {σ : gSt} {z : vRow} {x : Int32} (h : SR k t σ z) (hU : pU (pRow t z)) (h9 : σ k 9 = z (30 + t)) : F_Side_canExchange k x σ = some (cX t x z, σ) := by
  have hB := p_beh (x := x) hk h hU
  unfold F_Side_canExchange F_Side_isLiberoIn cX
  rw [h.1, h.2.1, h9]
  by_cases g1 : z (26 + t) = -1
  · rw [if_pos g1, if_pos g1]
  · rw [if_neg g1, if_neg g1]
    by_cases g2 : z (30 + t) = 0
    · rw [if_pos g2, if_pos g2]
      by_cases g3 : z (28 + t) = -1
      · rw [if_pos g3, if_pos g3, gbi_some, if_pos rfl, hB, gbi_some, if_pos (bQ_or t x z)]
      · rw [if_neg g3, if_neg g3, gbi_some, if_neg (by decide), h.2.1]
        by_cases g4 : x = z (28 + t)
        · rw [if_pos g4, if_pos g4]
        · rw [if_neg g4, if_neg g4]
    · rw [if_neg g2, if_neg g2]
theorem m_ex72 {a b c d : Int32} (τ : gSt) : F_Model_exchange_B72 a b c d 0 τ = some ((0 : Int32), gs τ 28 (upd (τ 28) 2 1)) := by
  unfold F_Model_exchange_B72 F_Model_exchange_B73 F_Model_exchange_B96 F_Model_exchange_B97 F_Model_exchange_B141 F_Model_exchange_B142 F_Model_exchange_B163
  rw [if_pos rfl, if_pos rfl, if_pos rfl, m_goesN _ (by decide), gbi_some, if_pos rfl]
theorem m_ex141 {a b c d l : Int32} (τ : gSt) : F_Model_exchange_B141 a b c d 1 l τ = some ((0 : Int32), gs τ 28 (upd (τ 28) 2 2)) := by
  unfold F_Model_exchange_B141 F_Model_exchange_B142 F_Model_exchange_B163
  rw [if_neg (by decide), if_pos rfl, m_goesN _ (by decide), gbi_some, if_pos rfl]
theorem m_ex97 {a b c d l : Int32} (τ : gSt) : F_Model_exchange_B97 a b c d 1 0 l τ = some ((0 : Int32), gs τ 28 (upd (τ 28) 2 2)) := by
  unfold F_Model_exchange_B97
  rw [if_pos rfl, m_ex141]
theorem m_ex72b {a b d : Int32} {t : Nat} (ht : t < 2) (τ : gSt) : F_Model_exchange_B72 a b (nI t) d 1 τ = some ((0 : Int32), gs τ 28 (upd (τ 28) 2 2)) := by
  have e28 : (28 : Int32) + nI t = nI (28 + t) := nI_add 28 t
  unfold F_Model_exchange_B72 F_Model_exchange_B73 F_Model_exchange_B96
  rw [if_neg (by decide), gif e28 (by omega), m_ex97, m_ex97]
  split <;> rfl
def vXy (t : Nat) (z : vRow) : vRow := upd (upd z 41 0) (30 + t) 1
theorem m_ex163 {t q : Nat} (ht : t < 2) (τ : gSt) {a b x l : Int32} {z : vRow} (hτ : τ 29 = z) (hl : l = if z (28 + t) = -1 then 0 else 1) (hq : 1 ≤ q ∧ q ≤ 6) (hp1 : pFirst (pRow t z) (if z (28 + t) = -1 then x else z (26 + t)) = nI q) (hp2 : pLast (pRow t z) (if z (28 + t) = -1 then x else z (26 + t)) = nI q) :
    F_Model_exchange_B163 a b (nI t) x l 0 τ = some ((if z (28 + t) = -1 then 1 else 0), gs (gs τ 28 (upd (τ 28) 2 0)) 29 (vSwap t x (vXy t z))) := by
  have e30 : (30 : Int32) + nI t = nI (30 + t) := nI_add 30 t
  have e26 : (26 : Int32) + nI t = nI (26 + t) := nI_add 26 t
  have e28 : (28 : Int32) + nI t = nI (28 + t) := nI_add 28 t
  have yo : ∀ j, j ≠ 41 → j ≠ 30 + t → vXy t z j = z j := fun j g1 g2 => by unfold vXy upd; rw [if_neg g2, if_neg g1]
  have pf : ∀ w, pFirst (pRow t (vXy t z)) w = pFirst (pRow t z) w := fun w => pFirst_cong (fun p p1 p2 => yo _ (by omega) (by omega)) w
  have pl : ∀ w, pLast (pRow t (vXy t z)) w = pLast (pRow t z) w := fun w => by
    unfold pLast pRow
    rw [yo _ (by omega) (by omega), yo _ (by omega) (by omega), yo _ (by omega) (by omega), yo _ (by omega) (by omega), yo _ (by omega) (by omega), yo _ (by omega) (by omega)]
  have y26 := yo (26 + t) (by omega) (by omega)
  have y28 := yo (28 + t) (by omega) (by omega)
  unfold F_Model_exchange_B163 F_Model_exchange_B262
  rw [m_goes0, gbi_some, if_neg (by decide), gs_up, gs_n (show (29 : Nat) ≠ 28 by decide), hτ, gl_eq, gif e30 (by omega), gcl e30 (by omega), gs_up, gs_s, gs_gs, gl_eq, show upd (upd z 41 0) (30 + t) 1 = vXy t z from rfl, gif e26 (by omega), gcl e26 (by omega), gs_s, gl_eq, y26, hl]
  by_cases g : z (28 + t) = -1
  · rw [if_pos g] at hp1 hp2
    rw [if_pos g, if_pos rfl, if_pos g, m_place ht, gbi_some, gs_s, pl, hp2, m_slot ht (by omega), gbi_some, gif rfl (by omega), gcl rfl (by omega), gs_up, gs_s, gs_gs, gl_eq, gif e28 (by omega), gcl e28 (by omega), gs_up, gs_s, gs_gs, gl_eq, if_pos rfl]
    unfold vSwap
    rw [y28, if_pos g, pf, hp1, nI_clamp (by omega), y26]
  · rw [if_neg g] at hp1 hp2
    rw [if_neg g, if_neg (by decide), if_neg g, m_place ht, gbi_some, gs_s, pl, hp2, m_slot ht (by omega), gbi_some, gif rfl (by omega), gcl rfl (by omega), gs_up, gs_s, gs_gs, gl_eq, gif e28 (by omega), gcl e28 (by omega), gs_up, gs_s, gs_gs, gl_eq, if_neg (by decide)]
    unfold vSwap
    rw [y28, if_neg g, y26, pf, hp1, nI_clamp (by omega)]
theorem m_ex19 {t : Nat} (ht : t < 2) (τ : gSt) {a b x : Int32} {z : vRow} (hτ : τ 29 = z) (z0 : z 0 = 1) (z1 : z 1 = 0) (hU : pU (pRow t z)) : F_Model_exchange_B19 a b (nI t) x 1 τ = if cX t x z = 0 then some ((0 : Int32), gs τ 28 (upd (τ 28) 2 2)) else F_Model_exchange_B163 a b (nI t) x (if z (28 + t) = -1 then 0 else 1) 0 τ := by
  have e30 : (30 : Int32) + nI t = nI (30 + t) := nI_add 30 t
  have e26 : (26 : Int32) + nI t = nI (26 + t) := nI_add 26 t
  have e28 : (28 : Int32) + nI t = nI (28 + t) := nI_add 28 t
  have o28 : ¬ ((28 : Int32) + nI t < 0 ∨ 92 ≤ 28 + t) := by rw [e28]; exact gin (by omega)
  have h137 : ∀ l, F_Model_exchange_B137 a b (nI t) x 1 l τ = F_Model_exchange_B163 a b (nI t) x l 0 τ := fun l => by
    unfold F_Model_exchange_B137 F_Model_exchange_B142
    rw [if_neg (by decide), if_neg (by decide)]
  unfold F_Model_exchange_B19 cX
  rw [if_neg (by decide), hτ, if_pos z0, if_pos z1, gif e30 (by omega), gif e26 (by omega), gcl e30 (by omega), gcl e26 (by omega), m_ex72b ht]
  by_cases g1 : z (26 + t) = -1
  · rw [if_pos g1, if_pos g1, if_pos rfl]
    split <;> rfl
  · rw [if_neg g1, if_neg g1]
    by_cases g2 : z (30 + t) = 0
    · rw [if_pos g2, if_pos g2]
      unfold F_Model_exchange_B73 F_Model_exchange_B96 F_Model_exchange_B97
      rw [if_neg (by decide), gif e28 (by omega), gcl e28 (by omega), hτ]
      by_cases g3 : z (28 + t) = -1
      · rw [if_pos g3, if_pos g3, if_pos g3, if_neg (by decide), if_pos rfl, m_place ht, gbi_some, hτ, m_beh hU, gbi_some]
        rcases bQ_or t x z with e | e
        · rw [e, if_pos rfl, if_pos rfl, m_ex141]
        · rw [e, if_neg (by decide), if_neg (by decide), h137]
      · rw [if_neg g3, if_neg g3, if_neg g3, if_neg (by decide), if_neg (by decide), if_neg o28]
        by_cases g4 : x = z (28 + t)
        · rw [if_pos g4, if_pos g4, if_neg (by decide), h137]
        · rw [if_neg g4, if_neg g4, if_pos rfl, m_ex141]
    · rw [if_neg g2, if_neg g2, if_pos rfl]
