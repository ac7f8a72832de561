/-! a challenge -/
theorem m_ch67 {a l s : Int32} (hs : s ≠ 0) (τ : gSt) : F_Model_challenge_B67 a l s τ = some ((0 : Int32), gs τ 28 (upd (τ 28) 2 s)) := by
  unfold F_Model_challenge_B67
  rw [m_goesN _ hs, gbi_some, if_pos rfl]
theorem m_ch47 {a l : Int32} (τ : gSt) : F_Model_challenge_B47 a l 1 τ = some ((0 : Int32), gs τ 28 (upd (τ 28) 2 2)) := by
  unfold F_Model_challenge_B47 F_Model_challenge_B48
  rw [if_neg (by decide), if_pos rfl, m_ch67 (by decide)]
theorem m_ch0 {t : Nat} (ht : t < 2) (τ : gSt) {z : vRow} (hτ : τ 29 = z) : F_Model_challenge (nI t) τ = if z 41 = 1 then (if z 40 = nI t then (if z (34 + t) ≤ 0 then some ((0 : Int32), gs τ 28 (upd (τ 28) 2 2)) else F_Model_challenge_B67 (nI t) (nI t) 0 τ) else some ((0 : Int32), gs τ 28 (upd (τ 28) 2 2))) else some ((0 : Int32), gs τ 28 (upd (τ 28) 2 2)) := by
  have e34 : (34 : Int32) + nI t = nI (34 + t) := nI_add 34 t
  have h48 : F_Model_challenge_B48 (nI t) (nI t) 1 1 τ = F_Model_challenge_B67 (nI t) (nI t) 0 τ := by
    unfold F_Model_challenge_B48
    rw [if_neg (by decide), if_neg (by decide)]
  unfold F_Model_challenge
  rw [team_m ht, gbi_some, if_neg (by decide), hτ, gif e34 (by omega), gcl e34 (by omega), m_ch47, h48]
/-- what the court's side has left -/
theorem ch_pos {c : Nat} (hc : c ≤ 2) : (nI c = 0 ∧ nI c ≤ 0) ∨ (¬ nI c = 0 ∧ ¬ nI c ≤ 0) := by
  have h : c = 0 ∨ c = 1 ∨ c = 2 := by omega
  rcases h with rfl | rfl | rfl
  · exact Or.inl ⟨by decide, by decide⟩
  · exact Or.inr ⟨by decide, by decide⟩
  · exact Or.inr ⟨by decide, by decide⟩
theorem ch_pred {c : Nat} (hc : c ≤ 2) (h : ¬ nI c = 0) : ∃ d : Nat, d ≤ 2 ∧ nI c - 1 = nI d := by
  have h2 : c = 0 ∨ c = 1 ∨ c = 2 := by omega
  rcases h2 with rfl | rfl | rfl
  · exact absurd rfl h
  · exact ⟨0, by decide, by decide⟩
  · exact ⟨1, by decide, by decide⟩
/-- a challenge in vain, kept in both -/
theorem INV_vain {n t : Nat} {σ W9 : gSt} (ht : t < 2) (h : INV n σ) (h41 : σ 29 41 = 1) (hc : ¬ σ 29 (34 + t) = 0) (w0 : ∀ j, j ≠ 6 → W9 0 j = σ 0 j) (w06 : W9 0 6 = -1) (ws : W9 (1 + 1 + 3 * t) = upd (σ (1 + 1 + 3 * t)) 8 (σ 29 (34 + t) - 1)) (wk : ∀ k, k ≠ 0 → k ≠ 1 + 1 + 3 * t → k < 28 → W9 k = σ k) (w29 : W9 29 = upd (upd (σ 29) 41 0) (34 + t) (σ 29 (34 + t) - 1)) : INV (n + 1) W9 := by
  obtain ⟨i1, i2, i3, i4, L, a1, a2, h7⟩ := h
  have zo : ∀ j, j ≠ 41 → j ≠ 34 + t → W9 29 j = σ 29 j := fun j g1 g2 => by rw [w29]; unfold upd; rw [if_neg g2, if_neg g1]
  have z41 : W9 29 41 = 0 := by rw [w29]; unfold upd; rw [if_neg (by omega), if_pos rfl]
  have z34 : W9 29 (34 + t) = σ 29 (34 + t) - 1 := by rw [w29]; unfold upd; rw [if_pos rfl]
  have so : ∀ j, j ≠ 8 → W9 (1 + 1 + 3 * t) j = σ (1 + 1 + 3 * t) j := fun j g => by rw [ws]; unfold upd; rw [if_neg g]
  have s8 : W9 (1 + 1 + 3 * t) 8 = σ 29 (34 + t) - 1 := by rw [ws]; unfold upd; rw [if_pos rfl]
  have e15 : W9 15 = σ 15 := wk 15 (by omega) (by omega) (by omega)
  have hS : ∀ t', t' < 2 → SR (1 + 1 + 3 * t') t' σ (σ 29) → SR (1 + 1 + 3 * t') t' W9 (W9 29) := fun t' ht' hs => by
    by_cases e : t' = t
    · subst e
      obtain ⟨r2, r3, r4, r6, rs⟩ := hs
      refine ⟨by rw [so 2 (by decide), r2, zo _ (by omega) (by omega)], by rw [so 3 (by decide), r3, zo _ (by omega) (by omega)], by rw [so 4 (by decide), r4, zo _ (by omega) (by omega)], by rw [so 6 (by decide), r6, zo _ (by omega) (by omega)], fun p x y => ?_⟩
      rw [wk _ (by omega) (by omega) (by omega), rs p x y, zo _ (by omega) (by omega)]
    · exact SR_keep hs (wk _ (by omega) (by omega) (by omega)) (wk _ (by omega) (by omega) (by omega)) (fun j hj => zo j (by unfold cIx at hj; omega) (by unfold cIx at hj; omega))
  have hX : ∀ t', t' < 2 → SX (1 + 1 + 3 * t') t' σ (σ 29) → SX (1 + 1 + 3 * t') t' W9 (W9 29) := fun t' ht' hs => by
    by_cases e : t' = t
    · subst e
      obtain ⟨r5, r7, r8, c, c1, c2⟩ := hs
      refine ⟨by rw [so 5 (by decide), r5, zo _ (by omega) (by omega)], by rw [so 7 (by decide), r7, zo _ (by omega) (by omega)], by rw [s8, z34], ?_⟩
      obtain ⟨d, d1, d2⟩ := ch_pred c1 (by rw [← c2]; exact hc)
      exact ⟨d, d1, by rw [z34, c2]; exact d2⟩
    · have e2 := wk (1 + 1 + 3 * t') (by omega) (by omega) (by omega)
      exact SX_keep hs (congrFun e2 5) (congrFun e2 7) (congrFun e2 8) (zo _ (by omega) (by omega)) (zo _ (by omega) (by omega)) (zo _ (by omega) (by omega))
  refine ⟨by rw [w0 7 (by decide), zo 3 (by omega) (by omega)]; exact i1, by rw [e15, zo 38 (by omega) (by omega)]; exact i2, by rw [e15, zo 39 (by omega) (by omega)]; exact i3, Or.inl ⟨z41, w06⟩, L, by omega, by rw [wk 16 (by omega) (by omega) (by omega)]; exact a2, ?_⟩
  have e1 : W9 1 = σ 1 := wk 1 (by omega) (by omega) (by omega)
  have e17 : W9 17 = σ 17 := wk 17 (by omega) (by omega) (by omega)
  rcases h7 with ⟨b0, b1, b2, b3⟩ | ⟨b0, b1, b2, b3, b4, b5⟩
  · refine Or.inl ⟨by rw [zo 0 (by omega) (by omega)]; exact b0, ⟨⟨by rw [e1, zo 2 (by omega) (by omega)]; exact b1.1.1, by rw [e1, zo 9 (by omega) (by omega)]; exact b1.1.2.1, fun t' ht' => hS t' ht' (b1.1.2.2 t' ht')⟩, VV_keep (b1.2.1.mono (by omega)) (zo 2 (by omega) (by omega)) (fun j x y => zo j (by omega) (by omega)) (fun t' ht' => zo _ (by omega) (by omega)), fun t' ht' => ⟨hX t' ht' (b1.2.2 t' ht').1, PR_keep (b1.2.2 t' ht').2 (fun x _ _ => by rw [wk _ (by omega) (by omega) (by omega)]) (zo _ (by omega) (by omega)) (zo _ (by omega) (by omega)) (fun j x y => zo j (by omega) (by omega))⟩⟩, ?_, ?_⟩
    · rw [e17]
      exact b2.weak (RR_cong (fun j hj => zo j (by omega) (by omega)))
    · rcases b3 with ⟨c1, c2, c3⟩ | b3
      · refine Or.inl ⟨by rw [zo 1 (by omega) (by omega)]; exact c1, by rw [e15]; exact c2, fun t' ht' => ?_⟩
        rw [zo _ (by omega) (by omega), ← c3 t' ht']
        by_cases e : t' = t
        · subst e; exact so 9 (by decide)
        · rw [wk _ (by omega) (by omega) (by omega)]
      · exact absurd (b3.2.2.2.2.2.2.1.symm.trans h41) (by decide)
  · refine Or.inr ⟨by rw [zo 0 (by omega) (by omega)]; exact b0, by rw [zo 1 (by omega) (by omega)]; exact b1, by rw [e15]; exact b2, ⟨by rw [e1]; exact b3.1, by rw [e1]; exact b3.2.1, fun t' ht' => ⟨hS t' ht' (b3.2.2 t' ht').1, hX t' ht' (b3.2.2 t' ht').2.1, by rw [zo _ (by omega) (by omega)]; exact (b3.2.2 t' ht').2.2⟩⟩, fun t' ht' => ?_, ?_⟩
    · obtain ⟨d1, d2⟩ := b4 t' ht'
      refine ⟨by rw [zo _ (by omega) (by omega)]; exact d1, fun p x y => ?_⟩
      rw [pRow_cong (fun j hj => zo j (by unfold cIx at hj; omega) (by unfold cIx at hj; omega)) x y]
      exact d2 p x y
    · rw [wk 20 (by omega) (by omega) (by omega), wk 23 (by omega) (by omega) (by omega), e17, zo 10 (by omega) (by omega), zo 11 (by omega) (by omega)]
      rcases b5 with ⟨e1, e2, e3, e4, e5, e6⟩ | ⟨y, e1, e2, e3, e4⟩
      · exact Or.inl ⟨e1, e2, e3, e4, e5, fun j hj => by rw [zo _ (by omega) (by omega)]; exact e6 j hj⟩
      · exact Or.inr ⟨y, e1, e2, e3, fun j hj => by rw [zo _ (by omega) (by omega)]; exact e4 j hj⟩
