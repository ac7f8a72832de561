/-! a rally ends, both sides -/
theorem vFin_oth {w j : Nat} {z : vRow} (h0 : j ≠ 0) (h1 : j ≠ 12 + w) (h2 : ¬ (14 ≤ j ∧ j < 30)) : vFin w z j = z j := by
  have e : vEnd w z j = z j := by
    unfold vEnd
    rw [if_neg h2, if_neg h0, if_neg h1]
  have main : ∀ P Q : Prop, ∀ (_ : Decidable P) (_ : Decidable Q), (if P then z else if Q then z else vEnd w z) j = z j := fun P Q _ _ => by
    by_cases hP : P
    · rw [if_pos hP]
    · rw [if_neg hP]
      by_cases hQ : Q
      · rw [if_pos hQ]
      · rw [if_neg hQ, e]
  exact main _ _ _ _
theorem vPre_at {w : Nat} {c : Int32} {z : vRow} : vPre w c z 1 = 0 ∧ vPre w c z 3 = c ∧ vPre w c z 40 = nI (1 - w) ∧ vPre w c z 30 = 0 ∧ vPre w c z 31 = 0 := by
  unfold vPre
  refine ⟨?_, ?_, ?_, ?_, ?_⟩ <;> simp [upd]
theorem INV_end {n w L : Nat} (hw : w < 2) {σ σ' W9 : gSt} {y : vRow} {c : Int32} (h : INV n σ) (hL : L ≤ 15 + n) (hR : Rdg (σ 17) L (RR y)) (hy0 : y 0 = 1) (hy38 : y 38 = σ 29 38) (hy39 : y 39 = σ 29 39)
    (e18 : CO 8 n σ' y) (e9 : ∀ t, t < 2 → σ' (8 + 1 + 3 * t) 9 = 0) (e05 : σ' 0 5 = nI L) (e06 : σ' 0 6 = nI (1 - w)) (e07 : σ' 0 7 = c) (e15 : σ' 15 = upd (σ 15) 0 0) (e16 : σ' 16 1 = nI (L + 1)) (e17 : ∀ j, j < L → σ' 17 j = σ 17 j) (eR : Rdg (σ' 17) (L + 1) (RR (vGive w (vPre w c y))))
    (eC : (vFin w (vGive w (vPre w c y)) = vGive w (vPre w c y) ∧ CO 1 (n + 1) σ' (vGive w (vPre w c y)) ∧ ∀ t, t < 2 → σ' (1 + 1 + 3 * t) 9 = 0) ∨ (vFin w (vGive w (vPre w c y)) = vEnd w (vGive w (vPre w c y)) ∧ CX 1 σ' (vEnd w (vGive w (vPre w c y)))))
    (hk : ∀ k, k < 18 → W9 k = σ' k) (w29 : W9 29 = upd (vWins w c y) 41 1) (w30 : W9 30 = vCopy y (σ 30)) : INV (n + 1) W9 := by
  obtain ⟨_, i2, i3, _, _⟩ := h
  have w30j : ∀ j, j < 92 → W9 30 j = y j := fun j hj => by rw [w30]; unfold vCopy; rw [if_pos hj]
  have wW : ∀ j, j ≠ 41 → W9 29 j = vFin w (vGive w (vPre w c y)) j := fun j g => by rw [w29, vWins_eq]; unfold upd; rw [if_neg g]
  have wG : ∀ j, j ≠ 41 → j ≠ 0 → j ≠ 12 + w → ¬ (14 ≤ j ∧ j < 30) → W9 29 j = vGive w (vPre w c y) j := fun j g g0 g1 g2 => by rw [wW j g, vFin_oth g0 g1 g2]
  have gP : ∀ j, (j = 0 ∨ j = 1 ∨ (3 ≤ j ∧ j < 9) ∨ (12 ≤ j ∧ j < 14) ∨ (30 ≤ j ∧ j < 36) ∨ (38 ≤ j ∧ j < 80)) → vGive w (vPre w c y) j = vPre w c y j := fun j hj => vGive_oth hw (by unfold cIx; omega) (by omega) (by omega)
  have w38 : W9 29 38 = y 38 := by rw [wG 38 (by omega) (by omega) (by omega) (by omega), gP 38 (by omega), vPre_oth (by omega) (by omega) (by omega) (by omega) (by omega) (by omega)]
  have w39 : W9 29 39 = y 39 := by rw [wG 39 (by omega) (by omega) (by omega) (by omega), gP 39 (by omega), vPre_oth (by omega) (by omega) (by omega) (by omega) (by omega) (by omega)]
  have w3 : W9 29 3 = c := by rw [wG 3 (by omega) (by omega) (by omega) (by omega), gP 3 (by omega), vPre_at.2.1]
  have w40 : W9 29 40 = nI (1 - w) := by rw [wG 40 (by omega) (by omega) (by omega) (by omega), gP 40 (by omega), vPre_at.2.2.1]
  have w1 : W9 29 1 = 0 := by rw [wG 1 (by omega) (by omega) (by omega) (by omega), gP 1 (by omega), vPre_at.1]
  have w41 : W9 29 41 = 1 := by rw [w29]; unfold upd; rw [if_pos rfl]
  have w150 : W9 15 0 = 0 := by rw [hk 15 (by decide), e15]; unfold upd; rw [if_pos rfl]
  have w15 : ∀ j, j ≠ 0 → W9 15 j = σ 15 j := fun j g => by rw [hk 15 (by decide), e15]; unfold upd; rw [if_neg g]
  refine ⟨by rw [hk 0 (by decide), e07, w3], ⟨by rw [w15 5 (by decide), w38, hy38]; exact i2.1, by rw [w38, hy38]; exact i2.2⟩, ⟨by rw [w15 6 (by decide), w39, hy39]; exact i3.1, by rw [w39, hy39]; exact i3.2⟩, Or.inr ⟨w41, by rw [hk 0 (by decide), e06, w40], L, by omega, by rw [hk 0 (by decide)]; exact e05, ?_, fun t ht => by rw [hk _ (by omega)]; exact e9 t ht, by rw [w30j 0 (by decide)]; exact hy0, by rw [w30j 38 (by decide), w38], by rw [w30j 39 (by decide), w39], ?_, 1 - w, by omega, w40⟩, L + 1, by omega, by rw [hk 16 (by decide)]; exact e16, ?_⟩
  · exact CO_keep (e18.mono (by omega)) (fun i a b => hk i (by omega)) (fun j hj => w30j j (by omega))
  · refine (hR.cong (fun j hj => by rw [hk 17 (by decide)]; exact e17 j hj)).weak (fun τ hτ => ?_)
    refine ⟨CS_cong hτ.1 (w30j 2 (by decide)) (w30j 9 (by decide)) (fun t ht j hj => w30j j (by unfold cIx at hj; omega)), fun r hr => ?_⟩
    rw [w30j _ (by omega), w30j _ (by omega)]
    exact hτ.2 r hr
  · rcases eC with ⟨d1, d2, d3⟩ | ⟨d1, d2⟩
    · have wx : ∀ j, j ≠ 41 → W9 29 j = vGive w (vPre w c y) j := fun j g => by rw [wW j g, d1]
      refine Or.inl ⟨?_, ?_, ?_, Or.inl ⟨w1, w150, fun t ht => ?_⟩⟩
      · rw [wx 0 (by decide), gP 0 (by omega), vPre_oth (by omega) (by omega) (by omega) (by omega) (by omega) (by omega)]; exact hy0
      · exact CO_keep d2 (fun i a b => hk i (by omega)) (fun j hj => wx j (by omega))
      · rw [hk 17 (by decide)]
        exact eR.weak (RR_cong (fun j hj => wx j (by omega)))
      · rw [hk _ (by omega), d3 t ht, wx _ (by omega), gP _ (by omega)]
        rcases two ht with rfl | rfl
        · exact vPre_at.2.2.2.1.symm
        · exact vPre_at.2.2.2.2.symm
    · have wx : ∀ j, j ≠ 41 → W9 29 j = vEnd w (vGive w (vPre w c y)) j := fun j g => by rw [wW j g, d1]
      have wm : ∀ j, 14 ≤ j → j < 30 → W9 29 j = -1 := fun j a b => by rw [wx j (by omega)]; unfold vEnd; rw [if_pos ⟨a, b⟩]
      refine Or.inr ⟨?_, w1, w150, ⟨by rw [hk 1 (by decide)]; exact d2.1, by rw [hk 1 (by decide)]; exact d2.2.1, fun t ht => ?_⟩, fun t ht => ⟨Or.inl (wm _ (by omega) (by omega)), fun p a b => Or.inl (wm _ (by omega) (by omega))⟩, Or.inr ⟨vGive w (vPre w c y), by rw [hk 17 (by decide)]; exact eR, (wG 10 (by omega) (by omega) (by omega) (by omega)).symm, (wG 11 (by omega) (by omega) (by omega) (by omega)).symm, fun j hj => (wG _ (by omega) (by omega) (by omega) (by omega)).symm⟩⟩
      · rw [wx 0 (by decide)]; unfold vEnd; rw [if_neg (by omega), if_pos rfl]
      · obtain ⟨x1, x2, x3⟩ := d2.2.2 t ht
        exact ⟨SR_keep x1 (hk _ (by omega)) (hk _ (by omega)) (fun j hj => wx j (by unfold cIx at hj; omega)), SX_keep x2 (by rw [hk _ (by omega)]) (by rw [hk _ (by omega)]) (by rw [hk _ (by omega)]) (wx _ (by omega)) (wx _ (by omega)) (wx _ (by omega)), wm _ (by omega) (by omega)⟩
