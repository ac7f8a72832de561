/-! the court's doings, at any court -/
def cIx (t j : Nat) : Prop := j = 26 + t ∨ j = 28 + t ∨ j = 10 + t ∨ j = 36 + t ∨ (14 + 6 * t ≤ j ∧ j ≤ 19 + 6 * t)
theorem SR_keep {k t : Nat} {σ σ' : gSt} {z z' : vRow} (h : SR k t σ z) (e1 : σ' k = σ k) (e2 : σ' (k + 1) = σ (k + 1)) (hz : ∀ j, cIx t j → z' j = z j) : SR k t σ' z' := by
  obtain ⟨h2, h3, h4, h6, hs⟩ := h
  refine ⟨by rw [e1, h2, hz _ (Or.inl rfl)], by rw [e1, h3, hz _ (Or.inr (Or.inl rfl))], by rw [e1, h4, hz _ (Or.inr (Or.inr (Or.inl rfl)))], by rw [e1, h6, hz _ (Or.inr (Or.inr (Or.inr (Or.inl rfl))))], fun p a b => ?_⟩
  rw [e2, hs p a b, hz _ (Or.inr (Or.inr (Or.inr (Or.inr ⟨by omega, by omega⟩))))]
theorem vRot_oth {t : Nat} (ht : t < 2) {z : vRow} {j : Nat} (h1 : ¬ (14 + 6 * t ≤ j ∧ j ≤ 19 + 6 * t)) (h2 : j ≠ 36 + t) (h3 : j ≠ 28 + t) : vRot t z j = z j := by
  have e : vRotS t z j = z j := by
    unfold vRotS
    rw [if_neg (by omega), if_neg (by omega), if_neg h2]
  unfold vRot
  split
  · unfold upd
    rw [if_neg h3, if_neg (by omega), e]
  · exact e
theorem vGive_oth {t : Nat} (ht : t < 2) {z : vRow} {j : Nat} (h1 : ¬ cIx t j) (h2 : j ≠ 2) (h3 : j ≠ 9) : vGive t z j = z j := by
  unfold cIx at h1
  unfold vGive
  split
  · unfold upd
    rw [if_neg (by omega)]
  · rw [vRot_oth ht (by omega) (by omega) (by omega)]
    unfold upd
    rw [if_neg h3, if_neg h2, if_neg (by omega)]
theorem cIx_oth {t j : Nat} (ht : t < 2) (h : cIx (1 - t) j) : ¬ cIx t j ∧ j ≠ 2 ∧ j ≠ 9 := by
  unfold cIx at *
  rcases two ht with rfl | rfl <;> omega
/-- what a doing at the court k leaves: all other cells, the pairs, sets, substitutions, challenges, exchanges -/
def KF (k : Nat) (σ σ' : gSt) : Prop := (∀ k', (k' < k ∨ k + 7 ≤ k') → σ' k' = σ k') ∧ σ' (k + 3) = σ (k + 3) ∧ σ' (k + 6) = σ (k + 6) ∧ ∀ j, (j = 5 ∨ j = 7 ∨ j = 8 ∨ j = 9) → σ' (k + 1) j = σ (k + 1) j ∧ σ' (k + 4) j = σ (k + 4) j
theorem KF.rf {k : Nat} {σ : gSt} : KF k σ σ := ⟨fun _ _ => rfl, rfl, rfl, fun _ _ => ⟨rfl, rfl⟩⟩
theorem KF.tr {k : Nat} {σ σ' σ'' : gSt} (h : KF k σ σ') (h' : KF k σ' σ'') : KF k σ σ'' :=
  ⟨fun k' a => (h'.1 k' a).trans (h.1 k' a), h'.2.1.trans h.2.1, h'.2.2.1.trans h.2.2.1, fun j a => ⟨(h'.2.2.2 j a).1.trans (h.2.2.2 j a).1, (h'.2.2.2 j a).2.trans (h.2.2.2 j a).2⟩⟩
theorem p_sideOf {k t : Nat} (ht : t < 2) (σ : gSt) : F_Court_sideOf k (nI t) σ = some (k + 1 + 3 * t, σ) := by
  unfold F_Court_sideOf
  rcases two ht with rfl | rfl
  · rw [if_neg (by decide)]
  · rw [if_pos (by decide)]
theorem gSideOf {k t : Nat} (hk : gIsCourt k) (ht : t < 2) : gIsSide (k + 1 + 3 * t) := by
  rcases two ht with rfl | rfl
  · exact (gCt hk).2.2.2.2.1
  · exact (gCt hk).2.2.2.2.2
def CS (k : Nat) (σ : gSt) (z : vRow) : Prop := σ k 2 = z 2 ∧ σ k 3 = z 9 ∧ ∀ t, t < 2 → SR (k + 1 + 3 * t) t σ z
theorem CR_CS {k : Nat} {σ : gSt} {z : vRow} : CR k σ z ↔ CS k σ z := by
  constructor
  · intro h
    refine ⟨h.1, h.2.1, fun t ht => ?_⟩
    rcases two ht with rfl | rfl
    · exact h.2.2.1
    · exact h.2.2.2
  · intro h
    exact ⟨h.1, h.2.1, h.2.2 0 (by decide), h.2.2 1 (by decide)⟩
theorem p_givePoint {k t : Nat} (hk : gIsCourt k) (ht : t < 2) {σ : gSt} {z : vRow} (h : CS k σ z) : ∃ σ', F_Court_givePoint k (nI t) σ = some σ' ∧ CS k σ' (vGive t z) ∧ KF k σ σ' := by
  obtain ⟨h2, h9, hs⟩ := h
  have hst := hs t ht
  have hso := hs (1 - t) (by omega)
  have hsd := gSideOf hk ht
  unfold F_Court_givePoint
  rw [p_sideOf ht, gbr_some, gl_eq]
  have e1 : gup σ (k + 1 + 3 * t) 4 (σ (k + 1 + 3 * t) 4 + 1) k = σ k := gup_oth (by omega)
  rw [e1, h2]
  by_cases g : z 2 = nI t
  · rw [if_pos g]
    refine ⟨_, rfl, ⟨?_, ?_, fun t' ht' => ?_⟩, ?_⟩
    · rw [e1, h2]; unfold vGive; rw [if_pos g]; unfold upd; rw [if_neg (by omega)]
    · rw [e1, h9]; unfold vGive; rw [if_pos g]; unfold upd; rw [if_neg (by omega)]
    · by_cases q : t' = t
      · subst q
        obtain ⟨a2, a3, a4, a6, as⟩ := hst
        have eV : vGive t' z = upd z (10 + t') (z (10 + t') + 1) := by unfold vGive; rw [if_pos g]
        rw [eV]
        refine ⟨?_, ?_, ?_, ?_, fun p b1 b2 => ?_⟩
        · rw [gup_n (by omega), a2]; unfold upd; rw [if_neg (by omega)]
        · rw [gup_n (by omega), a3]; unfold upd; rw [if_neg (by omega)]
        · rw [gup_s, a4]; unfold upd; rw [if_pos rfl]
        · rw [gup_n (by omega), a6]; unfold upd; rw [if_neg (by omega)]
        · rw [gup_k (by omega), as p b1 b2]; unfold upd; rw [if_neg (by omega)]
      · obtain rfl : t' = 1 - t := by omega
        exact SR_keep hso (gup_oth (by omega)) (gup_oth (by omega)) (fun j hj => vGive_oth ht (cIx_oth ht hj).1 (cIx_oth ht hj).2.1 (cIx_oth ht hj).2.2)
    · exact ⟨fun k' a => gup_oth (by omega), gup_oth (by omega), gup_oth (by omega), fun j a => ⟨gup_n (by omega), gup_n (by omega)⟩⟩
  · rw [if_neg g]
    simp only [gl_eq]
    have eV : vGive t z = vRot t (upd (upd (upd z (10 + t) (z (10 + t) + 1)) 2 (nI t)) 9 (-1)) := by unfold vGive; rw [if_neg g]
    obtain ⟨τ, hτ⟩ : ∃ τ, τ = gup (gup (gup σ (k + 1 + 3 * t) 4 (σ (k + 1 + 3 * t) 4 + 1)) k 2 (nI t)) k 3 (-1) := ⟨_, rfl⟩
    rw [← hτ]
    have hSR : SR (k + 1 + 3 * t) t τ (upd (upd (upd z (10 + t) (z (10 + t) + 1)) 2 (nI t)) 9 (-1)) := by
      obtain ⟨a2, a3, a4, a6, as⟩ := hst
      rw [hτ]
      refine ⟨?_, ?_, ?_, ?_, fun p b1 b2 => ?_⟩
      · rw [gup_k (by omega), gup_k (by omega), gup_n (by omega), a2]; unfold upd; rw [if_neg (by omega), if_neg (by omega), if_neg (by omega)]
      · rw [gup_k (by omega), gup_k (by omega), gup_n (by omega), a3]; unfold upd; rw [if_neg (by omega), if_neg (by omega), if_neg (by omega)]
      · rw [gup_k (by omega), gup_k (by omega), gup_s, a4]; unfold upd; rw [if_neg (by omega), if_neg (by omega), if_pos rfl]
      · rw [gup_k (by omega), gup_k (by omega), gup_n (by omega), a6]; unfold upd; rw [if_neg (by omega), if_neg (by omega), if_neg (by omega)]
      · rw [gup_k (by omega), gup_k (by omega), gup_k (by omega), as p b1 b2]; unfold upd; rw [if_neg (by omega), if_neg (by omega), if_neg (by omega)]
    obtain ⟨σ', q1, q2, q3, q4⟩ := p_rotate hsd ht hSR
    rw [q1, gbv_some, eV]
    have ek : σ' k = τ k := q3 k (by omega) (by omega)
    have f0 : ∀ k', k' ≠ k → k' ≠ k + 1 + 3 * t → τ k' = σ k' := fun k' a b => by rw [hτ, gup_oth a, gup_oth a, gup_oth b]
    refine ⟨_, rfl, ⟨?_, ?_, fun t' ht' => ?_⟩, ?_⟩
    · rw [ek, vRot_oth ht (by omega) (by omega) (by omega), hτ, gup_n (by omega), gup_s]; unfold upd; rw [if_neg (by omega), if_pos rfl]
    · rw [ek, vRot_oth ht (by omega) (by omega) (by omega), hτ, gup_s]; unfold upd; rw [if_pos rfl]
    · by_cases q : t' = t
      · subst q; exact q2
      · obtain rfl : t' = 1 - t := by omega
        refine SR_keep hso ((q3 _ (by omega) (by omega)).trans (f0 _ (by omega) (by omega))) ((q3 _ (by omega) (by omega)).trans (f0 _ (by omega) (by omega))) (fun j hj => ?_)
        obtain ⟨c1, c2, c3⟩ := cIx_oth ht hj
        rw [← eV]
        exact vGive_oth ht c1 c2 c3
    · refine ⟨fun k' a => (q3 _ (by omega) (by omega)).trans (f0 _ (by omega) (by omega)), (q3 _ (by omega) (by omega)).trans (f0 _ (by omega) (by omega)), (q3 _ (by omega) (by omega)).trans (f0 _ (by omega) (by omega)), fun j a => ?_⟩
      have hj : σ' (k + 1 + 3 * t) j = σ (k + 1 + 3 * t) j := by
        rw [q4 j (by omega) (by omega), hτ, gup_k (by omega), gup_k (by omega), gup_n (by omega)]
      have ho : σ' (k + 1 + 3 * (1 - t)) j = σ (k + 1 + 3 * (1 - t)) j := congrFun ((q3 _ (by omega) (by omega)).trans (f0 _ (by omega) (by omega))) j
      rcases two ht with rfl | rfl
      · exact ⟨hj, ho⟩
      · exact ⟨ho, hj⟩
def vTake (s : Nat) (z : vRow) : vRow := vGive (1 - s) (upd z (10 + s) (z 9))
theorem nI_1m {s : Nat} (hs : s < 2) : (1 : Int32) - nI s = nI (1 - s) := by
  rcases two hs with rfl | rfl <;> decide
theorem p_takeBack {k s : Nat} (hk : gIsCourt k) (hs : s < 2) {σ : gSt} {z : vRow} (h : CS k σ z) (h2 : z 2 = nI s) : ∃ σ', F_Court_takeBack k σ = some (z (10 + s) - z 9, σ') ∧ CS k σ' (vTake s z) ∧ KF k σ σ' := by
  obtain ⟨c2, c9, cs⟩ := h
  unfold F_Court_takeBack
  rw [c2, h2, p_sideOf hs, gbr_some]
  simp only [gl_eq]
  obtain ⟨a2, a3, a4, a6, as⟩ := cs s hs
  rw [a4, c9]
  obtain ⟨τ, hτ⟩ : ∃ τ, τ = gup σ (k + 1 + 3 * s) 4 (z 9) := ⟨_, rfl⟩
  rw [← hτ]
  have ek : τ k = σ k := by rw [hτ]; exact gup_oth (by omega)
  rw [ek, c2, h2, nI_1m hs]
  have hC : CS k τ (upd z (10 + s) (z 9)) := by
    refine ⟨?_, ?_, fun t ht => ?_⟩
    · rw [ek, c2]; unfold upd; rw [if_neg (by omega)]
    · rw [ek, c9]; unfold upd; rw [if_neg (by omega)]
    · by_cases q : t = s
      · subst q
        rw [hτ]
        refine ⟨?_, ?_, ?_, ?_, fun p b1 b2 => ?_⟩
        · rw [gup_n (by omega), a2]; unfold upd; rw [if_neg (by omega)]
        · rw [gup_n (by omega), a3]; unfold upd; rw [if_neg (by omega)]
        · rw [gup_s]; unfold upd; rw [if_pos rfl]
        · rw [gup_n (by omega), a6]; unfold upd; rw [if_neg (by omega)]
        · rw [gup_k (by omega), as p b1 b2]; unfold upd; rw [if_neg (by omega)]
      · refine SR_keep (cs t ht) (by rw [hτ]; exact gup_oth (by omega)) (by rw [hτ]; exact gup_oth (by omega)) (fun j hj => ?_)
        unfold cIx at hj
        unfold upd
        rw [if_neg (by omega)]
  obtain ⟨σ', q1, q2, q3⟩ := p_givePoint hk (t := 1 - s) (by omega) hC
  rw [q1, gbv_some]
  refine ⟨_, rfl, q2, KF.tr ?_ q3⟩
  rw [hτ]
  exact ⟨fun k' a => gup_oth (by omega), gup_oth (by omega), gup_oth (by omega), fun j a => ⟨gup_n (by omega), gup_n (by omega)⟩⟩
