/-! a touch, put together -/
def vRun (t k : Int32) (z : vRow) : Int32 := if k = 2 then 0 else (if z 4 = t then z 7 else 0) + 1
def vTch (t s k : Int32) (z : vRow) : vRow := upd (upd (upd (upd (upd z 7 (vRun t k z)) 4 t) 5 s) 6 k) 8 0
theorem vTch_oth {t s k : Int32} {z : vRow} {j : Nat} (h : j < 4 ∨ 9 ≤ j) : vTch t s k z j = z j := by
  unfold vTch upd
  rw [if_neg (by omega), if_neg (by omega), if_neg (by omega), if_neg (by omega), if_neg (by omega)]
def vF (t s k b : Int32) (q l : Nat) (z : vRow) : Int32 := if fR t s k z = 0 then fS q s k b (z l) else fR t s k z
theorem vF_or (t s k b : Int32) (q l : Nat) (z : vRow) : vF t s k b q l z = 0 ∨ ¬ vF t s k b q l z ≤ 0 := by
  have h1 : fS q s k b (z l) = 0 ∨ fS q s k b (z l) = 4 ∨ fS q s k b (z l) = 5 := by unfold fS; split; exact Or.inr (Or.inl rfl); split; exact Or.inr (Or.inr rfl); exact Or.inl rfl
  have h0 : fB k z = 0 ∨ fB k z = 3 := by unfold fB; split; split; exact Or.inl rfl; exact Or.inr rfl; exact Or.inl rfl
  have h2 : fR t s k z = 0 ∨ fR t s k z = 1 ∨ fR t s k z = 2 ∨ fR t s k z = 3 := by
    unfold fR
    rcases h0 with e | e <;> rw [e] <;> split <;> (try split) <;> (try split) <;> (try split) <;> simp
  unfold vF
  rcases h2 with e | e | e | e
  · rw [e, if_pos rfl]
    rcases h1 with e | e | e
    · exact Or.inl e
    · rw [e]; exact Or.inr (by decide)
    · rw [e]; exact Or.inr (by decide)
  · rw [e, if_neg (by decide)]; exact Or.inr (by decide)
  · rw [e, if_neg (by decide)]; exact Or.inr (by decide)
  · rw [e, if_neg (by decide)]; exact Or.inr (by decide)
theorem m_touch132 {a b c d t s k l7 : Int32} {s0 : Int32} (τ : gSt) : F_Model_touch_B132 a b c d t s k l7 s0 7 τ = if l7 ≤ 0 then some (l7, gs τ 29 (upd (upd (upd (upd (upd (τ 29) 7 s0) 4 t) 5 s) 6 k) 8 0)) else gbv (F_Model_ends (1 - t) l7 (gs τ 29 (upd (upd (upd (upd (upd (τ 29) 7 s0) 4 t) 5 s) 6 k) 8 0))) fun σ7 => some (l7, σ7) := by
  unfold F_Model_touch_B132
  rw [gif (show (7 : Int32) = nI 7 from rfl) (by decide), gcl (show (7 : Int32) = nI 7 from rfl) (by decide)]
  simp only [gl_eq, gs_up, gs_s, gs_gs]
theorem m_touch71 {t q : Nat} (ht : t < 2) (τ : gSt) {a a2 a3 a4 s k b : Int32} (hq : 1 ≤ q ∧ q ≤ 6) (hp : pLast (pRow t (τ 29)) s = nI q) (hy : (τ 29 8 = 1 ∧ τ 29 4 = τ 29 2) ∨ (τ 29 8 = 0 ∧ τ 29 6 ≠ -1)) :
    F_Model_touch_B71 a a2 a3 a4 (nI t) s k b 0 τ = if vF (nI t) s k b q (26 + t) (τ 29) ≤ 0 then some (vF (nI t) s k b q (26 + t) (τ 29), gs (gs τ 28 (upd (τ 28) 2 0)) 29 (vTch (nI t) s k (τ 29))) else gbv (F_Model_ends (1 - nI t) (vF (nI t) s k b q (26 + t) (τ 29)) (gs (gs τ 28 (upd (τ 28) 2 0)) 29 (vTch (nI t) s k (τ 29)))) fun σ7 => some (vF (nI t) s k b q (26 + t) (τ 29), σ7) := by
  have e28 : (gs τ 28 (upd (τ 28) 2 0)) 29 = τ 29 := gs_n (by decide)
  unfold F_Model_touch_B71
  rw [m_goes0, gbi_some, if_neg (by decide), m_fault ht _ hq (by rw [e28]; exact hp) (by rw [e28]; exact hy), gbi_some, e28]
  have h111 : ∀ s0, F_Model_touch_B111 a a2 a3 a4 (nI t) s k (if fR (nI t) s k (τ 29) = 0 then fS q s k b (τ 29 (26 + t)) else fR (nI t) s k (τ 29)) s0 (gs τ 28 (upd (τ 28) 2 0)) = F_Model_touch_B132 a a2 a3 a4 (nI t) s k (if fR (nI t) s k (τ 29) = 0 then fS q s k b (τ 29 (26 + t)) else fR (nI t) s k (τ 29)) (if k = 2 then 0 else s0 + 1) 7 (gs τ 28 (upd (τ 28) 2 0)) := fun s0 => by
    unfold F_Model_touch_B111
    by_cases g : k = 2
    · rw [if_pos g, if_pos g]
    · rw [if_neg g, if_neg g]
  unfold vF vTch vRun
  by_cases g4 : τ 29 4 = nI t
  · rw [if_pos g4, h111, m_touch132, e28, if_pos g4]
  · rw [if_neg g4, h111, m_touch132, e28, if_neg g4]
theorem p_note (t s k : Int32) {σ : gSt} (h : RLY σ) : F_Rally_note t s k σ = some (gs σ 15 (upd (upd (upd (upd (σ 15) 4 (vRun t k (σ 29))) 1 t) 2 s) 3 k)) := by
  obtain ⟨y1, y2, y3, y4, y5, _⟩ := h
  have h32 : ∀ s0, F_Rally_note_B32 t s k t s k s0 σ = some (gs σ 15 (upd (upd (upd (upd (σ 15) 4 s0) 1 t) 2 s) 3 k)) := fun s0 => by
    unfold F_Rally_note_B32
    simp only [gl_eq, gs_up, gs_s, gs_gs]
  have h16 : ∀ s0, F_Rally_note_B16 t s k t s k s0 σ = some (gs σ 15 (upd (upd (upd (upd (σ 15) 4 (if k = 2 then 0 else s0 + 1)) 1 t) 2 s) 3 k)) := fun s0 => by
    unfold F_Rally_note_B16
    by_cases g : k = 2
    · rw [if_pos g, h32, if_pos g]
    · rw [if_neg g, h32, if_neg g]
  unfold F_Rally_note vRun
  rw [y3, y5]
  by_cases g : σ 29 4 = t
  · rw [if_pos g, h16, if_pos g]
  · rw [if_neg g, h16, if_neg g]
theorem INV_touch {n : Nat} {t s k : Int32} {σ W9 : gSt} (h : INV n σ) (z1 : σ 29 1 = 1) (ht : ∃ w, w < 2 ∧ t = nI w) (hk1 : k ≠ -1) (hk : ∀ i, i < 18 → i ≠ 15 → W9 i = σ i) (w15 : W9 15 = upd (upd (upd (upd (σ 15) 4 (vRun t k (σ 29))) 1 t) 2 s) 3 k) (w29 : W9 29 = vTch t s k (σ 29)) : INV (n + 1) W9 := by
  have hr := p_rly h
  obtain ⟨i1, i2, i3, i4, _⟩ := h
  rcases hr with ⟨L, a1, a2, z0, hC, hR, hY, hA⟩ | ⟨z9, _⟩
  · have zo : ∀ j, (j < 4 ∨ 9 ≤ j) → W9 29 j = σ 29 j := fun j g => by rw [w29]; exact vTch_oth g
    obtain ⟨y1, y2, y3, y4, y5, y6, y7, y8, y9⟩ := hY
    have m41 : σ 0 6 = -1 := by
      rcases i4 with i4 | i4
      · exact i4.2
      · exact absurd (i4.1.symm.trans y7) (by decide)
    have r0 : W9 15 0 = σ 15 0 := by rw [w15]; simp [upd]
    have r5 : W9 15 5 = σ 15 5 := by rw [w15]; simp [upd]
    have r6 : W9 15 6 = σ 15 6 := by rw [w15]; simp [upd]
    have z4 : W9 29 4 = t := by rw [w29]; simp [vTch, upd]
    refine ⟨by rw [hk 0 (by decide) (by decide), zo 3 (by omega)]; exact i1, by rw [r5, zo 38 (by omega)]; exact i2, by rw [r6, zo 39 (by omega)]; exact i3, Or.inl ⟨by rw [zo 41 (by omega)]; exact y7, by rw [hk 0 (by decide) (by decide)]; exact m41⟩, L, by omega, by rw [hk 16 (by decide) (by decide)]; exact a2, Or.inl ⟨by rw [zo 0 (by omega)]; exact z0, CO_keep (hC.mono (by omega)) (fun i x y => hk i (by omega) (by omega)) (fun j hj => zo j (by omega)), ?_, Or.inr ⟨by rw [zo 1 (by omega)]; exact y1, by rw [r0]; exact y2, ?_, ?_, ?_, Or.inr ⟨?_, ?_, ?_⟩, by rw [zo 41 (by omega)]; exact y7, fun t' ht' => by rw [hk _ (by omega) (by omega)]; exact y8 t' ht', ?_⟩⟩⟩
    · rw [hk 17 (by decide) (by decide)]
      exact hR.weak (RR_cong (fun j hj => zo j (by omega)))
    · rw [z4, w15]; simp [upd]
    · rw [w15, w29]; simp [vTch, upd]
    · rw [w15, w29]; simp [vTch, upd]
    · rw [w29]; simp [vTch, upd]
    · rw [w15, w29]; simp [vTch, upd]
    · rw [w29]; simpa [vTch, upd] using hk1
    · rw [z4]; exact ht
  · exact absurd (z9.symm.trans z1) (by decide)
