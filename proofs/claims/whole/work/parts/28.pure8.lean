/-! the reader: from the signs to a row -/
/-- the reader is cleared -/
def CL (σ : gSt) : Prop := (∀ t, t < 2 → σ (20 + 3 * t) 2 = -1 ∧ σ (20 + 3 * t) 3 = -1 ∧ ∀ p, 1 ≤ p → p ≤ 6 → σ (20 + 3 * t + 1) p = -1) ∧ ∀ r, r < 6 → σ 26 r = 0 ∧ σ 27 r = 0
/-- nothing but the reader is touched -/
def RF (σ σ' : gSt) : Prop := ∀ k, (k < 19 ∨ 28 ≤ k) → σ' k = σ k
theorem RF.rf {σ : gSt} : RF σ σ := fun _ _ => rfl
theorem RF.tr {σ σ' σ'' : gSt} (h : RF σ σ') (h' : RF σ' σ'') : RF σ σ'' := fun k a => (h' k a).trans (h k a)
theorem p_clr22 : ∀ (m n p : Nat) (σ : gSt), p + m = 6 → m < n → ∃ σ', F_Reader_clear_B22 n (nI p) σ = some σ' ∧ (∀ k, k ≠ 26 → k ≠ 27 → σ' k = σ k) ∧ ∀ j, (σ' 26 j = if p ≤ j ∧ j < 6 then 0 else σ 26 j) ∧ (σ' 27 j = if p ≤ j ∧ j < 6 then 0 else σ 27 j) := by
  intro m
  induction m with
  | zero =>
    intro n p σ h1 h2
    obtain ⟨n, rfl⟩ : ∃ q, n = q + 1 := ⟨n - 1, by omega⟩
    unfold F_Reader_clear_B22
    rw [if_pos (by rw [show (6 : Int32) = nI 6 from rfl]; exact nI_le (by omega) (by omega))]
    exact ⟨σ, rfl, fun _ _ _ => rfl, fun j => ⟨by rw [if_neg (by omega)], by rw [if_neg (by omega)]⟩⟩
  | succ m ih =>
    intro n p σ h1 h2
    obtain ⟨n, rfl⟩ : ∃ q, n = q + 1 := ⟨n - 1, by omega⟩
    unfold F_Reader_clear_B22
    rw [if_neg (by rw [show (6 : Int32) = nI 6 from rfl]; exact nI_ge (by omega) (by decide)), p_pN σ (show gLn 26 = 6 from rfl) (by omega) (by decide), gbv_some, p_pN _ (show gLn 27 = 6 from rfl) (by omega) (by decide), gbv_some, nI_1]
    obtain ⟨σ', q1, q2, q3⟩ := ih n (p + 1) (gup (gup σ 26 p 0) 27 p 0) (by omega) (by omega)
    refine ⟨σ', q1, fun k a b => by rw [q2 k a b, gup_oth b, gup_oth a], fun j => ⟨?_, ?_⟩⟩
    · rw [(q3 j).1, gup_oth (show (26 : Nat) ≠ 27 by decide), gup_row]
      unfold upd
      by_cases g : j = p
      · rw [if_neg (by omega), if_pos g, if_pos (by omega)]
      · by_cases g2 : p + 1 ≤ j ∧ j < 6
        · rw [if_pos g2, if_pos (by omega)]
        · rw [if_neg g2, if_neg g, if_neg (by omega)]
    · rw [(q3 j).2, gup_row, gup_oth (show (27 : Nat) ≠ 26 by decide)]
      unfold upd
      by_cases g : j = p
      · rw [if_neg (by omega), if_pos g, if_pos (by omega)]
      · by_cases g2 : p + 1 ≤ j ∧ j < 6
        · rw [if_pos g2, if_pos (by omega)]
        · rw [if_neg g2, if_neg g, if_neg (by omega)]
theorem gS20 : gIsSide 20 := (gCt (show gIsCourt 19 by unfold gIsCourt; decide)).2.2.2.2.1
theorem gS23 : gIsSide 23 := (gCt (show gIsCourt 19 by unfold gIsCourt; decide)).2.2.2.2.2
theorem p_clear (σ : gSt) : ∃ σ', F_Reader_clear σ = some σ' ∧ CL σ' ∧ RF σ σ' ∧ σ' 20 4 = σ 20 4 ∧ σ' 23 4 = σ 23 4 := by
  unfold F_Reader_clear
  obtain ⟨σ1, a1, a2, a3, a4, a5, a6⟩ := p_clearOrder gS20 σ
  obtain ⟨σ2, b1, b2, b3, b4, b5, b6⟩ := p_clearOrder gS23 σ1
  obtain ⟨σ3, c1, c2, c3⟩ := p_clr22 6 100 0 σ2 rfl (by decide)
  rw [a1, gbv_some, b1, gbv_some]
  have e20 : σ3 20 = σ1 20 := (c2 20 (by decide) (by decide)).trans (b2 20 (by decide) (by decide))
  have e21 : σ3 21 = σ1 21 := (c2 21 (by decide) (by decide)).trans (b2 21 (by decide) (by decide))
  have e23 : σ3 23 = σ2 23 := c2 23 (by decide) (by decide)
  have e24 : σ3 24 = σ2 24 := c2 24 (by decide) (by decide)
  refine ⟨σ3, c1, ⟨fun t ht => ?_, fun r hr => ⟨?_, ?_⟩⟩, fun k a => ?_, ?_, ?_⟩
  · rcases two ht with rfl | rfl
    · refine ⟨?_, ?_, fun p x y => ?_⟩
      · show σ3 20 2 = -1
        rw [e20, a4]
      · show σ3 20 3 = -1
        rw [e20, a5]
      · show σ3 21 p = -1
        rw [e21]; exact a6 p x y
    · refine ⟨?_, ?_, fun p x y => ?_⟩
      · show σ3 23 2 = -1
        rw [e23, b4]
      · show σ3 23 3 = -1
        rw [e23, b5]
      · show σ3 24 p = -1
        rw [e24]; exact b6 p x y
  · rw [(c3 r).1, if_pos ⟨Nat.zero_le r, hr⟩]
  · rw [(c3 r).2, if_pos ⟨Nat.zero_le r, hr⟩]
  · rw [c2 k (by omega) (by omega), b2 k (by omega) (by omega), a2 k (by omega) (by omega)]
  · rw [e20, a3 4 (by decide) (by decide)]
  · rw [e23, b3 4 (by decide) (by decide), a2 23 (by decide) (by decide)]
/-- from any cleared reader the first n signs lead to R -/
def Rdg (f : vRow) (n : Nat) (R : gSt → Prop) : Prop := ∀ (σ : gSt) (m L : Nat), (∀ j, j < n → σ 17 j = f j) → σ 16 1 = nI L → n ≤ L → L ≤ 640 → CL σ → ∃ σ', F_Reader_read_B6 (m + n) 0 σ = F_Reader_read_B6 m (nI n) σ' ∧ R σ' ∧ RF σ σ'
theorem Rdg.zero {f : vRow} {R : gSt → Prop} (h : ∀ σ, CL σ → R σ) : Rdg f 0 R := fun σ _ _ _ _ _ _ hC => ⟨σ, rfl, h σ hC, RF.rf⟩
theorem Rdg.cong {f g : vRow} {n : Nat} {R : gSt → Prop} (h : Rdg f n R) (e : ∀ j, j < n → g j = f j) : Rdg g n R :=
  fun σ m L h1 h2 h3 h4 h5 => h σ m L (fun j hj => (h1 j hj).trans (e j hj)) h2 h3 h4 h5
theorem Rdg.weak {f : vRow} {n : Nat} {R R' : gSt → Prop} (h : Rdg f n R) (e : ∀ σ, R σ → R' σ) : Rdg f n R' := fun σ m L h1 h2 h3 h4 h5 => by
  obtain ⟨σ', a, b, c⟩ := h σ m L h1 h2 h3 h4 h5
  exact ⟨σ', a, e _ b, c⟩
theorem Rdg.step {f : vRow} {n k t a b : Nat} {R R' : gSt → Prop} (h : Rdg f n R) (hf : f n = gSign (nI k) (nI t) (nI a) (nI b)) (hk : k < 8) (ht : t < 2) (ha : a < 32) (hb : b < 32)
    (hs : ∀ τ, R τ → ∃ τ', F_Reader_follow (nI k) (nI t) (nI a) (nI b) τ = some τ' ∧ R' τ' ∧ RF τ τ') : Rdg f (n + 1) R' := by
  intro σ m L h1 h2 h3 h4 h5
  obtain ⟨σ', q1, q2, q3⟩ := h σ (m + 1) L (fun j hj => h1 j (by omega)) h2 (by omega) h4 h5
  obtain ⟨τ, r1, r2, r3⟩ := hs σ' q2
  refine ⟨τ, ?_, r2, q3.tr r3⟩
  rw [show m + (n + 1) = m + 1 + n by omega, q1]
  have e16 : σ' 16 1 = nI L := by rw [q3 16 (by decide), h2]
  have e17 : σ' 17 n = gSign (nI k) (nI t) (nI a) (nI b) := by rw [q3 17 (by decide), h1 n (by omega), hf]
  obtain ⟨d1, d2, d3, d4⟩ := gSign_rd k hk t ht a ha b hb
  conv => lhs; unfold F_Reader_read_B6
  rw [e16, if_neg (nI_ge (by omega) (by omega))]
  unfold F_Sheet_signAt F_Sheet_kindOf F_Sheet_teamOf F_Sheet_oneOf F_Sheet_twoOf
  rw [p_vN σ' (show gLn 17 = 640 from rfl) (by omega) (by decide)]
  simp only [gbi_some]
  rw [e17, d1, d2, d3, d4, r1, gbv_some, nI_1]
theorem p_read {f : vRow} {L : Nat} {R : gSt → Prop} (σ : gSt) (h : Rdg f L R) (hf : ∀ j, j < L → σ 17 j = f j) (hl : σ 16 1 = nI L) (hL : L ≤ 640) : ∃ σ', F_Reader_read σ = some σ' ∧ R σ' ∧ RF σ σ' := by
  unfold F_Reader_read
  obtain ⟨σ1, a1, a2, a3, a4, a5⟩ := p_clear σ
  rw [a1, gbv_some]
  obtain ⟨σ', q1, q2, q3⟩ := h σ1 (1000 - L) L (fun j hj => by rw [a3 17 (by decide)]; exact hf j hj) (by rw [a3 16 (by decide)]; exact hl) (Nat.le_refl _) hL a2
  rw [show (1000 : Nat) = 1000 - L + L by omega, q1]
  refine ⟨σ', ?_, q2, a3.tr q3⟩
  rw [show 1000 - L = (999 - L) + 1 by omega]
  unfold F_Reader_read_B6
  rw [q3 16 (by decide), a3 16 (by decide), hl, if_pos (nI_le (Nat.le_refl _) (by omega))]
/-- the sheet is empty: the points stay -/
theorem p_read0 (σ : gSt) (hl : σ 16 1 = 0) : ∃ σ', F_Reader_read σ = some σ' ∧ CL σ' ∧ RF σ σ' ∧ σ' 20 4 = σ 20 4 ∧ σ' 23 4 = σ 23 4 := by
  unfold F_Reader_read
  obtain ⟨σ1, a1, a2, a3, a4, a5⟩ := p_clear σ
  rw [a1, gbv_some, show (1000 : Nat) = 999 + 1 from rfl]
  unfold F_Reader_read_B6
  rw [a3 16 (by decide), hl, if_pos (by decide)]
  exact ⟨σ1, rfl, a2, a3, a4, a5⟩
/-- the reader holds a row, with the lost points -/
def LR (σ : gSt) (z : vRow) : Prop := ∀ r, r < 6 → σ 26 r = z (80 + r) ∧ σ 27 r = z (86 + r)
def RR (z : vRow) (σ : gSt) : Prop := CS 19 σ z ∧ LR σ z
theorem LR_keep {σ σ' : gSt} {z z' : vRow} (h : LR σ z) (h1 : σ' 26 = σ 26) (h2 : σ' 27 = σ 27) (h3 : ∀ j, 80 ≤ j → z' j = z j) : LR σ' z' := fun r hr => by
  rw [h1, h2, h3 _ (by omega), h3 _ (by omega)]
  exact h r hr
theorem gC19 : gIsCourt 19 := by unfold gIsCourt; decide
theorem KF_RF {σ σ' : gSt} (h : ∀ k', (k' < 19 ∨ 19 + 7 ≤ k') → σ' k' = σ k') : RF σ σ' ∧ σ' 26 = σ 26 ∧ σ' 27 = σ 27 := ⟨fun k a => h k (by omega), h 26 (by decide), h 27 (by decide)⟩
