/-! loops with known bounds; the sheet's signs -/
theorem p_start_loop {k : Nat} (hk : gIsSide k) : ∀ (m n p : Nat) (σ : gSt), p + m = 21 → m < n → ∃ σ', F_Side_startSet_B27 k n (nI p) σ = some σ' ∧ (∀ k', k' ≠ k + 2 → σ' k' = σ k') ∧ ∀ j, σ' (k + 2) j = if p ≤ j ∧ j < 21 then 0 else σ (k + 2) j := by
  intro m
  induction m with
  | zero =>
    intro n p σ h1 h2
    obtain ⟨n, rfl⟩ : ∃ q, n = q + 1 := ⟨n - 1, by omega⟩
    unfold F_Side_startSet_B27
    rw [if_pos (by rw [show (20 : Int32) = nI 20 from rfl]; exact nI_lt (by omega) (by omega))]
    exact ⟨σ, rfl, fun _ _ => rfl, fun j => by rw [if_neg (by omega)]⟩
  | succ m ih =>
    intro n p σ h1 h2
    obtain ⟨n, rfl⟩ : ∃ q, n = q + 1 := ⟨n - 1, by omega⟩
    unfold F_Side_startSet_B27
    rw [if_neg (by rw [show (20 : Int32) = nI 20 from rfl]; exact nI_nlt (by omega) (by decide)), p_pN σ (gSd hk).2.2.2.2.2.2.2 (by omega) (by decide), gbv_some, show (nI p + (1 : Int32)) = nI (p + 1) from nI_1 p]
    obtain ⟨σ', q1, q2, q3⟩ := ih n (p + 1) (gup σ (k + 2) p 0) (by omega) (by omega)
    refine ⟨σ', q1, fun k' a => (q2 k' a).trans (gup_oth a), fun j => ?_⟩
    rw [q3 j, gup_row]
    unfold upd
    by_cases g : j = p
    · rw [if_neg (by omega), if_pos g, if_pos (by omega)]
    · by_cases g2 : p + 1 ≤ j ∧ j < 21
      · rw [if_pos g2, if_pos (by omega)]
      · rw [if_neg g2, if_neg g, if_neg (by omega)]
theorem p_sideStart {k : Nat} (hk : gIsSide k) (σ : gSt) : ∃ σ', F_Side_startSet k σ = some σ' ∧ (∀ k', k' ≠ k → k' ≠ k + 2 → σ' k' = σ k') ∧ (∀ j, j ≠ 4 → j ≠ 6 → j ≠ 7 → j ≠ 8 → j ≠ 9 → σ' k j = σ k j) ∧ σ' k 4 = 0 ∧ σ' k 6 = 0 ∧ σ' k 7 = 0 ∧ σ' k 8 = 2 ∧ σ' k 9 = 0 ∧ ∀ j, 1 ≤ j → j ≤ 20 → σ' (k + 2) j = 0 := by
  unfold F_Side_startSet
  simp only [gl_eq]
  obtain ⟨σ', q1, q2, q3⟩ := p_start_loop hk 20 100 1 (gup (gup (gup (gup (gup σ k 4 0) k 6 0) k 7 0) k 8 2) k 9 0) (by decide) (by decide)
  have ek := q2 k (by omega)
  refine ⟨σ', q1, fun k' a b => ?_, fun j a b c d e => ?_, ?_, ?_, ?_, ?_, ?_, fun j a b => ?_⟩
  · rw [q2 k' b, gup_oth a, gup_oth a, gup_oth a, gup_oth a, gup_oth a]
  · rw [ek, gup_n (by omega), gup_n (by omega), gup_n (by omega), gup_n (by omega), gup_n (by omega)]
  · rw [ek, gup_n (by omega), gup_n (by omega), gup_n (by omega), gup_n (by omega), gup_s]
  · rw [ek, gup_n (by omega), gup_n (by omega), gup_n (by omega), gup_s]
  · rw [ek, gup_n (by omega), gup_n (by omega), gup_s]
  · rw [ek, gup_n (by omega), gup_s]
  · rw [ek, gup_s]
  · rw [q3 j, if_pos (by omega)]
theorem p_clear_loop {k : Nat} (hk : gIsSide k) : ∀ (m n p : Nat) (σ : gSt), p + m = 7 → m < n → ∃ σ', F_Side_clearOrder_B2 k n (nI p) σ = some σ' ∧ (∀ k', k' ≠ k → k' ≠ k + 1 → σ' k' = σ k') ∧ (∀ j, j ≠ 2 → j ≠ 3 → σ' k j = σ k j) ∧ σ' k 2 = -1 ∧ σ' k 3 = -1 ∧ ∀ j, σ' (k + 1) j = if p ≤ j ∧ j < 7 then -1 else σ (k + 1) j := by
  intro m
  induction m with
  | zero =>
    intro n p σ h1 h2
    obtain ⟨n, rfl⟩ : ∃ q, n = q + 1 := ⟨n - 1, by omega⟩
    unfold F_Side_clearOrder_B2
    rw [if_pos (by rw [show (6 : Int32) = nI 6 from rfl]; exact nI_lt (by omega) (by omega))]
    simp only [gl_eq]
    refine ⟨_, rfl, fun k' a b => by rw [gup_oth a, gup_oth a], fun j a b => by rw [gup_n (by omega), gup_n (by omega)], ?_, ?_, fun j => ?_⟩
    · rw [gup_n (by omega), gup_s]
    · rw [gup_s]
    · rw [gup_k (by omega), gup_k (by omega), if_neg (by omega)]
  | succ m ih =>
    intro n p σ h1 h2
    obtain ⟨n, rfl⟩ : ∃ q, n = q + 1 := ⟨n - 1, by omega⟩
    unfold F_Side_clearOrder_B2
    rw [if_neg (by rw [show (6 : Int32) = nI 6 from rfl]; exact nI_nlt (by omega) (by decide)), p_put hk _ (by omega), gbv_some, show (nI p + (1 : Int32)) = nI (p + 1) from nI_1 p]
    obtain ⟨σ', q1, q2, q3, q4, q5, q6⟩ := ih n (p + 1) (gup σ (k + 1) p (-1)) (by omega) (by omega)
    refine ⟨σ', q1, fun k' a b => (q2 k' a b).trans (gup_oth b), fun j a b => (q3 j a b).trans (gup_k (by omega)), q4, q5, fun j => ?_⟩
    rw [q6 j, gup_row]
    unfold upd
    by_cases g : j = p
    · rw [if_neg (by omega), if_pos g, if_pos (by omega)]
    · by_cases g2 : p + 1 ≤ j ∧ j < 7
      · rw [if_pos g2, if_pos (by omega)]
      · rw [if_neg g2, if_neg g, if_neg (by omega)]
theorem p_clearOrder {k : Nat} (hk : gIsSide k) (σ : gSt) : ∃ σ', F_Side_clearOrder k σ = some σ' ∧ (∀ k', k' ≠ k → k' ≠ k + 1 → σ' k' = σ k') ∧ (∀ j, j ≠ 2 → j ≠ 3 → σ' k j = σ k j) ∧ σ' k 2 = -1 ∧ σ' k 3 = -1 ∧ ∀ p, 1 ≤ p → p ≤ 6 → σ' (k + 1) p = -1 := by
  obtain ⟨σ', q1, q2, q3, q4, q5, q6⟩ := p_clear_loop hk 6 100 1 σ (by decide) (by decide)
  exact ⟨σ', q1, q2, q3, q4, q5, fun p a b => by rw [q6 p, if_pos (by omega)]⟩
theorem p_copyB {k a : Nat} (hk : gIsSide k) (ha : gIsSide a) (hd : k + 3 ≤ a ∨ a + 3 ≤ k) : ∀ (m n p : Nat) (σ : gSt), p + m = 21 → m < n → (σ a 9 = 0 ∨ σ a 9 = 1) → ∃ σ', F_Side_copyFrom_B26 k a n (nI p) σ = some σ' ∧ (∀ k', k' ≠ k → k' ≠ k + 2 → σ' k' = σ k') ∧ (∀ j, 2 ≤ j → j ≤ 9 → σ' k j = σ a j) ∧ ∀ j, σ' (k + 2) j = if p ≤ j ∧ j < 21 then σ (a + 2) j else σ (k + 2) j := by
  intro m
  induction m with
  | zero =>
    intro n p σ h1 h2 h9
    obtain ⟨n, rfl⟩ : ∃ q, n = q + 1 := ⟨n - 1, by omega⟩
    unfold F_Side_copyFrom_B26
    rw [if_pos (by rw [show (20 : Int32) = nI 20 from rfl]; exact nI_lt (by omega) (by omega))]
    simp only [gl_eq]
    have hne : a ≠ k := by omega
    simp only [gup_k hne]
    rw [if_pos h9]
    refine ⟨_, rfl, fun k' a b => by rw [gup_oth a, gup_oth a, gup_oth a, gup_oth a, gup_oth a, gup_oth a, gup_oth a, gup_oth a], fun j h3 h4 => ?_, fun j => ?_⟩
    · have h : j = 2 ∨ j = 3 ∨ j = 4 ∨ j = 5 ∨ j = 6 ∨ j = 7 ∨ j = 8 ∨ j = 9 := by omega
      rcases h with rfl | rfl | rfl | rfl | rfl | rfl | rfl | rfl <;> simp [gup]
    · rw [if_neg (by omega)]
      simp only [gup_k (show k + 2 ≠ k by omega)]
  | succ m ih =>
    intro n p σ h1 h2 h9
    obtain ⟨n, rfl⟩ : ∃ q, n = q + 1 := ⟨n - 1, by omega⟩
    unfold F_Side_copyFrom_B26
    rw [if_neg (by rw [show (20 : Int32) = nI 20 from rfl]; exact nI_nlt (by omega) (by decide)), p_vN σ (gSd ha).2.2.2.2.2.2.2 (by omega) (by decide), gbi_some, p_pN σ (gSd hk).2.2.2.2.2.2.2 (by omega) (by decide), gbv_some, show (nI p + (1 : Int32)) = nI (p + 1) from nI_1 p]
    have ea : (gup σ (k + 2) p (σ (a + 2) p)) a = σ a := gup_oth (by omega)
    have ea2 : (gup σ (k + 2) p (σ (a + 2) p)) (a + 2) = σ (a + 2) := gup_oth (by omega)
    obtain ⟨σ', q1, q2, q3, q6⟩ := ih n (p + 1) (gup σ (k + 2) p (σ (a + 2) p)) (by omega) (by omega) (by rw [ea]; exact h9)
    refine ⟨σ', q1, fun k' a b => (q2 k' a b).trans (gup_oth b), fun j a b => by rw [q3 j a b, ea], fun j => ?_⟩
    rw [q6 j, ea2, gup_row]
    unfold upd
    by_cases g : j = p
    · rw [if_neg (by omega), if_pos g, if_pos (by omega), g]
    · by_cases g2 : p + 1 ≤ j ∧ j < 21
      · rw [if_pos g2, if_pos (by omega)]
      · rw [if_neg g2, if_neg g, if_neg (by omega)]
theorem p_copyA {k a : Nat} (hk : gIsSide k) (ha : gIsSide a) (hd : k + 3 ≤ a ∨ a + 3 ≤ k) : ∀ (m n p : Nat) (σ : gSt), p + m = 7 → m < n → (σ a 9 = 0 ∨ σ a 9 = 1) → ∃ σ', F_Side_copyFrom_B2 k a n (nI p) σ = some σ' ∧ (∀ k', k' ≠ k → k' ≠ k + 1 → k' ≠ k + 2 → σ' k' = σ k') ∧ (∀ j, 2 ≤ j → j ≤ 9 → σ' k j = σ a j) ∧ (∀ j, 1 ≤ j → j ≤ 20 → σ' (k + 2) j = σ (a + 2) j) ∧ ∀ j, σ' (k + 1) j = if p ≤ j ∧ j < 7 then σ (a + 1) j else σ (k + 1) j := by
  intro m
  induction m with
  | zero =>
    intro n p σ h1 h2 h9
    obtain ⟨n, rfl⟩ : ∃ q, n = q + 1 := ⟨n - 1, by omega⟩
    unfold F_Side_copyFrom_B2
    rw [if_pos (by rw [show (6 : Int32) = nI 6 from rfl]; exact nI_lt (by omega) (by omega))]
    obtain ⟨σ', q1, q2, q3, q4⟩ := p_copyB hk ha hd 20 100 1 σ (by decide) (by decide) h9
    refine ⟨σ', q1, fun k' a b c => q2 k' a c, q3, fun j a b => by rw [q4 j, if_pos (by omega)], fun j => ?_⟩
    rw [if_neg (by omega), q2 _ (by omega) (by omega)]
  | succ m ih =>
    intro n p σ h1 h2 h9
    obtain ⟨n, rfl⟩ : ∃ q, n = q + 1 := ⟨n - 1, by omega⟩
    unfold F_Side_copyFrom_B2
    rw [if_neg (by rw [show (6 : Int32) = nI 6 from rfl]; exact nI_nlt (by omega) (by decide)), p_shirtIn ha σ (by omega), gbi_some, p_put hk σ (by omega), gbv_some, show (nI p + (1 : Int32)) = nI (p + 1) from nI_1 p]
    have ea : (gup σ (k + 1) p (σ (a + 1) p)) a = σ a := gup_oth (by omega)
    have ea1 : (gup σ (k + 1) p (σ (a + 1) p)) (a + 1) = σ (a + 1) := gup_oth (by omega)
    have ea2 : (gup σ (k + 1) p (σ (a + 1) p)) (a + 2) = σ (a + 2) := gup_oth (by omega)
    obtain ⟨σ', q1, q2, q3, q5, q6⟩ := ih n (p + 1) (gup σ (k + 1) p (σ (a + 1) p)) (by omega) (by omega) (by rw [ea]; exact h9)
    refine ⟨σ', q1, fun k' a b c => (q2 k' a b c).trans (gup_oth b), fun j a b => by rw [q3 j a b, ea], fun j a b => by rw [q5 j a b, ea2], fun j => ?_⟩
    rw [q6 j, ea1, gup_row]
    unfold upd
    by_cases g : j = p
    · rw [if_neg (by omega), if_pos g, if_pos (by omega), g]
    · by_cases g2 : p + 1 ≤ j ∧ j < 7
      · rw [if_pos g2, if_pos (by omega)]
      · rw [if_neg g2, if_neg g, if_neg (by omega)]
/-- the side at k holds what the side at a holds -/
def SC (k a : Nat) (σ' σ : gSt) : Prop := (∀ j, 2 ≤ j → j ≤ 9 → σ' k j = σ a j) ∧ (∀ p, 1 ≤ p → p ≤ 6 → σ' (k + 1) p = σ (a + 1) p) ∧ ∀ j, 1 ≤ j → j ≤ 20 → σ' (k + 2) j = σ (a + 2) j
theorem p_sideCopy {k a : Nat} (hk : gIsSide k) (ha : gIsSide a) (hd : k + 3 ≤ a ∨ a + 3 ≤ k) (σ : gSt) (h9 : σ a 9 = 0 ∨ σ a 9 = 1) : ∃ σ', F_Side_copyFrom k a σ = some σ' ∧ (∀ k', k' ≠ k → k' ≠ k + 1 → k' ≠ k + 2 → σ' k' = σ k') ∧ SC k a σ' σ := by
  obtain ⟨σ', q1, q2, q3, q4, q5⟩ := p_copyA hk ha hd 6 100 1 σ (by decide) (by decide) h9
  exact ⟨σ', q1, q2, q3, fun p a b => by rw [q5 p, if_pos (by omega)], q4⟩
theorem p_copyFrom {k a : Nat} (hk : gIsCourt k) (ha : gIsCourt a) (hd : k + 7 ≤ a ∨ a + 7 ≤ k) (σ : gSt) (h9 : ∀ t, t < 2 → σ (a + 1 + 3 * t) 9 = 0 ∨ σ (a + 1 + 3 * t) 9 = 1) : ∃ σ', F_Court_copyFrom k a σ = some σ' ∧ (∀ k', (k' < k ∨ k + 7 ≤ k') → σ' k' = σ k') ∧ σ' k 2 = σ a 2 ∧ σ' k 3 = σ a 3 ∧ SC (k + 1) (a + 1) σ' σ ∧ SC (k + 4) (a + 4) σ' σ := by
  unfold F_Court_copyFrom
  obtain ⟨τ, q1, q2, q3⟩ := p_sideCopy (gCt hk).2.2.2.2.1 (gCt ha).2.2.2.2.1 (by omega) σ (h9 0 (by decide))
  have et : τ (a + 4) = σ (a + 4) := q2 _ (by omega) (by omega) (by omega)
  obtain ⟨τ2, r1, r2, r3⟩ := p_sideCopy (gCt hk).2.2.2.2.2 (gCt ha).2.2.2.2.2 (by omega) τ (by rw [et]; exact h9 1 (by decide))
  rw [q1, gbv_some, r1, gbv_some]
  simp only [gl_eq]
  have hne : a ≠ k := by omega
  rw [gup_k hne]
  have e1 : ∀ k', k' ≠ k → (gup (gup τ2 k 2 (τ2 a 2)) k 3 (τ2 a 3)) k' = τ2 k' := fun k' h => by rw [gup_oth h, gup_oth h]
  have ea : τ2 a = σ a := (r2 a (by omega) (by omega) (by omega)).trans (q2 a (by omega) (by omega) (by omega))
  refine ⟨_, rfl, fun k' h => ?_, ?_, ?_, ⟨fun j x y => ?_, fun p x y => ?_, fun j x y => ?_⟩, ⟨fun j x y => ?_, fun p x y => ?_, fun j x y => ?_⟩⟩
  · rw [e1 k' (by omega), r2 _ (by omega) (by omega) (by omega), q2 _ (by omega) (by omega) (by omega)]
  · rw [gup_n (by omega), gup_s, ea]
  · rw [gup_s, ea]
  · rw [e1 _ (by omega), r2 _ (by omega) (by omega) (by omega)]; exact q3.1 j x y
  · rw [e1 _ (by omega), r2 _ (by omega) (by omega) (by omega)]; exact q3.2.1 p x y
  · rw [e1 _ (by omega), r2 _ (by omega) (by omega) (by omega)]; exact q3.2.2 j x y
  · rw [e1 _ (by omega), r3.1 j x y, et]
  · rw [e1 _ (by omega), r3.2.1 p x y, q2 _ (by omega) (by omega) (by omega)]
  · rw [e1 _ (by omega), r3.2.2 j x y, q2 _ (by omega) (by omega) (by omega)]
def gSign (k t a b : Int32) : Int32 := (((k <<< ((11 : Int32) &&& 31)) ||| (t <<< ((10 : Int32) &&& 31))) ||| (a <<< ((5 : Int32) &&& 31))) ||| b
theorem gSign_rd : ∀ k, k < 8 → ∀ t, t < 2 → ∀ a, a < 32 → ∀ b, b < 32 → (gSign (nI k) (nI t) (nI a) (nI b)) >>> ((11 : Int32) &&& 31) = nI k ∧ ((gSign (nI k) (nI t) (nI a) (nI b)) >>> ((10 : Int32) &&& 31)) &&& (1 : Int32) = nI t ∧ ((gSign (nI k) (nI t) (nI a) (nI b)) >>> ((5 : Int32) &&& 31)) &&& (31 : Int32) = nI a ∧ (gSign (nI k) (nI t) (nI a) (nI b)) &&& (31 : Int32) = nI b := by decide +kernel
theorem p_write {n : Nat} {σ : gSt} (k t a b : Int32) (h : σ 16 1 = nI n) (hn : n < 640) : F_Sheet_write k t a b σ = some (gup (gup σ 17 n (gSign k t a b)) 16 1 (nI (n + 1))) := by
  unfold F_Sheet_write
  rw [h, if_neg (by rw [show (640 : Int32) = nI 640 from rfl]; exact nI_ge hn (by decide)), p_pN σ (show gLn 17 = 640 from rfl) hn (by decide), gbv_some]
  simp only [gl_eq]
  rw [gup_k (by decide), h, nI_1]
  rfl
