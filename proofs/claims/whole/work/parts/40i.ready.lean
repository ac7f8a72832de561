/-! six unlike ones, asked by both -/
theorem pU_first {f : Nat → Int32} : pU f ↔ ∀ p, 1 ≤ p → p ≤ 6 → pFirst f (f p) = nI p := by
  constructor
  · intro h p a b
    rcases p_in h (f p) with ⟨q, q1, q2, q3, q4, q5⟩ | ⟨q3, _⟩
    · rw [q4, h q p q1 q2 a b q3]
    · exact absurd rfl (q3 p a b)
  · intro h p q a b c d e
    have h1 := h p a b
    rw [e, h q c d] at h1
    exact ((nI_eq (by omega) (by omega)).mp h1).symm
theorem pU_last {f : Nat → Int32} : pU f ↔ ∀ p, 1 ≤ p → p ≤ 6 → pLast f (f p) = nI p := by
  constructor
  · intro h p a b
    rcases p_in h (f p) with ⟨q, q1, q2, q3, q4, q5⟩ | ⟨q3, _⟩
    · rw [q5, h q p q1 q2 a b q3]
    · exact absurd rfl (q3 p a b)
  · intro h p q a b c d e
    have h1 := h p a b
    rw [e, h q c d] at h1
    exact ((nI_eq (by omega) (by omega)).mp h1).symm
def RDY (t : Nat) (z : vRow) : Prop := pU (pRow t z) ∧ ∀ p, 1 ≤ p → p ≤ 6 → pRow t z p ≠ -1 ∧ pRow t z p ≠ z (26 + t)
theorem p_ready_loop {k : Nat} (hk : gIsSide k) (σ : gSt) : ∀ (d n p : Nat), p + d = 7 → d < n → 1 ≤ p → (F_Side_isReady_B2 k n (nI p) σ = some ((1 : Int32), σ) ∧ ∀ q, p ≤ q → q ≤ 6 → σ (k + 1) q ≠ -1 ∧ σ (k + 1) q ≠ σ k 2 ∧ pFirst (σ (k + 1)) (σ (k + 1) q) = nI q) ∨ (F_Side_isReady_B2 k n (nI p) σ = some ((0 : Int32), σ) ∧ ∃ q, p ≤ q ∧ q ≤ 6 ∧ ¬ (σ (k + 1) q ≠ -1 ∧ σ (k + 1) q ≠ σ k 2 ∧ pFirst (σ (k + 1)) (σ (k + 1) q) = nI q)) := by
  intro d
  induction d with
  | zero =>
    intro n p h1 h2 h3
    obtain ⟨n, rfl⟩ : ∃ q, n = q + 1 := ⟨n - 1, by omega⟩
    unfold F_Side_isReady_B2
    rw [if_pos (by rw [show (6 : Int32) = nI 6 from rfl]; exact nI_lt (by omega) (by omega))]
    exact Or.inl ⟨rfl, fun q a b => absurd b (by omega)⟩
  | succ d ih =>
    intro n p h1 h2 h3
    obtain ⟨n, rfl⟩ : ∃ q, n = q + 1 := ⟨n - 1, by omega⟩
    unfold F_Side_isReady_B2
    rw [if_neg (by rw [show (6 : Int32) = nI 6 from rfl]; exact nI_nlt (by omega) (by decide)), p_shirtIn hk σ (by omega), gbi_some, p_placeOf hk σ, gbi_some, nI_1]
    by_cases g1 : σ (k + 1) p = -1
    · rw [if_pos g1]
      exact Or.inr ⟨rfl, p, by omega, by omega, fun e => e.1 g1⟩
    rw [if_neg g1]
    by_cases g2 : σ (k + 1) p = σ k 2
    · rw [if_pos g2]
      exact Or.inr ⟨rfl, p, by omega, by omega, fun e => e.2.1 g2⟩
    rw [if_neg g2]
    by_cases g3 : pFirst (σ (k + 1)) (σ (k + 1) p) = nI p
    · rw [if_pos g3]
      rcases ih n (p + 1) (by omega) (by omega) (by omega) with ⟨e1, e2⟩ | ⟨e1, q, e2, e3, e4⟩
      · refine Or.inl ⟨e1, fun q a b => ?_⟩
        by_cases e : q = p
        · rw [e]; exact ⟨g1, g2, g3⟩
        · exact e2 q (by omega) b
      · exact Or.inr ⟨e1, q, by omega, e3, e4⟩
    · rw [if_neg g3]
      exact Or.inr ⟨rfl, p, by omega, by omega, fun e => g3 e.2.2⟩
theorem p_ready {k t : Nat} (hk : gIsSide k) {σ : gSt} {z : vRow} (h : SR k t σ z) : (F_Side_isReady k σ = some ((1 : Int32), σ) ∧ RDY t z) ∨ (F_Side_isReady k σ = some ((0 : Int32), σ) ∧ ¬ RDY t z) := by
  have e : ∀ q, 1 ≤ q → q ≤ 6 → σ (k + 1) q = pRow t z q := fun q a b => h.2.2.2.2 q a b
  rcases p_ready_loop hk σ 6 100 1 (by decide) (by decide) (by decide) with ⟨e1, e2⟩ | ⟨e1, q, e2, e3, e4⟩
  · refine Or.inl ⟨e1, pU_first.mpr (fun p a b => ?_), fun p a b => ?_⟩
    · rw [← e p a b, ← pFirst_SR h]; exact (e2 p a b).2.2
    · rw [← e p a b, ← h.1]; exact ⟨(e2 p a b).1, (e2 p a b).2.1⟩
  · refine Or.inr ⟨e1, fun hr => e4 ⟨?_, ?_, ?_⟩⟩
    · rw [e q e2 e3]; exact (hr.2 q e2 e3).1
    · rw [e q e2 e3, h.1]; exact (hr.2 q e2 e3).2
    · rw [pFirst_SR h, e q e2 e3]; exact pU_first.mp hr.1 q e2 e3
theorem m_lined0 {t : Nat} (ht : t < 2) (τ : gSt) {a : Int32} : ∀ (d n p : Nat), p + d = 7 → d < n → 1 ≤ p → F_Model_isLinedUp_B4 a n (nI t) 0 (nI p) τ = some ((0 : Int32), τ) := by
  intro d
  induction d with
  | zero =>
    intro n p h1 h2 h3
    obtain ⟨n, rfl⟩ : ∃ q, n = q + 1 := ⟨n - 1, by omega⟩
    unfold F_Model_isLinedUp_B4
    rw [if_pos (by rw [show (6 : Int32) = nI 6 from rfl]; exact nI_lt (by omega) (by omega)), if_pos (Or.inl rfl)]
  | succ d ih =>
    intro n p h1 h2 h3
    obtain ⟨n, rfl⟩ : ∃ q, n = q + 1 := ⟨n - 1, by omega⟩
    have hi := ih n (p + 1) (by omega) (by omega) (by omega)
    unfold F_Model_isLinedUp_B4
    rw [if_neg (by rw [show (6 : Int32) = nI 6 from rfl]; exact nI_nlt (by omega) (by decide)), m_slot ht (by omega), gbi_some, gif rfl (by omega), gcl rfl (by omega), gl_eq, if_pos rfl, nI_1, hi]
theorem m_lined_loop {t : Nat} (ht : t < 2) (τ : gSt) {a : Int32} {z : vRow} (hτ : τ 29 = z) : ∀ (d n p : Nat), p + d = 7 → d < n → 1 ≤ p → (F_Model_isLinedUp_B4 a n (nI t) 1 (nI p) τ = some ((1 : Int32), τ) ∧ ∀ q, p ≤ q → q ≤ 6 → pRow t z q ≠ -1 ∧ pRow t z q ≠ z (26 + t) ∧ pLast (pRow t z) (pRow t z q) = nI q) ∨ (F_Model_isLinedUp_B4 a n (nI t) 1 (nI p) τ = some ((0 : Int32), τ) ∧ ∃ q, p ≤ q ∧ q ≤ 6 ∧ ¬ (pRow t z q ≠ -1 ∧ pRow t z q ≠ z (26 + t) ∧ pLast (pRow t z) (pRow t z q) = nI q)) := by
  have e26 : (26 : Int32) + nI t = nI (26 + t) := nI_add 26 t
  intro d
  induction d with
  | zero =>
    intro n p h1 h2 h3
    obtain ⟨n, rfl⟩ : ∃ q, n = q + 1 := ⟨n - 1, by omega⟩
    unfold F_Model_isLinedUp_B4
    rw [if_pos (by rw [show (6 : Int32) = nI 6 from rfl]; exact nI_lt (by omega) (by omega)), if_pos (Or.inr rfl)]
    exact Or.inl ⟨rfl, fun q a b => absurd b (by omega)⟩
  | succ d ih =>
    intro n p h1 h2 h3
    obtain ⟨n, rfl⟩ : ∃ q, n = q + 1 := ⟨n - 1, by omega⟩
    have h0 := m_lined0 (a := a) ht τ d n (p + 1) (by omega) (by omega) (by omega)
    unfold F_Model_isLinedUp_B4
    rw [if_neg (by rw [show (6 : Int32) = nI 6 from rfl]; exact nI_nlt (by omega) (by decide)), m_slot ht (by omega), gbi_some, gif rfl (by omega), gcl rfl (by omega), gl_eq, if_neg (show ¬ (1 : Int32) = 0 by decide), nI_1, h0, hτ, m_place ht, gbi_some, hτ, gif e26 (by omega), gcl e26 (by omega), show z (13 + 6 * t + p) = pRow t z p from rfl]
    by_cases g1 : pRow t z p = -1
    · rw [if_pos g1]
      exact Or.inr ⟨rfl, p, by omega, by omega, fun e => e.1 g1⟩
    rw [if_neg g1]
    by_cases g3 : pLast (pRow t z) (pRow t z p) = nI p
    · rw [if_pos g3]
      by_cases g2 : pRow t z p = z (26 + t)
      · rw [if_pos g2]
        exact Or.inr ⟨h0, p, by omega, by omega, fun e => e.2.1 g2⟩
      rw [if_neg g2]
      rcases ih n (p + 1) (by omega) (by omega) (by omega) with ⟨e1, e2⟩ | ⟨e1, q, e2, e3, e4⟩
      · refine Or.inl ⟨e1, fun q a b => ?_⟩
        by_cases e : q = p
        · rw [e]; exact ⟨g1, g2, g3⟩
        · exact e2 q (by omega) b
      · exact Or.inr ⟨e1, q, by omega, e3, e4⟩
    · rw [if_neg g3]
      exact Or.inr ⟨h0, p, by omega, by omega, fun e => g3 e.2.2⟩
theorem m_lined {t : Nat} (ht : t < 2) (τ : gSt) {z : vRow} (hτ : τ 29 = z) : (F_Model_isLinedUp (nI t) τ = some ((1 : Int32), τ) ∧ RDY t z) ∨ (F_Model_isLinedUp (nI t) τ = some ((0 : Int32), τ) ∧ ¬ RDY t z) := by
  unfold F_Model_isLinedUp
  rcases m_lined_loop (a := nI t) ht τ hτ 6 100 1 (by decide) (by decide) (by decide) with ⟨e1, e2⟩ | ⟨e1, q, e2, e3, e4⟩
  · exact Or.inl ⟨e1, pU_last.mpr (fun p a b => (e2 p a b).2.2), fun p a b => ⟨(e2 p a b).1, (e2 p a b).2.1⟩⟩
  · exact Or.inr ⟨e1, fun hr => e4 ⟨(hr.2 q e2 e3).1, (hr.2 q e2 e3).2, pU_last.mp hr.1 q e2 e3⟩⟩
