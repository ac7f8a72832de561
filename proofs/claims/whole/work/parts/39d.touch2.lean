/-! a touch: its fault in the model -/
theorem m_behind {q : Nat} (hq : 1 ≤ q ∧ q ≤ 6) (τ : gSt) : F_Model_isBehind (nI q) τ = some (fQ q, τ) := by
  have h6 : q = 1 ∨ q = 2 ∨ q = 3 ∨ q = 4 ∨ q = 5 ∨ q = 6 := by omega
  rcases h6 with rfl | rfl | rfl | rfl | rfl | rfl <;> rfl
theorem m_fault {t q : Nat} (ht : t < 2) (τ : gSt) {s k b : Int32} (hq : 1 ≤ q ∧ q ≤ 6) (hp : pLast (pRow t (τ 29)) s = nI q) (hy : (τ 29 8 = 1 ∧ τ 29 4 = τ 29 2) ∨ (τ 29 8 = 0 ∧ τ 29 6 ≠ -1)) : F_Model_fault (nI t) s k b τ = some ((if fR (nI t) s k (τ 29) = 0 then fS q s k b (τ 29 (26 + t)) else fR (nI t) s k (τ 29)), τ) := by
  have e26 : (26 : Int32) + nI t = nI (26 + t) := nI_add 26 t
  have hq2 : fQ q = 0 ∨ fQ q = 1 := by unfold fQ; split; exact Or.inr rfl; exact Or.inl rfl
  have h145 : F_Model_fault_B145 (nI t) s k b (nI t) s k τ = some ((if k = 1 ∧ s = τ 29 (26 + t) then 5 else 0), τ) := by
    unfold F_Model_fault_B145
    by_cases g : k = 1
    · rw [if_pos g, gif e26 (by omega), gcl e26 (by omega)]
      by_cases g2 : s = τ 29 (26 + t)
      · rw [if_pos g2, if_pos ⟨g, g2⟩]
      · rw [if_neg g2, if_neg (fun e => g2 e.2)]
    · rw [if_neg g, if_neg (fun e => g e.1)]
  have h121 : F_Model_fault_B121 (nI t) s k b (nI t) s k b (fQ q) τ = some (fS q s k b (τ 29 (26 + t)), τ) := by
    unfold F_Model_fault_B121 fS
    rw [h145]
    rcases hq2 with e | e
    · rw [e, if_pos rfl, if_neg (c := (k = 2 ∨ (k = 1 ∧ b ≠ 0)) ∧ (0 : Int32) = 1) (fun w => absurd w.2 (by decide))]
    · rw [e, if_neg (by decide)]
      by_cases g : k = 2
      · rw [if_pos g, if_pos ⟨Or.inl g, rfl⟩]
      · rw [if_neg g]
        by_cases g1 : k = 1
        · rw [if_pos g1]
          by_cases g2 : b = 0
          · rw [if_pos g2, if_neg (c := (k = 2 ∨ (k = 1 ∧ b ≠ 0)) ∧ (1 : Int32) = 1) (fun w => w.1.elim g (fun e => e.2 g2))]
          · rw [if_neg g2, if_pos ⟨Or.inr ⟨g1, g2⟩, rfl⟩]
        · rw [if_neg g1, if_neg (c := (k = 2 ∨ (k = 1 ∧ b ≠ 0)) ∧ (1 : Int32) = 1) (fun w => w.1.elim g (fun e => g1 e.1))]
  have h106 : ∀ l7 : Int32, F_Model_fault_B106 (nI t) s k b (nI t) s k b (fQ q) l7 τ = some ((if l7 = 3 ∧ k ≠ 2 then 3 else fS q s k b (τ 29 (26 + t))), τ) := fun l7 => by
    unfold F_Model_fault_B106
    rw [h121]
    by_cases g : k = 2
    · rw [if_pos g, if_neg (fun e => e.2 g)]
    · rw [if_neg g]
      by_cases g1 : l7 = 3
      · rw [if_pos g1, if_pos ⟨g1, g⟩]
      · rw [if_neg g1, if_neg (fun e => g1 e.1)]
  have hfB : (if τ 29 7 = 3 ∧ k ≠ 2 then 3 else fS q s k b (τ 29 (26 + t))) = (if fB k (τ 29) = 0 then fS q s k b (τ 29 (26 + t)) else fB k (τ 29)) := by
    unfold fB
    by_cases g1 : τ 29 7 = 3
    · by_cases g : k = 2
      · rw [if_neg (fun e => e.2 g), if_pos g1, if_pos g, if_pos rfl]
      · rw [if_pos ⟨g1, g⟩, if_pos g1, if_neg g, if_neg (by decide)]
    · rw [if_neg (fun e => g1 e.1), if_neg g1, if_pos rfl]
  unfold F_Model_fault
  rw [m_place ht, gbi_some, hp, m_behind hq, gbi_some]
  by_cases g4 : τ 29 4 = nI t
  · rw [if_pos g4]
    by_cases g5 : τ 29 5 = s
    · rw [if_pos g5]
      unfold F_Model_fault_B36 F_Model_fault_B59
      rw [if_pos g4]
      unfold fR
      rw [if_pos g4]
      rcases hy with ⟨a1, a2⟩ | ⟨a1, a2⟩
      · rw [if_pos a1, if_pos (by rw [← a2]; exact g4.symm), if_pos a1, if_neg (by decide)]
      · rw [if_neg (by rw [a1]; decide), if_neg (show ¬ τ 29 8 = 1 by rw [a1]; decide), if_pos g5]
        unfold F_Model_fault_B86
        rw [if_neg (by decide), h106, hfB]
        by_cases g6 : τ 29 6 = 2
        · rw [if_pos g6, if_pos g6]
        · rw [if_neg g6, if_neg g6, if_neg (by decide)]
    · rw [if_neg g5]
      unfold F_Model_fault_B35 F_Model_fault_B36 F_Model_fault_B59
      rw [if_pos g4]
      unfold fR
      rw [if_pos g4]
      rcases hy with ⟨a1, a2⟩ | ⟨a1, a2⟩
      · rw [if_pos a1, if_pos (by rw [← a2]; exact g4.symm), if_pos a1, if_neg (by decide)]
      · rw [if_neg (by rw [a1]; decide), if_neg (show ¬ τ 29 8 = 1 by rw [a1]; decide), if_neg g5]
        unfold F_Model_fault_B86
        rw [if_pos rfl, h106, hfB]
  · rw [if_neg g4]
    unfold F_Model_fault_B35 F_Model_fault_B36 F_Model_fault_B59
    rw [if_neg g4]
    unfold fR
    rw [if_neg g4, if_pos rfl]
    have h86 : F_Model_fault_B86 (nI t) s k b (nI t) s k b (fQ q) 0 0 τ = some (fS q s k b (τ 29 (26 + t)), τ) := by
      unfold F_Model_fault_B86
      rw [if_pos rfl, h106, if_neg (fun e => absurd e.1 (by decide))]
    rcases hy with ⟨a1, a2⟩ | ⟨a1, a2⟩
    · rw [if_pos a1, if_neg (fun e => g4 (by rw [a2]; exact e.symm)), h86]
    · rw [if_neg (by rw [a1]; decide), h86]
