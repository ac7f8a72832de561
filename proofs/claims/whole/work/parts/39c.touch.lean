/-! a touch: its fault, in both -/
def fB (k : Int32) (z : vRow) : Int32 := if z 7 = 3 then (if k = 2 then 0 else 3) else 0
def fR (t s k : Int32) (z : vRow) : Int32 := if z 4 = t then (if z 8 = 1 then 1 else if z 5 = s then (if z 6 = 2 then fB k z else 2) else fB k z) else 0
def fQ (q : Nat) : Int32 := if q = 1 ∨ 5 ≤ q then 1 else 0
def fS (q : Nat) (s k b l : Int32) : Int32 := if (k = 2 ∨ (k = 1 ∧ b ≠ 0)) ∧ fQ q = 1 then 4 else if k = 1 ∧ s = l then 5 else 0
theorem p_rfault {σ : gSt} (h : RLY σ) (t s k : Int32) : F_Rally_faultOf t s k σ = some (fR t s k (σ 29), σ) := by
  obtain ⟨y1, y2, y3, y4, y5, y6, _⟩ := h
  have hB : F_Rally_faultOf_B38 t s k k σ = some (fB k (σ 29), σ) := by
    unfold F_Rally_faultOf_B38 fB
    rw [y5]
    by_cases g : σ 29 7 = 3
    · rw [if_pos g, if_pos g]
      by_cases g2 : k = 2
      · rw [if_pos g2, if_pos g2]
      · rw [if_neg g2, if_neg g2]
    · rw [if_neg g, if_neg g]
  unfold F_Rally_faultOf fR
  rw [hB, y3, y4]
  by_cases g : σ 29 4 = t
  · rw [if_pos g, if_pos g]
    rcases y6 with ⟨a1, a2, a3⟩ | ⟨a1, a2, a3⟩
    · rw [a2, if_pos rfl, if_pos a1]
    · rw [a2, if_neg a3, if_neg (show ¬ σ 29 8 = 1 by rw [a1]; decide)]
      by_cases g2 : σ 29 5 = s
      · rw [if_pos g2, if_pos g2]
        by_cases g3 : σ 29 6 = 2
        · rw [if_pos g3, if_pos g3]
        · rw [if_neg g3, if_neg g3]
      · rw [if_neg g2, if_neg g2]
  · rw [if_neg g, if_neg g]
theorem p_behind {k t q : Nat} (hk : gIsSide k) {σ : gSt} {z : vRow} {x : Int32} (h : SR k t σ z) (hq : 1 ≤ q ∧ q ≤ 6) (hp : pFirst (pRow t z) x = nI q) : F_Side_isBehind k x σ = some (fQ q, σ) := by
  unfold F_Side_isBehind
  rw [p_placeOf hk, gbi_some, pFirst_SR h, hp]
  have h6 : q = 1 ∨ q = 2 ∨ q = 3 ∨ q = 4 ∨ q = 5 ∨ q = 6 := by omega
  rcases h6 with rfl | rfl | rfl | rfl | rfl | rfl <;> rfl
theorem p_sfault {k t q : Nat} (hk : gIsSide k) {σ : gSt} {z : vRow} {x a b : Int32} (h : SR k t σ z) (hq : 1 ≤ q ∧ q ≤ 6) (hp : pFirst (pRow t z) x = nI q) : F_Side_faultOf k x a b σ = some (fS q x a b (z (26 + t)), σ) := by
  have hB := p_behind hk h hq hp
  have h36 : F_Side_faultOf_B36 k x a b x a σ = some ((if a = 1 ∧ x = z (26 + t) then 5 else 0), σ) := by
    unfold F_Side_faultOf_B36
    rw [h.1]
    by_cases g : a = 1
    · rw [if_pos g]
      by_cases g2 : x = z (26 + t)
      · rw [if_pos g2, if_pos ⟨g, g2⟩]
      · rw [if_neg g2, if_neg (fun e => g2 e.2)]
    · rw [if_neg g, if_neg (fun e => g e.1)]
  have hq2 : fQ q = 0 ∨ fQ q = 1 := by unfold fQ; split; exact Or.inr rfl; exact Or.inl rfl
  have h14 : (a = 2 ∨ (a = 1 ∧ b ≠ 0)) → F_Side_faultOf_B14 k x a b x a σ = some (fS q x a b (z (26 + t)), σ) := fun g => by
    unfold F_Side_faultOf_B14 F_Side_faultOf_B19 fS
    rw [if_neg (by decide), hB, gbi_some]
    rcases hq2 with e | e
    · rw [e, if_pos rfl, h36, if_neg (c := (a = 2 ∨ (a = 1 ∧ b ≠ 0)) ∧ (0 : Int32) = 1) (fun w => absurd w.2 (by decide))]
    · rw [e, if_neg (by decide), if_pos ⟨g, rfl⟩]
  have h18 : ¬ (a = 2 ∨ (a = 1 ∧ b ≠ 0)) → F_Side_faultOf_B18 k x a b x a σ = some (fS q x a b (z (26 + t)), σ) := fun g => by
    unfold F_Side_faultOf_B18 F_Side_faultOf_B19 fS
    rw [if_pos rfl, h36, if_neg (c := (a = 2 ∨ (a = 1 ∧ b ≠ 0)) ∧ fQ q = 1) (fun w => g w.1)]
  unfold F_Side_faultOf
  by_cases g : a = 2
  · rw [if_pos g]; exact h14 (Or.inl g)
  · rw [if_neg g]
    by_cases g1 : a = 1
    · rw [if_pos g1]
      by_cases g2 : b = 0
      · rw [if_pos g2]; exact h18 (fun e => e.elim g (fun e => e.2 g2))
      · rw [if_neg g2]; exact h14 (Or.inr ⟨g1, g2⟩)
    · rw [if_neg g1]; exact h18 (fun e => e.elim g (fun e => g1 e.1))
