/-! a set begins -/
def vB (p : Nat) (z : vRow) : vRow := upd (upd (upd (upd (upd (upd (upd z (10 + p) 0) (28 + p) (-1)) (30 + p) 0) (32 + p) 0) (34 + p) 2) (36 + p) 0) (78 + p) 0
def vB0 (t : Nat) (z : vRow) : vRow := upd (upd (upd (upd (upd (upd z 41 0) 0 1) 1 0) 2 (nI t)) 3 0) 9 (-1)
def vBeg (t : Nat) (z : vRow) : vRow := fun j => if 80 ≤ j ∧ j < 92 then 0 else vB 1 (vB 0 (vB0 t z)) j
theorem vBeg_oth {t j : Nat} {z : vRow} (h : (4 ≤ j ∧ j < 9) ∨ (12 ≤ j ∧ j < 28) ∨ (38 ≤ j ∧ j < 41) ∨ (42 ≤ j ∧ j < 78) ∨ 92 ≤ j) : vBeg t z j = z j := by
  unfold vBeg vB vB0 upd
  rw [if_neg (by omega)]
  repeat rw [if_neg (by omega)]
theorem vBeg_at {t : Nat} {z : vRow} : vBeg t z 0 = 1 ∧ vBeg t z 1 = 0 ∧ vBeg t z 2 = nI t ∧ vBeg t z 3 = 0 ∧ vBeg t z 9 = -1 ∧ vBeg t z 41 = 0 := by
  unfold vBeg vB vB0
  refine ⟨?_, ?_, ?_, ?_, ?_, ?_⟩ <;> simp [upd]
theorem vBeg_t {t t' : Nat} (ht : t' < 2) {z : vRow} : vBeg t z (10 + t') = 0 ∧ vBeg t z (28 + t') = -1 ∧ vBeg t z (30 + t') = 0 ∧ vBeg t z (32 + t') = 0 ∧ vBeg t z (34 + t') = 2 ∧ vBeg t z (36 + t') = 0 ∧ vBeg t z (78 + t') = 0 := by
  unfold vBeg vB vB0
  rcases two ht with rfl | rfl
  · refine ⟨?_, ?_, ?_, ?_, ?_, ?_, ?_⟩ <;> simp [upd]
  · refine ⟨?_, ?_, ?_, ?_, ?_, ?_, ?_⟩ <;> simp [upd]
theorem vBeg_l {t j : Nat} {z : vRow} (h : j < 12) : vBeg t z (80 + j) = 0 := by
  unfold vBeg
  rw [if_pos (by omega)]
theorem m_beg196 {a : Int32} : ∀ (d n p : Nat) (σ : gSt), p + d = 12 → d < n → F_Model_begin_B196 a n (nI p) σ = some (σ 29 12 + σ 29 13 + 1, gs σ 29 (fun j => if 80 + p ≤ j ∧ j < 92 then 0 else σ 29 j)) := by
  intro d
  induction d with
  | zero =>
    intro n p σ h1 h2
    obtain ⟨n, rfl⟩ : ∃ q, n = q + 1 := ⟨n - 1, by omega⟩
    unfold F_Model_begin_B196
    rw [if_pos (by rw [show (12 : Int32) = nI 12 from rfl]; exact nI_le (by omega) (by omega))]
    congr 2
    rw [show (fun j => if 80 + p ≤ j ∧ j < 92 then 0 else σ 29 j) = σ 29 from funext fun j => if_neg (by omega), gs_id]
  | succ d ih =>
    intro n p σ h1 h2
    obtain ⟨n, rfl⟩ : ∃ q, n = q + 1 := ⟨n - 1, by omega⟩
    unfold F_Model_begin_B196
    rw [if_neg (by rw [show (12 : Int32) = nI 12 from rfl]; exact nI_ge (by omega) (by decide)), gif (show (80 : Int32) + nI p = nI (80 + p) from nI_add 80 p) (by omega), gcl (show (80 : Int32) + nI p = nI (80 + p) from nI_add 80 p) (by omega), gs_up, gl_eq, nI_1, ih n (p + 1) _ (by omega) (by omega), gs_s, gs_gs]
    have e : ∀ j, j < 80 → upd (σ 29) (80 + p) 0 j = σ 29 j := fun j hj => by unfold upd; rw [if_neg (by omega)]
    rw [e 12 (by decide), e 13 (by decide)]
    congr 3
    funext j
    unfold upd
    grind
theorem m_beg113 {a : Int32} {n p : Nat} (hp : p < 2) (σ : gSt) : F_Model_begin_B113 a (n + 1) (nI p) σ = F_Model_begin_B113 a n (nI (p + 1)) (gs σ 29 (vB p (σ 29))) := by
  have e10 : (10 : Int32) + nI p = nI (10 + p) := nI_add 10 p
  have e28 : (28 : Int32) + nI p = nI (28 + p) := nI_add 28 p
  have e30 : (30 : Int32) + nI p = nI (30 + p) := nI_add 30 p
  have e32 : (32 : Int32) + nI p = nI (32 + p) := nI_add 32 p
  have e34 : (34 : Int32) + nI p = nI (34 + p) := nI_add 34 p
  have e36 : (36 : Int32) + nI p = nI (36 + p) := nI_add 36 p
  have e78 : (78 : Int32) + nI p = nI (78 + p) := nI_add 78 p
  conv => lhs; unfold F_Model_begin_B113
  rw [if_neg (by rw [show (2 : Int32) = nI 2 from rfl]; exact nI_ge (by omega) (by decide)), nI_1, gif e10 (by omega), gcl e10 (by omega), gs_up, gl_eq, gif e28 (by omega), gcl e28 (by omega), gs_up, gs_s, gs_gs, gl_eq, gif e30 (by omega), gcl e30 (by omega), gs_up, gs_s, gs_gs, gl_eq, gif e32 (by omega), gcl e32 (by omega), gs_up, gs_s, gs_gs, gl_eq, gif e34 (by omega), gcl e34 (by omega), gs_up, gs_s, gs_gs, gl_eq, gif e36 (by omega), gcl e36 (by omega), gs_up, gs_s, gs_gs, gl_eq, gif e78 (by omega), gcl e78 (by omega), gs_up, gs_s, gs_gs, gl_eq]
  rfl
theorem m_beg113_2 {a : Int32} {n : Nat} (σ : gSt) : F_Model_begin_B113 a (n + 1) (nI 2) σ = some (σ 29 12 + σ 29 13 + 1, gs σ 29 (fun j => if 80 ≤ j ∧ j < 92 then 0 else σ 29 j)) := by
  conv => lhs; unfold F_Model_begin_B113
  rw [if_pos (by decide)]
  exact m_beg196 12 100 0 σ rfl (by decide)
theorem m_beg59 {a : Int32} {t : Nat} (τ : gSt) {z : vRow} (hτ : τ 29 = z) : F_Model_begin_B59 a (nI t) 0 τ = some (z 12 + z 13 + 1, gs (gs τ 28 (upd (τ 28) 2 0)) 29 (vBeg t z)) := by
  have h100 : ∀ σ : gSt, F_Model_begin_B113 a 100 0 σ = some (vB 1 (vB 0 (σ 29)) 12 + vB 1 (vB 0 (σ 29)) 13 + 1, gs σ 29 (fun j => if 80 ≤ j ∧ j < 92 then 0 else vB 1 (vB 0 (σ 29)) j)) := fun σ => by
    have h1 := m_beg113 (a := a) (n := 99) (p := 0) (by decide) σ
    rw [m_beg113 (n := 98) (p := 1) (by decide), m_beg113_2 (n := 97), gs_s, gs_gs, gs_s, gs_gs] at h1
    exact h1
  have e12 : vB 1 (vB 0 (vB0 t z)) 12 = z 12 := by unfold vB vB0; simp [upd]
  have e13 : vB 1 (vB 0 (vB0 t z)) 13 = z 13 := by unfold vB vB0; simp [upd]
  unfold F_Model_begin_B59
  rw [m_goes0, gbi_some, if_neg (by decide), gs_up, gs_n (show (29 : Nat) ≠ 28 by decide), hτ, gl_eq, gs_up, gs_s, gs_gs, gl_eq, gs_up, gs_s, gs_gs, gl_eq, gs_up, gs_s, gs_gs, gl_eq, gs_up, gs_s, gs_gs, gl_eq, gs_up, gs_s, gs_gs, gl_eq, h100, gs_s, gs_gs, show upd (upd (upd (upd (upd (upd z 41 0) 0 1) 1 0) 2 (nI t)) 3 0) 9 (-1) = vB0 t z from rfl, e12, e13]
  rfl
/-- the model's begin, by what it asks -/
theorem m_begin {v : Int32} (τ : gSt) {z : vRow} (hτ : τ 29 = z) : (F_Model_begin v τ = F_Model_begin_B37 v v 1 τ ∧ z 0 = 0 ∧ ¬ (z 12 = 3 ∨ z 13 = 3) ∧ RDY 0 z ∧ RDY 1 z) ∨ (F_Model_begin v τ = F_Model_begin_B37 v v 0 τ ∧ ¬ (z 0 = 0 ∧ ¬ (z 12 = 3 ∨ z 13 = 3) ∧ RDY 0 z ∧ RDY 1 z)) := by
  have l0 := m_lined (t := 0) (by decide) τ hτ
  have l1 := m_lined (t := 1) (by decide) τ hτ
  have h0 : F_Model_isLinedUp 0 τ = F_Model_isLinedUp (nI 0) τ := rfl
  have h1 : F_Model_isLinedUp 1 τ = F_Model_isLinedUp (nI 1) τ := rfl
  have h36 : F_Model_begin_B36 v v τ = F_Model_begin_B37 v v 0 τ := rfl
  unfold F_Model_begin
  rw [m_isOver, hτ, h36]
  by_cases g0 : z 0 = 0
  · rw [if_pos g0]
    by_cases g1 : z 12 = 3 ∨ z 13 = 3
    · rw [if_pos g1, gbi_some, if_neg (by decide)]
      exact Or.inr ⟨rfl, fun e => e.2.1 g1⟩
    · rw [if_neg g1, gbi_some, if_pos rfl, h0]
      rcases l0 with ⟨k1, k2⟩ | ⟨k1, k2⟩
      · rw [k1, gbi_some, if_neg (by decide), h1]
        rcases l1 with ⟨j1, j2⟩ | ⟨j1, j2⟩
        · rw [j1, gbi_some, if_neg (by decide)]
          exact Or.inl ⟨rfl, g0, g1, k2, j2⟩
        · rw [j1, gbi_some, if_pos rfl]
          exact Or.inr ⟨rfl, fun e => j2 e.2.2.2⟩
      · rw [k1, gbi_some, if_pos rfl]
        exact Or.inr ⟨rfl, fun e => k2 e.2.2.1⟩
  · rw [if_neg g0]
    exact Or.inr ⟨rfl, fun e => g0 e.1⟩
