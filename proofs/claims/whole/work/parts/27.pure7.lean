/-! the rally's end in the model's row; its other writes -/
def vLost (t : Nat) (z : vRow) : vRow := upd z (80 + 6 * t + (z (36 + t)).toNatClampNeg % 6) (z (80 + 6 * t + (z (36 + t)).toNatClampNeg % 6) + 1)
def vWins (w : Nat) (c : Int32) (z : vRow) : vRow := vFin w (vGive w (upd (upd (upd (upd (upd (vLost (1 - w) z) 1 0) 3 c) 40 (nI (1 - w))) 30 0) 31 0))
theorem nI_rem {r : Nat} (hr : r < 4096) : nI r - nI r / (6 : Int32) * (6 : Int32) = nI (r % 6) := by
  have key : ∀ a, a < 64 → ∀ b, b < 64 → nI (64 * a + b) - nI (64 * a + b) / (6 : Int32) * (6 : Int32) = nI ((64 * a + b) % 6) := by decide +kernel
  have h := key (r / 64) (by omega) (r % 64) (by omega)
  rwa [show 64 * (r / 64) + r % 64 = r by omega] at h
theorem m_wins {w r : Nat} (hw : w < 2) (σ : gSt) {c : Int32} (hr : r < 4096) (h : σ 29 (36 + (1 - w)) = nI r) : F_Model_wins (nI w) c σ = some (gs σ 29 (vWins w c (σ 29))) := by
  have e36 : (36 : Int32) + nI (1 - w) = nI (36 + (1 - w)) := nI_add 36 (1 - w)
  have e80 : (80 : Int32) + 6 * nI (1 - w) + nI (r % 6) = nI (80 + 6 * (1 - w) + r % 6) := by
    rw [← nI_add, ← nI_add]
    rcases two hw with rfl | rfl <;> rfl
  have hm : r % 6 < 6 := Nat.mod_lt _ (by decide)
  unfold F_Model_wins
  simp only [gl_eq]
  rw [nI_1m hw, gif e36 (by omega), gcl e36 (by omega), h, nI_rem hr, gif e80 (by omega), gif e80 (by omega), gcl e80 (by omega)]
  simp only [gs_up, gs_s, gs_gs]
  rw [m_scores hw, gbv_some]
  simp only [gs_s, gs_gs]
  unfold vWins vLost
  rw [h, nI_clamp (by omega)]
/-- the row set aside -/
def vCopy (z y : vRow) : vRow := fun j => if j < 92 then z j else y j
theorem m_ends_loop {a b c : Int32} {w r : Nat} (hw : w < 2) (hr : r < 4096) : ∀ (m n p : Nat) (σ : gSt), p + m = 92 → m < n → σ 29 (36 + (1 - w)) = nI r → F_Model_ends_B2 a b n (nI w) c (nI p) σ = some (gs (gs σ 30 (fun j => if p ≤ j ∧ j < 92 then σ 29 j else σ 30 j)) 29 (upd (vWins w c (σ 29)) 41 1)) := by
  intro m
  induction m with
  | zero =>
    intro n p σ h1 h2 h3
    obtain ⟨n, rfl⟩ : ∃ q, n = q + 1 := ⟨n - 1, by omega⟩
    unfold F_Model_ends_B2
    rw [if_pos (by rw [show (92 : Int32) = nI 92 from rfl]; exact nI_le (by omega) (by omega)), m_wins hw σ hr h3, gbv_some]
    simp only [gl_eq, gs_up, gs_s, gs_gs]
    rw [show (fun j => if p ≤ j ∧ j < 92 then σ 29 j else σ 30 j) = σ 30 from funext fun j => if_neg (by omega), gs_id]
  | succ m ih =>
    intro n p σ h1 h2 h3
    obtain ⟨n, rfl⟩ : ∃ q, n = q + 1 := ⟨n - 1, by omega⟩
    unfold F_Model_ends_B2
    rw [if_neg (by rw [show (92 : Int32) = nI 92 from rfl]; exact nI_ge (by omega) (by decide)), gif rfl (by omega), gif rfl (by omega), gcl rfl (by omega), gl_eq, gs_up, nI_1, ih n (p + 1) _ (by omega) (by omega) (by rw [gs_n (by decide)]; exact h3)]
    simp only [gs_s, gs_gs, gs_n (show (29 : Nat) ≠ 30 by decide)]
    congr 3
    funext j
    unfold upd
    grind
theorem m_ends {w r : Nat} (hw : w < 2) (σ : gSt) {c : Int32} (hr : r < 4096) (h : σ 29 (36 + (1 - w)) = nI r) : F_Model_ends (nI w) c σ = some (gs (gs σ 30 (vCopy (σ 29) (σ 30))) 29 (upd (vWins w c (σ 29)) 41 1)) := by
  have e : (fun j => if 0 ≤ j ∧ j < 92 then σ 29 j else σ 30 j) = vCopy (σ 29) (σ 30) := by
    funext j
    unfold vCopy
    by_cases g : j < 92
    · rw [if_pos g, if_pos ⟨Nat.zero_le j, g⟩]
    · rw [if_neg g, if_neg (fun q => g q.2)]
  have h2 := m_ends_loop (a := nI w) (b := c) (c := c) hw hr 92 100 0 σ rfl (by decide) h
  rw [e] at h2
  unfold F_Model_ends
  exact h2
theorem m_back_loop {a : Int32} {w r : Nat} (hw : w < 2) (hr : r < 4096) : ∀ (m n p : Nat) (σ : gSt), p + m = 92 → m < n → σ 30 (36 + (1 - w)) = nI r → (∀ j, j < p → σ 29 j = σ 30 j) → F_Model_challenge_B113 a n (nI w) (nI p) σ = some ((1 : Int32), gs σ 29 (upd (vWins w 8 (vCopy (σ 30) (σ 29))) 41 0)) := by
  intro m
  induction m with
  | zero =>
    intro n p σ h1 h2 h3 h4
    obtain ⟨n, rfl⟩ : ∃ q, n = q + 1 := ⟨n - 1, by omega⟩
    unfold F_Model_challenge_B113
    rw [if_pos (by rw [show (92 : Int32) = nI 92 from rfl]; exact nI_le (by omega) (by omega)), m_wins hw σ hr (by rw [h4 _ (by omega)]; exact h3), gbv_some]
    simp only [gl_eq, gs_up, gs_s, gs_gs]
    rw [show vCopy (σ 30) (σ 29) = σ 29 from funext fun j => by unfold vCopy; by_cases g : j < 92; rw [if_pos g, h4 j (by omega)]; rw [if_neg g]]
  | succ m ih =>
    intro n p σ h1 h2 h3 h4
    obtain ⟨n, rfl⟩ : ∃ q, n = q + 1 := ⟨n - 1, by omega⟩
    unfold F_Model_challenge_B113
    rw [if_neg (by rw [show (92 : Int32) = nI 92 from rfl]; exact nI_ge (by omega) (by decide)), gif rfl (by omega), gif rfl (by omega), gcl rfl (by omega), gl_eq, gs_up, nI_1, ih n (p + 1) _ (by omega) (by omega) (by rw [gs_n (by decide)]; exact h3) (fun j hj => by
      rw [gs_s, gs_n (by decide)]
      unfold upd
      by_cases g : j = p
      · rw [if_pos g, g]
      · rw [if_neg g, h4 j (by omega)])]
    simp only [gs_s, gs_gs, gs_n (show (30 : Nat) ≠ 29 by decide)]
    have e : vCopy (σ 30) (upd (σ 29) p (σ 30 p)) = vCopy (σ 30) (σ 29) := by
      funext j
      unfold vCopy upd
      by_cases g : j < 92
      · rw [if_pos g, if_pos g]
      · rw [if_neg g, if_neg g, if_neg (by omega)]
    rw [e]
/-- the row of the model's answers: what was thrown -/
theorem m_goes0 (σ : gSt) : F_Model_goes 0 σ = some ((1 : Int32), gs σ 28 (upd (σ 28) 2 0)) := by
  unfold F_Model_goes
  rw [gl_eq, if_pos rfl, gs_up]
theorem m_goesN {c : Int32} (σ : gSt) (h : c ≠ 0) : F_Model_goes c σ = some ((0 : Int32), gs σ 28 (upd (σ 28) 2 c)) := by
  unfold F_Model_goes
  rw [gl_eq, if_neg h, gs_up]
theorem m_isOver (σ : gSt) : F_Model_isOver σ = some ((if σ 29 12 = 3 ∨ σ 29 13 = 3 then 1 else 0), σ) := by
  unfold F_Model_isOver
  by_cases g : σ 29 12 = 3
  · rw [if_pos g, if_pos (Or.inl g)]
  · rw [if_neg g]
    by_cases g2 : σ 29 13 = 3
    · rw [if_pos g2, if_pos (Or.inr g2)]
    · rw [if_neg g2, if_neg (fun h => h.elim g g2)]
