/-! serving -/
theorem p_btw {n : Nat} {σ : gSt} (h : INV n σ) : (σ 29 0 = 1 ∧ σ 29 1 = 0 ∧ (∃ L, L ≤ 15 + n ∧ σ 16 1 = nI L ∧ CO 1 n σ (σ 29) ∧ Rdg (σ 17) L (RR (σ 29)) ∧ BTW σ) ∧ F_Game_checkBetweenRallies σ = some ((0 : Int32), (0 : Int32), σ)) ∨ (¬ (σ 29 0 = 1 ∧ σ 29 1 = 0) ∧ F_Game_checkBetweenRallies σ = some ((3 : Int32), (0 : Int32), σ)) := by
  unfold F_Game_checkBetweenRallies F_Game_checkBetweenRallies_B20
  rcases p_isSetOn h with ⟨z0, hS⟩ | ⟨z0, hS⟩
  · rw [hS, gbi_some, if_neg (by decide)]
    obtain ⟨L, a1, a2, b0, b1, b2, b3⟩ := INV_on h z0
    rcases b3 with b3 | b3
    · rw [b3.2.1, if_pos rfl]
      exact Or.inl ⟨z0, b3.1, ⟨L, a1, a2, b1, b2, b3⟩, rfl⟩
    · rw [b3.2.1, if_neg (by decide)]
      refine Or.inr ⟨fun q => ?_, rfl⟩
      exact absurd (b3.1.symm.trans q.2) (by decide)
  · rw [hS, gbi_some, if_pos rfl]
    refine Or.inr ⟨fun q => ?_, rfl⟩
    exact absurd (z0.symm.trans q.1) (by decide)
def vSv (x : Int32) (z : vRow) : vRow := upd (upd (upd (upd (upd (upd (upd (upd (upd z 41 0) 1 1) 4 (z 2)) 5 x) 6 0) 7 0) 8 1) 38 0) 39 0
theorem vSv_oth {x : Int32} {z : vRow} {j : Nat} (h : j = 0 ∨ j = 2 ∨ j = 3 ∨ (9 ≤ j ∧ j < 38) ∨ j = 40 ∨ 42 ≤ j) : vSv x z j = z j := by
  unfold vSv upd
  rw [if_neg (by omega), if_neg (by omega), if_neg (by omega), if_neg (by omega), if_neg (by omega), if_neg (by omega), if_neg (by omega), if_neg (by omega), if_neg (by omega)]
theorem m_serve142 {a x l4 s0 : Int32} (hl : l4 = 0 ∨ l4 = 1) (τ : gSt) : F_Model_serve_B142 a x l4 s0 9 τ = some (l4, gs τ 29 (vSv x (upd (τ 29) 9 s0))) := by
  unfold F_Model_serve_B142
  rw [gif (show (9 : Int32) = nI 9 from rfl) (by decide), gcl (show (9 : Int32) = nI 9 from rfl) (by decide)]
  simp only [gl_eq, gs_up, gs_s, gs_gs]
  rw [if_pos hl]
  rfl
/-- the model's serve, where it goes -/
theorem m_serve {s srv q : Nat} (hs : srv < 2) (τ : gSt) (hsh : 1 ≤ s ∧ s ≤ 20) (z0 : τ 29 0 = 1) (z1 : τ 29 1 = 0) (z2 : τ 29 2 = nI srv) (hU : pU (pRow srv (τ 29))) (hq : 1 ≤ q ∧ q ≤ 6) (hp : pLast (pRow srv (τ 29)) (nI s) = nI q) (hf : pRow srv (τ 29) q = nI s) :
    F_Model_serve (nI s) τ = some ((if τ 29 (14 + 6 * srv) = nI s then 1 else 0), gs (gs τ 28 (upd (τ 28) 2 0)) 29 (vSv (nI s) (vServe srv (nI s) (τ 29)))) := by
  have e10 : (10 : Int32) + nI srv = nI (10 + srv) := nI_add 10 srv
  have h1 : pRow srv (τ 29) 1 = τ 29 (14 + 6 * srv) := by unfold pRow; rw [show 13 + 6 * srv + 1 = 14 + 6 * srv by omega]
  unfold F_Model_serve
  rw [shirt_m hsh, gbi_some, if_neg (by decide), if_pos z0, if_pos z1, z2, m_place hs, gbi_some, hp, if_neg (show ¬ nI q ≤ 0 from nI_nle (by omega) (by omega))]
  unfold F_Model_serve_B47 F_Model_serve_B66
  rw [if_neg (by decide), if_neg (by decide), m_goes0, gbi_some, if_neg (by decide), gs_n (by decide), z2, m_place hs, gbi_some, gs_n (by decide), hp]
  have main9 : ∀ l4 : Int32, (l4 = 0 ∨ l4 = 1) → F_Model_serve_B135 (nI s) (nI s) l4 9 (gs τ 28 (upd (τ 28) 2 0)) = some (l4, gs (gs τ 28 (upd (τ 28) 2 0)) 29 (vSv (nI s) (τ 29))) := fun l4 hl => by
    unfold F_Model_serve_B135
    rw [m_serve142 hl, gs_n (by decide), upd_self]
  by_cases g : q = 1
  · subst g
    rw [if_pos (show nI 1 = (1 : Int32) from rfl)]
    unfold F_Model_serve_B94
    rw [if_neg (by decide), main9 1 (Or.inr rfl), ← h1, if_pos hf]
    have eV : vServe srv (nI s) (τ 29) = τ 29 := by unfold vServe; rw [← h1, if_pos hf]
    rw [eV]
  · have hne : ¬ τ 29 (14 + 6 * srv) = nI s := fun e => g (hU q 1 hq.1 hq.2 (by decide) (by decide) (by rw [hf, h1, e]))
    rw [if_neg (show ¬ nI q = (1 : Int32) from fun e => g ((nI_eq (by omega) (by decide)).mp (show nI q = nI 1 from e))), if_neg hne]
    unfold F_Model_serve_B94
    rw [if_pos rfl, gs_n (by decide)]
    by_cases g9 : τ 29 9 = -1
    · rw [if_pos g9, z2, gif e10 (by omega), gcl e10 (by omega), m_serve142 (Or.inl rfl), gs_n (by decide)]
      have eV : vServe srv (nI s) (τ 29) = upd (τ 29) 9 (τ 29 (10 + srv)) := by unfold vServe; rw [if_neg hne, if_pos g9]
      rw [eV]
    · rw [if_neg g9, main9 0 (Or.inl rfl)]
      have eV : vServe srv (nI s) (τ 29) = τ 29 := by unfold vServe; rw [if_neg hne, if_neg g9]
      rw [eV]
