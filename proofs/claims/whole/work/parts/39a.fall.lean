/-! the ball falls -/
theorem p_rly {n : Nat} {σ : gSt} (h : INV n σ) : (∃ L, L ≤ 15 + n ∧ σ 16 1 = nI L ∧ σ 29 0 = 1 ∧ CO 1 n σ (σ 29) ∧ Rdg (σ 17) L (RR (σ 29)) ∧ RLY σ ∧ F_Game_checkRally σ = some ((0 : Int32), (0 : Int32), σ)) ∨ (σ 29 1 = 0 ∧ F_Game_checkRally σ = some ((3 : Int32), (0 : Int32), σ)) := by
  unfold F_Game_checkRally
  obtain ⟨_, _, _, _, L, a1, a2, h7⟩ := h
  rcases h7 with ⟨b0, b1, b2, b3 | b3⟩ | h7
  · exact Or.inr ⟨b3.1, by rw [b3.2.1, if_pos rfl]⟩
  · exact Or.inl ⟨L, a1, a2, b0, b1, b2, b3, by rw [b3.2.1, if_neg (by decide)]⟩
  · exact Or.inr ⟨h7.2.1, by rw [h7.2.2.1, if_pos rfl]⟩
theorem st_fall {n : Nat} {σ : gSt} {v : Int32} (h : INV n σ) (hn : n < 512) : ∃ σ', F_case_fall v σ = some ((1 : Int32), σ') ∧ INV (n + 1) σ' := by
  show ∃ σ', sh1 (F_Law_fall v σ) (F_Model_fall v) = some ((1 : Int32), σ') ∧ INV (n + 1) σ'
  have go : ((∀ τ, F_Game_fall v τ = F_Game_fall_B9 v v τ) ∧ (∀ τ, F_Model_fall v τ = F_Model_fall_B12 v v τ) ∧ (v = -1 ∨ ∃ t, t < 2 ∧ v = nI t)) → ∃ σ', sh1 (F_Law_fall v σ) (F_Model_fall v) = some ((1 : Int32), σ') ∧ INV (n + 1) σ' := by
    rintro ⟨g1, g2, g3⟩
    rcases p_rly h with ⟨L, a1, a2, z0, hC, hR, hY, hA⟩ | ⟨z1, hA⟩
    · have good : ∀ (t : Nat) (c : Int32), t < 2 → (∀ σ', F_Game_endRally (nI (1 - t)) c σ = some σ' → F_Game_fall v σ = some ((0 : Int32), nI (1 - t), σ')) → (∀ τ τ' : gSt, τ 29 = σ 29 → F_Model_ends (nI (1 - t)) c (gs τ 28 (upd (τ 28) 2 0)) = some τ' → F_Model_fall v τ = some (nI (1 - t), τ')) → ∃ σ', sh1 (F_Law_fall v σ) (F_Model_fall v) = some ((1 : Int32), σ') ∧ INV (n + 1) σ' := by
        intro t c ht hG hM
        have hw : 1 - t < 2 := by omega
        obtain ⟨σ', q1, q2, q3, q4, q5, q6, q7, q8, q9, q10, q11, q12⟩ := p_endRally (c := c) hw hC hY.2.2.2.2.2.2.2.1 a2 (by omega) hR (by omega)
        have hL : F_Law_fall v σ = some ((0 : Int32), gs σ' 31 (upd (σ' 31) 0 (nI (1 - t)))) := by
          unfold F_Law_fall
          rw [hG σ' q1, gbh_ok, gl_eq, gs_up]
        obtain ⟨r, r1, r2⟩ := (hC.2.1.2 (1 - (1 - t)) (by omega)).2
        have e29 : (gs σ' 31 (upd (σ' 31) 0 (nI (1 - t)))) 29 = σ 29 := by rw [gs_n (by decide)]; exact q2 29 (by decide)
        have e30 : (gs σ' 31 (upd (σ' 31) 0 (nI (1 - t)))) 30 = σ 30 := by rw [gs_n (by decide)]; exact q2 30 (by decide)
        generalize hτ : gs σ' 31 (upd (σ' 31) 0 (nI (1 - t))) = τ at hL e29 e30
        have hE := m_ends (c := c) (r := r) hw (gs τ 28 (upd (τ 28) 2 0)) (by omega) (by rw [gs_n (by decide), e29]; exact r2)
        refine ⟨_, sh1_ok hL (hM τ _ e29 hE) ?_ ?_, ?_⟩
        · rw [gs_n (by decide), gs_n (by decide), gs_s]; unfold upd; rw [if_pos rfl]
        · rw [gs_n (by decide), gs_n (by decide), gs_n (by decide), ← hτ, gs_s]; unfold upd; rw [if_pos rfl]
        · refine INV_end hw h a1 hR z0 rfl rfl q3 q4 q5 q6 q7 q8 q9 q10 q11 q12 (fun k hk => ?_) ?_ ?_
          · rw [gs_n (by omega), gs_n (by omega), gs_n (by omega), ← hτ, gs_n (by omega)]
          · rw [gs_s, gs_n (by decide), e29]
          · rw [gs_n (by decide), gs_s, gs_n (by decide), gs_n (by decide), e29, e30]
      obtain ⟨t4, ht4, e4⟩ := hY.2.2.2.2.2.2.2.2
      rcases g3 with rfl | ⟨t, ht, rfl⟩
      · refine good t4 7 ht4 (fun σ' hσ => ?_) (fun τ τ' hτ hE => ?_)
        · rw [g1]
          unfold F_Game_fall_B9 F_Game_fall_B29 F_Game_fall_B46
          rw [hA, gbx_ok, if_pos rfl, if_pos rfl, hY.2.2.1, e4, nI_1m ht4, hσ, gbv_some]
        · rw [g2]
          unfold F_Model_fall_B12 F_Model_fall_B17 F_Model_fall_B42 F_Model_fall_B66 F_Model_fall_B82
          rw [if_neg (by decide), hτ, if_pos hY.1, m_goes0, gbi_some, if_neg (by decide), if_pos rfl, gl_eq, if_pos rfl, gs_n (by decide), hτ, e4, nI_1m ht4, hE, gbv_some]
      · have hv : ¬ nI t = -1 := nI_ne1 (by omega)
        refine good t 6 ht (fun σ' hσ => ?_) (fun τ τ' hτ hE => ?_)
        · rw [g1]
          unfold F_Game_fall_B9 F_Game_fall_B29 F_Game_fall_B46
          rw [hA, gbx_ok, if_neg hv, if_neg hv, nI_1m ht, hσ, gbv_some]
        · rw [g2]
          unfold F_Model_fall_B12 F_Model_fall_B17 F_Model_fall_B42 F_Model_fall_B66 F_Model_fall_B82
          rw [if_neg (by decide), hτ, if_pos hY.1, m_goes0, gbi_some, if_neg (by decide), if_neg hv, gl_eq, if_neg hv, nI_1m ht, hE, gbv_some]
    · have hL : F_Law_fall v σ = some ((2 : Int32), σ) := by
        unfold F_Law_fall
        rw [g1]
        unfold F_Game_fall_B9
        rw [hA, gbx_ex (by decide), gbh_ex (by decide), if_neg (by decide), if_pos rfl]
      refine ⟨_, sh1_bad (b := 0) hL (by decide) ?_, INV_t h⟩
      rw [g2]
      unfold F_Model_fall_B12 F_Model_fall_B17 F_Model_fall_B42
      rw [if_neg (by decide), z1, if_neg (by decide), m_goesN _ (by decide), gbi_some, if_pos rfl]
  by_cases g : v = -1
  · refine go ⟨fun τ => ?_, fun τ => ?_, Or.inl g⟩
    · unfold F_Game_fall
      rw [if_pos g]
    · unfold F_Model_fall
      rw [if_pos g]
  · rcases team_or v with ⟨t, ht, rfl⟩ | ⟨c1, c2⟩
    · refine go ⟨fun τ => ?_, fun τ => ?_, Or.inr ⟨t, ht, rfl⟩⟩
      · unfold F_Game_fall
        rw [if_neg g, team_c ht, gbx_ok]
      · unfold F_Model_fall
        rw [if_neg g, team_m ht, gbi_some, if_neg (by decide)]
    · have hL : F_Law_fall v σ = some ((1 : Int32), σ) := by
        unfold F_Law_fall F_Game_fall
        rw [if_neg g, c1, gbx_ex (by decide), gbh_ex (by decide), if_pos rfl]
      refine ⟨_, sh1_bad (b := 0) hL (by decide) ?_, INV_t h⟩
      unfold F_Model_fall F_Model_fall_B17 F_Model_fall_B42
      rw [if_neg g, c2, gbi_some, if_pos rfl, if_pos rfl, m_goesN _ (by decide), gbi_some, if_pos rfl]
