/-! the net -/
theorem st_net1 {n : Nat} {σ : gSt} {v : Int32} (h : INV n σ) (hn : n < 512) : ∃ σ', sh2 (F_Law_net v 1 σ) (F_Model_net v 1) = some ((1 : Int32), σ') ∧ INV (n + 1) σ' := by
  rcases team_or v with ⟨t, ht, rfl⟩ | ⟨c1, c2⟩
  · rcases p_rly h with ⟨L, a1, a2, z0, hC, hR, hY, hA⟩ | ⟨z1, hA⟩
    · have hw : 1 - t < 2 := by omega
      obtain ⟨σ', q1, q2, q3, q4, q5, q6, q7, q8, q9, q10, q11, q12⟩ := p_endRally (c := 8) hw hC hY.2.2.2.2.2.2.2.1 a2 (by omega) hR (by omega)
      have hL : F_Law_net (nI t) 1 σ = some ((0 : Int32), gs σ' 31 (upd (σ' 31) 0 1)) := by
        unfold F_Law_net F_Game_net
        rw [team_c ht, gbx_ok, hA, gbx_ok, if_neg (by decide), nI_1m ht, q1, gbv_some, if_pos (by decide), gbh_ok, if_neg (by decide), gl_eq, gs_up]
      obtain ⟨r, r1, r2⟩ := (hC.2.1.2 (1 - (1 - t)) (by omega)).2
      have e29 : (gs σ' 31 (upd (σ' 31) 0 1)) 29 = σ 29 := by rw [gs_n (by decide)]; exact q2 29 (by decide)
      have e30 : (gs σ' 31 (upd (σ' 31) 0 1)) 30 = σ 30 := by rw [gs_n (by decide)]; exact q2 30 (by decide)
      generalize hτ : gs σ' 31 (upd (σ' 31) 0 1) = τ at hL e29 e30
      have hE := m_ends (c := 8) (r := r) hw (gs τ 28 (upd (τ 28) 2 0)) (by omega) (by rw [gs_n (by decide), e29]; exact r2)
      have hM : ∀ τ', F_Model_ends (nI (1 - t)) 8 (gs τ 28 (upd (τ 28) 2 0)) = some τ' → F_Model_net (nI t) 1 τ = some ((1 : Int32), τ') := fun τ' hE => by
        unfold F_Model_net F_Model_net_B27
        rw [team_m ht, gbi_some, if_neg (by decide), e29, if_pos hY.1, m_goes0, gbi_some, if_neg (by decide), if_neg (by decide), nI_1m ht, hE, gbv_some, if_pos (by decide)]
      refine ⟨_, sh2_ok hL (hM _ hE) ?_ ?_ (Or.inr rfl), ?_⟩
      · rw [gs_n (by decide), gs_n (by decide), gs_s]; unfold upd; rw [if_pos rfl]
      · rw [gs_n (by decide), gs_n (by decide), gs_n (by decide), ← hτ, gs_s]; unfold upd; rw [if_pos rfl]
      · refine INV_end hw h a1 hR z0 rfl rfl q3 q4 q5 q6 q7 q8 q9 q10 q11 q12 (fun k hk => ?_) ?_ ?_
        · rw [gs_n (by omega), gs_n (by omega), gs_n (by omega), ← hτ, gs_n (by omega)]
        · rw [gs_s, gs_n (by decide), e29]
        · rw [gs_n (by decide), gs_s, gs_n (by decide), gs_n (by decide), e29, e30]
    · have hL : F_Law_net (nI t) 1 σ = some ((2 : Int32), σ) := by
        unfold F_Law_net F_Game_net
        rw [team_c ht, gbx_ok, hA, gbx_ex (by decide), gbh_ex (by decide), if_neg (by decide), if_pos rfl]
      refine ⟨_, sh2_bad (b := 0) hL (by decide) ?_, INV_t h⟩
      unfold F_Model_net F_Model_net_B27
      rw [team_m ht, gbi_some, if_neg (by decide), z1, if_neg (by decide), m_goesN _ (by decide), gbi_some, if_pos rfl]
  · have hL : F_Law_net v 1 σ = some ((1 : Int32), σ) := by
      unfold F_Law_net F_Game_net
      rw [c1, gbx_ex (by decide), gbh_ex (by decide), if_pos rfl]
    refine ⟨_, sh2_bad (b := 0) hL (by decide) ?_, INV_t h⟩
    unfold F_Model_net F_Model_net_B27
    rw [c2, gbi_some, if_pos rfl, m_goesN _ (by decide), gbi_some, if_pos rfl]
/-- the net's note, kept in both -/
theorem INV_note {n t : Nat} {σ W9 : gSt} (ht : t < 2) (h : INV n σ) (z1 : σ 29 1 = 1) (hk : ∀ k, k < 18 → k ≠ 15 → W9 k = σ k) (w15 : W9 15 = upd (σ 15) (5 + t) 1) (w29 : W9 29 = upd (σ 29) (38 + t) 1) : INV (n + 1) W9 := by
  have hr := p_rly h
  obtain ⟨i1, i2, i3, i4, _⟩ := h
  rcases hr with ⟨L, a1, a2, z0, hC, hR, hY, hA⟩ | ⟨z9, _⟩
  · have zo : ∀ j, j ≠ 38 + t → W9 29 j = σ 29 j := fun j g => by rw [w29]; unfold upd; rw [if_neg g]
    have ro : ∀ j, j ≠ 5 + t → W9 15 j = σ 15 j := fun j g => by rw [w15]; unfold upd; rw [if_neg g]
    have ws : W9 29 (38 + t) = 1 := by rw [w29]; unfold upd; rw [if_pos rfl]
    have rs : W9 15 (5 + t) = 1 := by rw [w15]; unfold upd; rw [if_pos rfl]
    obtain ⟨y1, y2, y3, y4, y5, y6, y7, y8, y9⟩ := hY
    have m41 : σ 0 6 = -1 := by
      rcases i4 with i4 | i4
      · exact i4.2
      · exact absurd (i4.1.symm.trans y7) (by decide)
    refine ⟨by rw [hk 0 (by decide) (by decide), zo 3 (by omega)]; exact i1, ?_, ?_, Or.inl ⟨by rw [zo 41 (by omega)]; exact y7, by rw [hk 0 (by decide) (by decide)]; exact m41⟩, L, by omega, by rw [hk 16 (by decide) (by decide)]; exact a2, Or.inl ⟨by rw [zo 0 (by omega)]; exact z0, CO_keep (hC.mono (by omega)) (fun i x y => hk i (by omega) (by omega)) (fun j hj => zo j (by omega)), ?_, Or.inr ⟨by rw [zo 1 (by omega)]; exact y1, by rw [ro 0 (by omega)]; exact y2, by rw [ro 1 (by omega), zo 4 (by omega)]; exact y3, by rw [ro 2 (by omega), zo 5 (by omega)]; exact y4, by rw [ro 4 (by omega), zo 7 (by omega)]; exact y5, ?_, by rw [zo 41 (by omega)]; exact y7, fun t' ht' => by rw [hk _ (by omega) (by omega)]; exact y8 t' ht', by rw [zo 4 (by omega)]; exact y9⟩⟩⟩
    · rcases two ht with rfl | rfl
      · exact ⟨rs.trans ws.symm, Or.inr ws⟩
      · rw [ro 5 (by decide), zo 38 (by decide)]; exact i2
    · rcases two ht with rfl | rfl
      · rw [ro 6 (by decide), zo 39 (by decide)]; exact i3
      · exact ⟨rs.trans ws.symm, Or.inr ws⟩
    · rw [hk 17 (by decide) (by decide)]
      exact hR.weak (RR_cong (fun j hj => zo j (by omega)))
    · rw [ro 3 (by omega), zo 8 (by omega), zo 4 (by omega), zo 2 (by omega), zo 6 (by omega)]
      exact y6
  · exact absurd (z9.symm.trans z1) (by decide)
theorem st_net0 {n : Nat} {σ : gSt} {v : Int32} (h : INV n σ) : ∃ σ', sh2 (F_Law_net v 0 σ) (F_Model_net v 0) = some ((1 : Int32), σ') ∧ INV (n + 1) σ' := by
  rcases team_or v with ⟨t, ht, rfl⟩ | ⟨c1, c2⟩
  · have e38 : (38 : Int32) + nI t = nI (38 + t) := nI_add 38 t
    rcases p_rly h with ⟨L, a1, a2, z0, hC, hR, hY, hA⟩ | ⟨z1, hA⟩
    · have hN : F_Rally_noteNet (nI t) σ = some (gs σ 15 (upd (σ 15) (5 + t) 1)) := by
        unfold F_Rally_noteNet
        rcases two ht with rfl | rfl
        · rw [if_neg (by decide), gl_eq, gs_up]
        · rw [if_pos (by decide), gl_eq, gs_up]
      have hL : F_Law_net (nI t) 0 σ = some ((0 : Int32), gs (gs σ 15 (upd (σ 15) (5 + t) 1)) 31 (upd (σ 31) 0 0)) := by
        unfold F_Law_net F_Game_net
        rw [team_c ht, gbx_ok, hA, gbx_ok, if_pos rfl, hN, gbv_some, if_pos (by decide), gbh_ok, if_pos rfl, gl_eq, gs_up, gs_n (show (31 : Nat) ≠ 15 by decide)]
      have hM : ∀ τ : gSt, τ 29 = σ 29 → F_Model_net (nI t) 0 τ = some ((0 : Int32), gs (gs τ 28 (upd (τ 28) 2 0)) 29 (upd (σ 29) (38 + t) 1)) := fun τ hτ => by
        unfold F_Model_net F_Model_net_B27
        rw [team_m ht, gbi_some, if_neg (by decide), hτ, if_pos hY.1, m_goes0, gbi_some, if_neg (by decide), if_pos rfl, gif e38 (by omega), gl_eq, if_pos (by decide), gcl e38 (by omega), gs_up, gs_n (show (29 : Nat) ≠ 28 by decide), hτ]
      refine ⟨_, sh2_ok hL (hM _ (by rw [gs_n (by decide), gs_n (by decide)])) ?_ ?_ (Or.inl rfl), INV_note ht h hY.1 (fun k hk g => ?_) ?_ gs_s⟩
      · rw [gs_n (by decide), gs_s]; unfold upd; rw [if_pos rfl]
      · rw [gs_n (by decide), gs_n (by decide), gs_s]; unfold upd; rw [if_pos rfl]
      · rw [gs_n (by omega), gs_n (by omega), gs_n (by omega), gs_n g]
      · rw [gs_n (by omega), gs_n (by omega), gs_n (by omega), gs_s]
    · have hL : F_Law_net (nI t) 0 σ = some ((2 : Int32), σ) := by
        unfold F_Law_net F_Game_net
        rw [team_c ht, gbx_ok, hA, gbx_ex (by decide), gbh_ex (by decide), if_neg (by decide), if_pos rfl]
      refine ⟨_, sh2_bad (b := 0) hL (by decide) ?_, INV_t h⟩
      unfold F_Model_net F_Model_net_B27
      rw [team_m ht, gbi_some, if_neg (by decide), z1, if_neg (by decide), m_goesN _ (by decide), gbi_some, if_pos rfl]
  · have hL : F_Law_net v 0 σ = some ((1 : Int32), σ) := by
      unfold F_Law_net F_Game_net
      rw [c1, gbx_ex (by decide), gbh_ex (by decide), if_pos rfl]
    refine ⟨_, sh2_bad (b := 0) hL (by decide) ?_, INV_t h⟩
    unfold F_Model_net F_Model_net_B27
    rw [c2, gbi_some, if_pos rfl, m_goesN _ (by decide), gbi_some, if_pos rfl]
theorem st_net {n : Nat} {σ : gSt} {v w : Int32} (h : INV n σ) (hn : n < 512) : ∃ σ', F_case_net v w σ = some ((1 : Int32), σ') ∧ INV (n + 1) σ' := by
  by_cases g : w = 0
  · have e : F_case_net v w σ = sh2 (F_Law_net v 0 σ) (F_Model_net v 0) := by
      unfold F_case_net sh2
      rw [if_pos g]
      simp only [if_pos g]
    rw [e]; exact st_net0 h
  · have e : F_case_net v w σ = sh2 (F_Law_net v 1 σ) (F_Model_net v 1) := by
      unfold F_case_net sh2
      rw [if_neg g]
      simp only [if_neg g]
    rw [e]; exact st_net1 h hn
