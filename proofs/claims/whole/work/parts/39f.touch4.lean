/-! a touch, both sides -/
theorem kind_or (k : Int32) : ((¬ k < 0 ∧ k ≤ 2 ∧ k ≠ -1) ∧ ∀ σ, F_Model_isIn k 0 2 σ = some ((1 : Int32), σ)) ∨ ((k < 0 ∨ ¬ k ≤ 2) ∧ ∀ σ, F_Model_isIn k 0 2 σ = some ((0 : Int32), σ)) := by
  by_cases h1 : k < 0
  · refine Or.inr ⟨Or.inl h1, fun σ => ?_⟩
    unfold F_Model_isIn; rw [if_pos h1]
  by_cases h2 : k ≤ 2
  · refine Or.inl ⟨⟨h1, h2, fun e => h1 (by rw [e]; decide)⟩, fun σ => ?_⟩
    unfold F_Model_isIn; rw [if_neg h1, if_neg (Int32.not_lt.mpr h2)]
  · refine Or.inr ⟨Or.inr h2, fun σ => ?_⟩
    unfold F_Model_isIn; rw [if_neg h1, if_pos (Int32.not_le.mp h2)]
theorem st_touchB {n : Nat} {σ : gSt} {v x k b : Int32} (h : INV n σ) (hn : n < 512) : ∃ σ', sh1 (F_Law_touch v x k b σ) (F_Model_touch v x k b) = some ((1 : Int32), σ') ∧ INV (n + 1) σ' := by
  have bad1 : F_Game_touch v x k b σ = some ((1 : Int32), (0 : Int32), σ) → F_Model_touch v x k b σ = F_Model_touch_B18 v x k b v x k b σ → ∃ σ', sh1 (F_Law_touch v x k b σ) (F_Model_touch v x k b) = some ((1 : Int32), σ') ∧ INV (n + 1) σ' := fun hG hM => by
    have hL : F_Law_touch v x k b σ = some ((1 : Int32), σ) := by
      unfold F_Law_touch
      rw [hG, gbh_ex (by decide), if_pos rfl]
    refine ⟨_, sh1_bad (b := 0) hL (by decide) ?_, INV_t h⟩
    rw [hM]
    unfold F_Model_touch_B18 F_Model_touch_B19 F_Model_touch_B71
    rcases kind_or k with ⟨_, g⟩ | ⟨_, g⟩
    · rw [g, gbi_some, if_pos rfl, m_goesN _ (by decide), gbi_some, if_pos rfl]
    · rw [g, gbi_some, if_pos rfl, m_goesN _ (by decide), gbi_some, if_pos rfl]
  have bad3 : F_Game_touch v x k b σ = some ((3 : Int32), (0 : Int32), σ) → F_Model_touch v x k b σ = F_Model_touch_B66 v x k b v x k b σ → ∃ σ', sh1 (F_Law_touch v x k b σ) (F_Model_touch v x k b) = some ((1 : Int32), σ') ∧ INV (n + 1) σ' := fun hG hM => by
    have hL : F_Law_touch v x k b σ = some ((3 : Int32), σ) := by
      unfold F_Law_touch
      rw [hG, gbh_ex (by decide), if_neg (by decide), if_neg (by decide), if_pos rfl]
    refine ⟨_, sh1_bad (b := 0) hL (by decide) ?_, INV_t h⟩
    rw [hM]
    unfold F_Model_touch_B66 F_Model_touch_B71
    rw [m_goesN _ (by decide), gbi_some, if_pos rfl]
  rcases team_or v with ⟨t, ht, rfl⟩ | ⟨c1, c2⟩
  · rcases shirt_or x with ⟨s, s1, s2, rfl⟩ | ⟨c1, c2⟩
    · have hM00 : ∀ τ, F_Model_touch (nI t) (nI s) k b τ = F_Model_touch_B19 (nI t) (nI s) k b (nI t) (nI s) k b 1 τ := fun τ => by
        unfold F_Model_touch
        rw [team_m ht, gbi_some, if_neg (by decide), shirt_m ⟨s1, s2⟩, gbi_some, if_neg (by decide)]
      rcases kind_or k with ⟨⟨k1, k2, k3⟩, g⟩ | ⟨kk, g⟩
      · rcases p_rly h with ⟨L, a1, a2, z0, hC, hR, hY, hA⟩ | ⟨z1, hA⟩
        · have hV := (hC.2.1.2 t ht).1
          have eP : F_Side_placeOf (1 + 1 + 3 * t) (nI s) σ = some (pFirst (pRow t (σ 29)) (nI s), σ) := by
            rw [p_placeOf (gSideOf gc1 ht), pFirst_SR (hC.1.2.2 t ht)]
          rcases p_in hV.1 (nI s) with ⟨q, q1, q2, q3, q4, q5⟩ | ⟨q3, q4, q5⟩
          · have hy : (σ 29 8 = 1 ∧ σ 29 4 = σ 29 2) ∨ (σ 29 8 = 0 ∧ σ 29 6 ≠ -1) := hY.2.2.2.2.2.1.imp (fun e => ⟨e.1, e.2.2⟩) (fun e => ⟨e.1, e.2.2⟩)
            have hM0 : ∀ τ : gSt, τ 29 = σ 29 → F_Model_touch (nI t) (nI s) k b τ = if vF (nI t) (nI s) k b q (26 + t) (σ 29) ≤ 0 then some (vF (nI t) (nI s) k b q (26 + t) (σ 29), gs (gs τ 28 (upd (τ 28) 2 0)) 29 (vTch (nI t) (nI s) k (σ 29))) else gbv (F_Model_ends (nI (1 - t)) (vF (nI t) (nI s) k b q (26 + t) (σ 29)) (gs (gs τ 28 (upd (τ 28) 2 0)) 29 (vTch (nI t) (nI s) k (σ 29)))) fun σ7 => some (vF (nI t) (nI s) k b q (26 + t) (σ 29), σ7) := fun τ hτ => by
              rw [hM00]
              unfold F_Model_touch_B19
              rw [g, gbi_some, if_neg (by decide), if_neg (by decide), hτ, hY.1, if_neg (by decide), m_place ht, gbi_some, hτ, q5, if_neg (nI_ne0 q1 (by omega)), m_touch71 ht τ ⟨q1, q2⟩ (by rw [hτ]; exact q5) (by rw [hτ]; exact hy), hτ, nI_1m ht]
            have hG0 : F_Game_touch (nI t) (nI s) k b σ = F_Game_touch_B89 (nI t) (nI s) k b (nI t) (nI s) k (vF (nI t) (nI s) k b q (26 + t) (σ 29)) σ := by
              unfold F_Game_touch
              rw [team_c ht, gbx_ok, shirt_c ⟨s1, s2⟩, gbx_ok, if_neg k1, if_pos k2, hA, gbx_ok, p_sideOf ht, gbr_some, eP, gbi_some, q4, if_neg (nI_ne1 (by omega)), p_rfault hY, gbi_some]
              unfold vF
              by_cases e : fR (nI t) (nI s) k (σ 29) = 0
              · rw [if_pos e, if_pos e, p_sfault (gSideOf gc1 ht) (hC.1.2.2 t ht) ⟨q1, q2⟩ q4, gbi_some]
              · rw [if_neg e, if_neg e]
            rcases vF_or (nI t) (nI s) k b q (26 + t) (σ 29) with e0 | e0
            · rw [e0] at hM0 hG0
              have hL : F_Law_touch (nI t) (nI s) k b σ = some ((0 : Int32), gs (gs σ 15 (upd (upd (upd (upd (σ 15) 4 (vRun (nI t) k (σ 29))) 1 (nI t)) 2 (nI s)) 3 k)) 31 (upd (σ 31) 0 0)) := by
                unfold F_Law_touch
                rw [hG0]
                unfold F_Game_touch_B89
                rw [if_pos rfl, p_note _ _ _ hY, gbv_some, gbh_ok, gl_eq, gs_up, gs_n (show (31 : Nat) ≠ 15 by decide)]
              have hM := hM0 (gs (gs σ 15 (upd (upd (upd (upd (σ 15) 4 (vRun (nI t) k (σ 29))) 1 (nI t)) 2 (nI s)) 3 k)) 31 (upd (σ 31) 0 0)) (by rw [gs_n (by decide), gs_n (by decide)])
              rw [if_pos (by decide)] at hM
              refine ⟨_, sh1_ok hL hM ?_ ?_, INV_touch h hY.1 ⟨t, ht, rfl⟩ k3 (fun i hi g => ?_) ?_ gs_s⟩
              · rw [gs_n (by decide), gs_s]; unfold upd; rw [if_pos rfl]
              · rw [gs_n (by decide), gs_n (by decide), gs_s]; unfold upd; rw [if_pos rfl]
              · rw [gs_n (by omega), gs_n (by omega), gs_n (by omega), gs_n g]
              · rw [gs_n (by decide), gs_n (by decide), gs_n (by decide), gs_s]
            · have hw : 1 - t < 2 := by omega
              generalize hc : vF (nI t) (nI s) k b q (26 + t) (σ 29) = c at *
              obtain ⟨y, hy⟩ : ∃ y, y = vTch (nI t) (nI s) k (σ 29) := ⟨_, rfl⟩
              rw [← hy] at hM0
              have yo : ∀ j, (j < 4 ∨ 9 ≤ j) → y j = σ 29 j := fun j hj => by rw [hy]; exact vTch_oth hj
              have hCy : CO 1 n σ y := CO_keep hC (fun _ _ _ => rfl) (fun j hj => yo j (by omega))
              have hRy : Rdg (σ 17) L (RR y) := hR.weak (RR_cong (fun j hj => yo j (by omega)))
              obtain ⟨σ', q1, q2, q3, q4, q5, q6, q7, q8, q9, q10, q11, q12⟩ := p_endRally (c := c) hw hCy hY.2.2.2.2.2.2.2.1 a2 (by omega) hRy (by omega)
              have hL : F_Law_touch (nI t) (nI s) k b σ = some ((0 : Int32), gs σ' 31 (upd (σ' 31) 0 c)) := by
                unfold F_Law_touch
                rw [hG0]
                unfold F_Game_touch_B89
                rw [if_neg (fun e => e0 (by rw [e]; decide)), nI_1m ht, q1, gbv_some, gbh_ok, gl_eq, gs_up]
              obtain ⟨r, r1, r2⟩ := (hCy.2.1.2 (1 - (1 - t)) (by omega)).2
              have e29 : (gs σ' 31 (upd (σ' 31) 0 c)) 29 = σ 29 := by rw [gs_n (by decide)]; exact q2 29 (by decide)
              have e30 : (gs σ' 31 (upd (σ' 31) 0 c)) 30 = σ 30 := by rw [gs_n (by decide)]; exact q2 30 (by decide)
              generalize hτ : gs σ' 31 (upd (σ' 31) 0 c) = τ at hL e29 e30
              have hE := m_ends (c := c) (r := r) hw (gs (gs τ 28 (upd (τ 28) 2 0)) 29 y) (by omega) (by rw [gs_s]; exact r2)
              have hM := hM0 τ e29
              rw [if_neg e0, hE, gbv_some] at hM
              refine ⟨_, sh1_ok hL hM ?_ ?_, ?_⟩
              · rw [gs_n (by decide), gs_n (by decide), gs_n (by decide), gs_s]; unfold upd; rw [if_pos rfl]
              · rw [gs_n (by decide), gs_n (by decide), gs_n (by decide), gs_n (by decide), ← hτ, gs_s]; unfold upd; rw [if_pos rfl]
              · refine INV_end hw h a1 hRy (by rw [yo 0 (by decide)]; exact z0) (yo 38 (by decide)) (yo 39 (by decide)) q3 q4 q5 q6 q7 q8 q9 q10 q11 q12 (fun k hk => ?_) ?_ ?_
                · rw [gs_n (by omega), gs_n (by omega), gs_n (by omega), gs_n (by omega), ← hτ, gs_n (by omega)]
                · rw [gs_s, gs_s]
                · rw [gs_n (by decide), gs_s, gs_s, gs_n (by decide), gs_n (by decide), e30]
          · refine bad3 ?_ ?_
            · unfold F_Game_touch
              rw [team_c ht, gbx_ok, shirt_c ⟨s1, s2⟩, gbx_ok, if_neg k1, if_pos k2, hA, gbx_ok, p_sideOf ht, gbr_some, eP, gbi_some, q4, if_pos rfl]
            · rw [hM00]
              unfold F_Model_touch_B19
              rw [g, gbi_some, if_neg (by decide), if_neg (by decide), hY.1, if_neg (by decide), m_place ht, gbi_some, q5, if_pos rfl]
        · refine bad3 ?_ ?_
          · unfold F_Game_touch
            rw [team_c ht, gbx_ok, shirt_c ⟨s1, s2⟩, gbx_ok, if_neg k1, if_pos k2, hA, gbx_ex (by decide)]
          · rw [hM00]
            unfold F_Model_touch_B19
            rw [g, gbi_some, if_neg (by decide), if_neg (by decide), z1, if_pos rfl]
      · have hL : F_Law_touch (nI t) (nI s) k b σ = some ((2 : Int32), σ) := by
          have hG : F_Game_touch (nI t) (nI s) k b σ = some ((2 : Int32), (0 : Int32), σ) := by
            unfold F_Game_touch F_Game_touch_B17
            rw [team_c ht, gbx_ok, shirt_c ⟨s1, s2⟩, gbx_ok]
            by_cases e : k < 0
            · rw [if_pos e]
            · rw [if_neg e, if_neg (kk.resolve_left e)]
          unfold F_Law_touch
          rw [hG, gbh_ex (by decide), if_neg (by decide), if_pos rfl]
        refine ⟨_, sh1_bad (b := 0) hL (by decide) ?_, INV_t h⟩
        rw [hM00]
        unfold F_Model_touch_B19 F_Model_touch_B71
        rw [g, gbi_some, if_neg (by decide), if_pos rfl, m_goesN _ (by decide), gbi_some, if_pos rfl]
    · refine bad1 ?_ ?_
      · unfold F_Game_touch
        rw [team_c ht, gbx_ok, c1, gbx_ex (by decide)]
      · unfold F_Model_touch
        rw [team_m ht, gbi_some, if_neg (by decide), c2, gbi_some, if_pos rfl]
  · refine bad1 ?_ ?_
    · unfold F_Game_touch
      rw [c1, gbx_ex (by decide)]
    · unfold F_Model_touch
      rw [c2, gbi_some, if_pos rfl]
theorem st_touch {n : Nat} {σ : gSt} {v x k w : Int32} (h : INV n σ) (hn : n < 512) : ∃ σ', F_case_touch v x k w σ = some ((1 : Int32), σ') ∧ INV (n + 1) σ' := by
  by_cases g : w = 0
  · have e : F_case_touch v x k w σ = sh1 (F_Law_touch v x k 0 σ) (F_Model_touch v x k 0) := by
      unfold F_case_touch sh1
      rw [if_pos g]
      simp only [if_pos g]
    rw [e]; exact st_touchB h hn
  · have e : F_case_touch v x k w σ = sh1 (F_Law_touch v x k 1 σ) (F_Model_touch v x k 1) := by
      unfold F_case_touch sh1
      rw [if_neg g]
      simp only [if_neg g]
    rw [e]; exact st_touchB h hn
