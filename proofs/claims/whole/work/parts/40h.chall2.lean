/-! a challenge, both sides -/
theorem p_noted {t : Nat} (ht : t < 2) {σ : gSt} {z : vRow} (h0 : σ 15 5 = z 38 ∧ (z 38 = 0 ∨ z 38 = 1)) (h1 : σ 15 6 = z 39 ∧ (z 39 = 0 ∨ z 39 = 1)) : F_Rally_isNetNotedOf (nI (1 - t)) σ = some (z (39 - t), σ) ∧ (z (39 - t) = 0 ∨ z (39 - t) = 1) := by
  unfold F_Rally_isNetNotedOf
  rcases two ht with rfl | rfl
  · rw [if_pos (show nI (1 - 0) = (1 : Int32) by decide), h1.1]
    refine ⟨?_, h1.2⟩
    first | rw [if_pos h1.2] | rfl
  · rw [if_neg (show ¬ nI (1 - 1) = (1 : Int32) by decide), h0.1]
    refine ⟨?_, h0.2⟩
    first | rw [if_pos h0.2] | rfl
theorem st_challenge {n : Nat} {σ : gSt} {v : Int32} (h : INV n σ) (hn : n < 512) : ∃ σ', F_case_challenge v σ = some ((1 : Int32), σ') ∧ INV (n + 1) σ' := by
  show ∃ σ', sh2 (F_Law_challenge v σ) (F_Model_challenge v) = some ((1 : Int32), σ') ∧ INV (n + 1) σ'
  have bad2 : F_Game_challenge v σ = some ((3 : Int32), (0 : Int32), σ) → F_Model_challenge v σ = some ((0 : Int32), gs σ 28 (upd (σ 28) 2 2)) → ∃ σ', sh2 (F_Law_challenge v σ) (F_Model_challenge v) = some ((1 : Int32), σ') ∧ INV (n + 1) σ' := fun hG hM => by
    have hL : F_Law_challenge v σ = some ((2 : Int32), σ) := by
      unfold F_Law_challenge
      rw [hG, gbh_ex (by decide), if_neg (by decide), if_pos rfl]
    exact ⟨_, sh2_bad (b := 0) hL (by decide) hM, INV_t h⟩
  rcases team_or v with ⟨t, ht, rfl⟩ | ⟨c1, c2⟩
  · have e39 : (39 : Int32) - nI t = nI (39 - t) := by rcases two ht with rfl | rfl <;> decide
    have e34 : (34 : Int32) + nI t = nI (34 + t) := nI_add 34 t
    obtain ⟨j1, j2, j3, j4⟩ := (INV_side h t ht).2
    obtain ⟨i1, i2, i3, i4, _⟩ := id h
    have hG28 : F_Game_challenge_B28 (nI t) σ = some ((3 : Int32), (0 : Int32), σ) := rfl
    rcases i4 with ⟨z41, s6⟩ | ⟨z41, s6, hK⟩
    · refine bad2 ?_ ?_
      · unfold F_Game_challenge
        rw [team_c ht, gbx_ok, p_sideOf ht, gbr_some, s6, if_neg (fun e => nI_ne1 (show t < 100 by omega) e.symm), hG28]
      · rw [m_ch0 ht σ rfl, if_neg (by rw [z41]; decide)]
    · by_cases z40 : σ 29 40 = nI t
      · obtain ⟨c, d1, d2⟩ := j4
        rcases ch_pos d1 with ⟨k1, k2⟩ | ⟨k1, k2⟩
        · refine bad2 ?_ ?_
          · unfold F_Game_challenge
            rw [team_c ht, gbx_ok, p_sideOf ht, gbr_some, s6, if_pos z40, j3, d2, if_pos k1, hG28]
          · rw [m_ch0 ht σ rfl, if_pos z41, if_pos z40, d2, if_pos k2]
        · obtain ⟨hN, hN2⟩ := p_noted ht i2 i3
          have hM0 : ∀ τ : gSt, τ 29 = σ 29 → F_Model_challenge (nI t) τ = F_Model_challenge_B67 (nI t) (nI t) 0 τ := fun τ hτ => by
            rw [m_ch0 ht τ hτ, if_pos z41, if_pos z40, d2, if_neg k2]
          rcases hN2 with r0 | r0
          · rw [r0] at hN
            obtain ⟨σ3, hσ3⟩ : ∃ σ3, σ3 = gup (gup σ (1 + 1 + 3 * t) 8 (σ 29 (34 + t) - 1)) 0 6 (-1) := ⟨_, rfl⟩
            have hL : F_Law_challenge (nI t) σ = some ((0 : Int32), gs σ3 31 (upd (σ3 31) 0 0)) := by
              unfold F_Law_challenge F_Game_challenge
              rw [team_c ht, gbx_ok, p_sideOf ht, gbr_some, s6, if_pos z40, j3, if_neg (by rw [d2]; exact k1), nI_1m ht, hN, gbi_some, if_pos rfl, j3, gl_eq, gl_eq, ← hσ3, if_pos (Or.inl rfl), gbh_ok, if_pos rfl, gl_eq, gs_up]
            have hM : ∀ τ : gSt, τ 29 = σ 29 → F_Model_challenge (nI t) τ = some ((0 : Int32), gs (gs τ 28 (upd (τ 28) 2 0)) 29 (upd (upd (σ 29) 41 0) (34 + t) (σ 29 (34 + t) - 1))) := fun τ hτ => by
              have u34 : upd (σ 29) 41 0 (34 + t) = σ 29 (34 + t) := by unfold upd; rw [if_neg (by omega)]
              rw [hM0 τ hτ]
              unfold F_Model_challenge_B67
              rw [m_goes0, gbi_some, if_neg (by decide), gif e39 (by omega), gcl e39 (by omega), gs_n (show (29 : Nat) ≠ 28 by decide), hτ, if_pos r0, gs_up, gs_n (show (29 : Nat) ≠ 28 by decide), hτ, gl_eq, gif e34 (by omega), gif e34 (by omega), gcl e34 (by omega), gs_up, gs_s, gs_gs, u34, gl_eq]
            have f3 : ∀ k, k ≠ 0 → k ≠ 1 + 1 + 3 * t → σ3 k = σ k := fun k g1 g2 => by rw [hσ3, gup_oth g1, gup_oth g2]
            refine ⟨_, sh2_ok hL (hM _ (by rw [gs_n (by decide)]; exact f3 29 (by omega) (by omega))) ?_ ?_ (Or.inl rfl), INV_vain ht h z41 (by rw [d2]; exact k1) (fun j g => ?_) ?_ ?_ (fun k g1 g2 g3 => ?_) gs_s⟩
            · rw [gs_n (by decide), gs_s]; unfold upd; rw [if_pos rfl]
            · rw [gs_n (by decide), gs_n (by decide), gs_s]; unfold upd; rw [if_pos rfl]
            · rw [gs_n (by decide), gs_n (by decide), gs_n (by decide), hσ3, gup_n (by omega), gup_k (by omega)]
            · rw [gs_n (by decide), gs_n (by decide), gs_n (by decide), hσ3, gup_s]
            · rw [gs_n (by omega), gs_n (by omega), gs_n (by omega), hσ3, gup_oth (by omega), gup_row]
            · rw [gs_n (by omega), gs_n (by omega), gs_n (by omega), f3 k g1 g2]
          · rw [r0] at hN
            obtain ⟨M, m1, m2, m3, m4, m5, m6, m7, m8, _⟩ := hK
            obtain ⟨y, hy⟩ : ∃ y, y = vCopy (σ 30) (σ 29) := ⟨_, rfl⟩
            have yo : ∀ j, j < 92 → y j = σ 30 j := fun j g => by rw [hy]; unfold vCopy; rw [if_pos g]
            have hC8 : CO 8 n σ y := CO_keep m3 (fun _ _ _ => rfl) (fun j hj => yo j (by omega))
            obtain ⟨σ13, p1, p2, p3, p4⟩ := CO_copy gc1 gc8 (Or.inl (by decide)) hC8 m4
            obtain ⟨σ14, hσ14⟩ : ∃ σ14, σ14 = gup σ13 16 1 (nI M) := ⟨_, rfl⟩
            have f14 : ∀ k, k ≠ 16 → σ14 k = σ13 k := fun k g => by rw [hσ14, gup_oth g]
            have hC1 : CO 1 n σ14 y := CO_keep p2 (fun i x w => f14 i (by omega)) (fun _ _ => rfl)
            have e17 : σ14 17 = σ 17 := (f14 17 (by decide)).trans (p4 17 (by decide))
            have e15 : σ14 15 = σ 15 := (f14 15 (by decide)).trans (p4 15 (by decide))
            have hRy : Rdg (σ 17) M (RR y) := m8.weak (fun τ hτ => by
              refine ⟨CS_cong hτ.1 (yo 2 (by decide)) (yo 9 (by decide)) (fun t ht j hj => yo j (by unfold cIx at hj; omega)), fun r hr => ?_⟩
              rw [yo _ (by omega), yo _ (by omega)]
              exact hτ.2 r hr)
            obtain ⟨σ', q1, q2, q3, q4, q5, q6, q7, q8, q9, q10, q11, q12⟩ := p_endRally (c := 8) ht hC1 (fun t' ht' => by rw [f14 _ (by omega)]; exact p3 t' ht') (show σ14 16 1 = nI M by rw [hσ14, gup_s]) (by omega) (by rw [e17]; exact hRy) (by omega)
            obtain ⟨σ3, hσ3⟩ : ∃ σ3, σ3 = gup σ' 0 6 (-1) := ⟨_, rfl⟩
            have f3 : ∀ k, k ≠ 0 → σ3 k = σ' k := fun k g => by rw [hσ3, gup_oth g]
            have e05 : σ13 0 5 = nI M := by rw [p4 0 (by decide)]; exact m2
            have hcut : F_Sheet_cutTo (nI M) σ13 = some σ14 := by
              unfold F_Sheet_cutTo
              rw [gl_eq, ← hσ14]
            have hL : F_Law_challenge (nI t) σ = some ((0 : Int32), gs σ3 31 (upd (σ3 31) 0 1)) := by
              unfold F_Law_challenge F_Game_challenge
              rw [team_c ht, gbx_ok, p_sideOf ht, gbr_some, s6, if_pos z40, j3, if_neg (by rw [d2]; exact k1), nI_1m ht, hN, gbi_some, if_neg (by decide), p1, gbv_some, e05, hcut, gbv_some, q1, gbv_some, gl_eq, ← hσ3, if_pos (Or.inr rfl), gbh_ok, if_neg (by decide), gl_eq, gs_up]
            have g3 : ∀ k, 18 ≤ k → σ3 k = σ k := fun k g => by rw [f3 k (by omega), q2 k g, f14 k (by omega), p4 k (by omega)]
            obtain ⟨r, w1, w2⟩ := (m3.2.1.2 (1 - t) (by omega)).2
            have hM : ∀ τ : gSt, τ 29 = σ 29 → τ 30 = σ 30 → F_Model_challenge (nI t) τ = some ((1 : Int32), gs (gs τ 28 (upd (τ 28) 2 0)) 29 (upd (vWins t 8 y) 41 0)) := fun τ hτ hτ0 => by
              have hB := m_back_loop (a := nI t) (r := r) ht (by omega) 92 100 0 (gs τ 28 (upd (τ 28) 2 0)) rfl (by decide) (by rw [gs_n (by decide), hτ0]; exact w2) (fun j hj => absurd hj (by omega))
              rw [gs_n (show (30 : Nat) ≠ 28 by decide), gs_n (show (29 : Nat) ≠ 28 by decide), hτ0, hτ, ← hy] at hB
              rw [hM0 τ hτ]
              unfold F_Model_challenge_B67
              rw [m_goes0, gbi_some, if_neg (by decide), gif e39 (by omega), gcl e39 (by omega), gs_n (show (29 : Nat) ≠ 28 by decide), hτ, if_neg (by rw [r0]; decide)]
              exact hB
            refine ⟨_, sh2_ok hL (hM _ (by rw [gs_n (by decide)]; exact g3 29 (by decide)) (by rw [gs_n (by decide)]; exact g3 30 (by decide))) ?_ ?_ (Or.inr rfl), ?_⟩
            · rw [gs_n (by decide), gs_s]; unfold upd; rw [if_pos rfl]
            · rw [gs_n (by decide), gs_n (by decide), gs_s]; unfold upd; rw [if_pos rfl]
            · generalize hW : gs (gs (gs σ3 31 (upd (σ3 31) 0 1)) 28 (upd ((gs σ3 31 (upd (σ3 31) 0 1)) 28) 2 0)) 29 (upd (vWins t 8 y) 41 0) = W9
              have wk : ∀ k, k < 28 → W9 k = σ3 k := fun k g => by rw [← hW, gs_n (by omega), gs_n (by omega), gs_n (by omega)]
              have w29 : W9 29 = upd (vWins t 8 y) 41 0 := by rw [← hW, gs_s]
              have wx : ∀ j, j ≠ 41 → W9 29 j = vFin t (vGive t (vPre t 8 y)) j := fun j g => by rw [w29]; unfold upd; rw [if_neg g, vWins_eq]
              have gP : ∀ j, (j = 0 ∨ j = 1 ∨ (3 ≤ j ∧ j < 9) ∨ (12 ≤ j ∧ j < 14) ∨ (30 ≤ j ∧ j < 36) ∨ (38 ≤ j ∧ j < 80)) → vGive t (vPre t 8 y) j = vPre t 8 y j := fun j hj => vGive_oth ht (by unfold cIx; omega) (by omega) (by omega)
              have wp : ∀ j, (j = 3 ∨ (38 ≤ j ∧ j < 41)) → W9 29 j = vPre t 8 y j := fun j hj => by rw [wx j (by omega), vFin_oth (by omega) (by omega) (by omega), gP j (by omega)]
              have w15 : W9 15 = upd (σ 15) 0 0 := by rw [wk 15 (by decide), f3 15 (by decide), q8, e15]
              have w15o : ∀ j, j ≠ 0 → W9 15 j = σ 15 j := fun j g => by rw [w15]; unfold upd; rw [if_neg g]
              refine ⟨?_, ?_, ?_, Or.inl ⟨by rw [w29]; unfold upd; rw [if_pos rfl], ?_⟩, INV_ended ht (x := vGive t (vPre t 8 y)) (L := M + 1) ?_ ?_ (by omega) ?_ ?_ ?_ wx ?_⟩
              · rw [wk 0 (by decide), hσ3, gup_n (by decide), q7, wp 3 (by omega), vPre_at.2.1]
              · rw [w15o 5 (by decide), wp 38 (by omega), vPre_oth (by omega) (by omega) (by omega) (by omega) (by omega) (by omega), yo 38 (by decide), m6]; exact i2
              · rw [w15o 6 (by decide), wp 39 (by omega), vPre_oth (by omega) (by omega) (by omega) (by omega) (by omega) (by omega), yo 39 (by decide), m7]; exact i3
              · rw [wk 0 (by decide), hσ3, gup_s]
              · rw [gP 0 (by omega), vPre_oth (by omega) (by omega) (by omega) (by omega) (by omega) (by omega), yo 0 (by decide)]; exact m5
              · rw [gP 1 (by omega), vPre_at.1]
              · rw [wk 16 (by decide), f3 16 (by decide)]; exact q9
              · rw [wk 17 (by decide), f3 17 (by decide)]; exact q11
              · rw [w15]; unfold upd; rw [if_pos rfl]
              · rcases q12 with ⟨x1, x2, x3⟩ | ⟨x1, x2⟩
                · refine Or.inl ⟨x1, CO_keep x2 (fun i g1 g2 => by rw [wk i (by omega), f3 i (by omega)]) (fun _ _ => rfl), fun t' ht' => ?_⟩
                  rw [wk _ (by omega), f3 _ (by omega), x3 t' ht', gP _ (by omega)]
                  rcases two ht' with rfl | rfl
                  · exact vPre_at.2.2.2.1.symm
                  · exact vPre_at.2.2.2.2.symm
                · refine Or.inr ⟨x1, by rw [wk 1 (by decide), f3 1 (by decide)]; exact x2.1, by rw [wk 1 (by decide), f3 1 (by decide)]; exact x2.2.1, fun t' ht' => ?_⟩
                  obtain ⟨y1, y2, y3⟩ := x2.2.2 t' ht'
                  have e : ∀ i, i < 3 → W9 (1 + 1 + 3 * t' + i) = σ' (1 + 1 + 3 * t' + i) := fun i hi => by rw [wk _ (by omega), f3 _ (by omega)]
                  exact ⟨SR_keep y1 (e 0 (by decide)) (e 1 (by decide)) (fun _ _ => rfl), SX_keep y2 (congrFun (e 0 (by decide)) 5) (congrFun (e 0 (by decide)) 7) (congrFun (e 0 (by decide)) 8) rfl rfl rfl, y3⟩
      · refine bad2 ?_ ?_
        · unfold F_Game_challenge
          rw [team_c ht, gbx_ok, p_sideOf ht, gbr_some, s6, if_neg z40, hG28]
        · rw [m_ch0 ht σ rfl, if_pos z41, if_neg z40]
  · have hL : F_Law_challenge v σ = some ((1 : Int32), σ) := by
      unfold F_Law_challenge F_Game_challenge
      rw [c1, gbx_ex (by decide), gbh_ex (by decide), if_pos rfl]
    refine ⟨_, sh2_bad (b := 0) hL (by decide) ?_, INV_t h⟩
    unfold F_Model_challenge F_Model_challenge_B47 F_Model_challenge_B48
    rw [c2, gbi_some, if_pos rfl, if_pos rfl, m_ch67 (by decide)]
