/-! an exchange, both sides -/
theorem cX_in {t : Nat} {x : Int32} {z : vRow} (h : cX t x z = 1) : z (28 + t) = -1 ∧ bQ t x z = 1 ∨ z (28 + t) ≠ -1 ∧ x = z (28 + t) := by
  unfold cX at h
  by_cases g1 : z (26 + t) = -1
  · rw [if_pos g1] at h; exact absurd h (by decide)
  rw [if_neg g1] at h
  by_cases g2 : z (30 + t) = 0
  · rw [if_pos g2] at h
    by_cases g3 : z (28 + t) = -1
    · rw [if_pos g3] at h; exact Or.inl ⟨g3, h⟩
    · rw [if_neg g3] at h
      by_cases g4 : x = z (28 + t)
      · exact Or.inr ⟨g3, g4⟩
      · rw [if_neg g4] at h; exact absurd h (by decide)
  · rw [if_neg g2] at h; exact absurd h (by decide)
theorem vSwap_28 {t : Nat} {x : Int32} {z : vRow} : vSwap t x z (28 + t) = if z (28 + t) = -1 then x else -1 := by
  unfold vSwap
  by_cases g : z (28 + t) = -1
  · rw [if_pos g, if_pos g]; unfold upd; rw [if_pos rfl]
  · rw [if_neg g, if_neg g]; unfold upd; rw [if_pos rfl]
theorem st_exchange {n : Nat} {σ : gSt} {v x : Int32} (h : INV n σ) (hn : n < 512) : ∃ σ', F_case_exchange v x σ = some ((1 : Int32), σ') ∧ INV (n + 1) σ' := by
  show ∃ σ', sh2 (F_Law_exchange v x σ) (F_Model_exchange v x) = some ((1 : Int32), σ') ∧ INV (n + 1) σ'
  have bad1 : F_Game_exchange v x σ = some ((1 : Int32), (0 : Int32), σ) → F_Model_exchange v x σ = F_Model_exchange_B18 v x v x σ → ∃ σ', sh2 (F_Law_exchange v x σ) (F_Model_exchange v x) = some ((1 : Int32), σ') ∧ INV (n + 1) σ' := fun hG hM => by
    have hL : F_Law_exchange v x σ = some ((1 : Int32), σ) := by
      unfold F_Law_exchange
      rw [hG, gbh_ex (by decide), if_pos rfl]
    refine ⟨_, sh2_bad (b := 0) hL (by decide) ?_, INV_t h⟩
    rw [hM]
    unfold F_Model_exchange_B18 F_Model_exchange_B19
    rw [if_pos rfl, m_ex72]
  have bad2 : F_Game_exchange v x σ = some ((3 : Int32), (0 : Int32), σ) → F_Model_exchange v x σ = some ((0 : Int32), gs σ 28 (upd (σ 28) 2 2)) → ∃ σ', sh2 (F_Law_exchange v x σ) (F_Model_exchange v x) = some ((1 : Int32), σ') ∧ INV (n + 1) σ' := fun hG hM => by
    have hL : F_Law_exchange v x σ = some ((2 : Int32), σ) := by
      unfold F_Law_exchange
      rw [hG, gbh_ex (by decide), if_neg (by decide), if_pos rfl]
    exact ⟨_, sh2_bad (b := 0) hL (by decide) hM, INV_t h⟩
  rcases team_or v with ⟨t, ht, rfl⟩ | ⟨c1, c2⟩
  · rcases shirt_or x with ⟨s, s1, s2, rfl⟩ | ⟨c1, c2⟩
    · have hM00 : ∀ τ, F_Model_exchange (nI t) (nI s) τ = F_Model_exchange_B19 (nI t) (nI s) (nI t) (nI s) 1 τ := fun τ => by
        unfold F_Model_exchange
        rw [team_m ht, gbi_some, if_neg (by decide), shirt_m ⟨s1, s2⟩, gbi_some, if_neg (by decide)]
      rcases p_btw h with ⟨z0, z1, ⟨L, hL, hl, hC, hR, hB⟩, hA⟩ | ⟨zz, hA⟩
      · have hV := (hC.2.1.2 t ht).1
        have hcan := p_canX (x := nI s) (gSideOf gc1 ht) (hC.1.2.2 t ht) hV.1 (hB.2.2 t ht)
        rcases cX_or t (nI s) (σ 29) with ec | ec
        · refine bad2 ?_ ?_
          · unfold F_Game_exchange
            rw [team_c ht, gbx_ok, shirt_c ⟨s1, s2⟩, gbx_ok, hA, gbx_ok, p_sideOf ht, gbr_some, hcan, gbi_some, ec, if_pos rfl]
          · rw [hM00, m_ex19 ht σ rfl z0 z1 hV.1, if_pos ec]
        · have hs0 : nI s ≠ -1 := nI_ne1 (by omega)
          obtain ⟨q, q1, q2, q3, q4, q5⟩ : ∃ q, 1 ≤ q ∧ q ≤ 6 ∧ pRow t (σ 29) q = (if σ 29 (28 + t) = -1 then nI s else σ 29 (26 + t)) ∧ pFirst (pRow t (σ 29)) (if σ 29 (28 + t) = -1 then nI s else σ 29 (26 + t)) = nI q ∧ pLast (pRow t (σ 29)) (if σ 29 (28 + t) = -1 then nI s else σ 29 (26 + t)) = nI q := by
            rcases cX_in ec with ⟨g3, gb⟩ | ⟨g3, gx⟩
            · simp only [if_pos g3]
              rcases p_in hV.1 (nI s) with w | ⟨w1, w2, w3⟩
              · exact w
              · unfold bQ at gb
                rw [w2] at gb
                exact absurd gb (by decide)
            · simp only [if_neg g3]
              obtain ⟨p, p1, p2, p3⟩ := (hV.2.2 g3).1
              rcases p_in hV.1 (σ 29 (26 + t)) with w | ⟨w1, w2, w3⟩
              · exact w
              · exact absurd p3 (w1 p p1 p2)
          have hx : σ 29 (28 + t) ≠ -1 → nI s = σ 29 (28 + t) := fun g => by
            rcases cX_in ec with ⟨g3, gb⟩ | ⟨g3, gx⟩
            · exact absurd g3 g
            · exact gx
          obtain ⟨y, hy⟩ : ∃ y, y = vXy t (σ 29) := ⟨_, rfl⟩
          have yo : ∀ j, j ≠ 41 → j ≠ 30 + t → y j = σ 29 j := fun j g1 g2 => by rw [hy]; unfold vXy upd; rw [if_neg g2, if_neg g1]
          have y41 : y 41 = 0 := by rw [hy]; unfold vXy upd; rw [if_neg (by omega), if_pos rfl]
          have y30 : y (30 + t) = 1 := by rw [hy]; unfold vXy upd; rw [if_pos rfl]
          have ypr : ∀ p, 1 ≤ p → p ≤ 6 → pRow t y p = pRow t (σ 29) p := fun p p1 p2 => yo _ (by omega) (by omega)
          have hif : (if y (28 + t) = -1 then nI s else y (26 + t)) = (if σ 29 (28 + t) = -1 then nI s else σ 29 (26 + t)) := by rw [yo _ (by omega) (by omega), yo _ (by omega) (by omega)]
          have hp : pFirst (pRow t y) (if y (28 + t) = -1 then nI s else y (26 + t)) = nI q := by rw [hif, pFirst_cong ypr]; exact q4
          obtain ⟨σ1, hσ1⟩ : ∃ σ1, σ1 = gup (gup σ 17 L (gSign 6 (nI t) (nI s) 0)) 16 1 (nI (L + 1)) := ⟨_, rfl⟩
          have f1 : ∀ k, k ≠ 16 → k ≠ 17 → σ1 k = σ k := fun k g1 g2 => by rw [hσ1, gup_oth g1, gup_oth g2]
          have hC1 : CO 1 n σ1 y := CO_keep hC (fun i x w => f1 i (by omega) (by omega)) (fun j hj => yo j (by omega) (by omega))
          obtain ⟨σ2, t1, t2, t3, t4, t5⟩ := p_swapLibero (x := nI s) (gSideOf gc1 ht) ht (hC1.1.2.2 t ht) ⟨q1, q2⟩ hp
          have vo : ∀ j, ¬ (14 + 6 * t ≤ j ∧ j ≤ 19 + 6 * t) → j ≠ 28 + t → vSwap t (nI s) y j = y j := fun j g1 g2 => vSwap_oth ht ⟨q1, q2⟩ hp g1 g2
          have hVy : Vt t (vSwap t (nI s) y) := Vt_swap ht (hC1.2.1.2 t ht).1 ⟨q1, q2⟩ hs0 hp (by rw [ypr q q1 q2, hif]; exact q3) (fun g => by rw [yo _ (by omega) (by omega)] at g ⊢; exact hx g)
          have hC2 : CO 1 n σ2 (vSwap t (nI s) y) := by
            refine ⟨CS_side ht hC1.1 t2 (fun k' a b c => t3 k' a b) (vo _ (by omega) (by omega)) (vo _ (by omega) (by omega)) (fun j hj => vo j (by unfold cIx at hj; omega) (by unfold cIx at hj; omega)), VV_side ht hC1.2.1 (vo _ (by omega) (by omega)) hVy (fun j hj => vo j (by unfold cIx at hj; omega) (by unfold cIx at hj; omega)) (vo _ (by omega) (by omega)), fun t' ht' => ⟨?_, ?_⟩⟩
            · by_cases g : t' = t
              · subst g
                exact SX_keep (hC1.2.2 _ ht').1 (t4 5 (by decide) (by decide)) (t4 7 (by decide) (by decide)) (t4 8 (by decide) (by decide)) (vo _ (by omega) (by omega)) (vo _ (by omega) (by omega)) (vo _ (by omega) (by omega))
              · have e := t3 (1 + 1 + 3 * t') (by omega) (by omega)
                exact SX_keep (hC1.2.2 _ ht').1 (congrFun e 5) (congrFun e 7) (congrFun e 8) (vo _ (by omega) (by omega)) (vo _ (by omega) (by omega)) (vo _ (by omega) (by omega))
            · exact PR_keep (hC1.2.2 _ ht').2 (fun x _ _ => by rw [t3 _ (by omega) (by omega)]) (vo _ (by omega) (by omega)) (vo _ (by omega) (by omega)) (fun j a b => vo j (by omega) (by omega))
          obtain ⟨σ3, hσ3⟩ : ∃ σ3, σ3 = gup σ2 0 6 (-1) := ⟨_, rfl⟩
          have f3 : ∀ k, k ≠ 0 → σ3 k = σ2 k := fun k g => by rw [hσ3, gup_oth g]
          have g3 : ∀ k, 8 ≤ k → k ≠ 16 → k ≠ 17 → σ3 k = σ k := fun k g a b => by rw [f3 k (by omega), t3 k (by omega) (by omega), f1 k a b]
          have hI : F_Side_isLiberoIn (1 + 1 + 3 * t) σ3 = some ((if σ 29 (28 + t) = -1 then 1 else 0), σ3) := by
            unfold F_Side_isLiberoIn
            rw [f3 _ (by omega), t2.2.1, vSwap_28, yo _ (by omega) (by omega)]
            by_cases g : σ 29 (28 + t) = -1
            · rw [if_pos g, if_neg hs0, if_pos g]
            · rw [if_neg g, if_pos rfl, if_neg g]
          have hG : F_Game_exchange (nI t) (nI s) σ = some ((0 : Int32), (if σ 29 (28 + t) = -1 then 1 else 0), σ3) := by
            unfold F_Game_exchange
            rw [team_c ht, gbx_ok, shirt_c ⟨s1, s2⟩, gbx_ok, hA, gbx_ok, p_sideOf ht, gbr_some, hcan, gbi_some, ec, if_neg (by decide), p_write 6 (nI t) (nI s) 0 hl (by omega), gbv_some, ← hσ1, t1, gbv_some, gl_eq, ← hσ3, hI, gbi_some]
            rw [if_pos (by split; exact Or.inr rfl; exact Or.inl rfl)]
          have hLw : F_Law_exchange (nI t) (nI s) σ = some ((0 : Int32), gs σ3 31 (upd (σ3 31) 0 (if σ 29 (28 + t) = -1 then 1 else 0))) := by
            unfold F_Law_exchange
            rw [hG, gbh_ok]
            by_cases g : σ 29 (28 + t) = -1
            · simp only [if_pos g]
              rw [if_neg (by decide), gl_eq, gs_up]
            · simp only [if_neg g]
              rw [if_pos trivial, gl_eq, gs_up]
          have e29 : (gs σ3 31 (upd (σ3 31) 0 (if σ 29 (28 + t) = -1 then 1 else 0))) 29 = σ 29 := by rw [gs_n (by decide)]; exact g3 29 (by decide) (by decide) (by decide)
          have hM := m_ex163 (a := nI t) (b := nI s) (x := nI s) ht (gs σ3 31 (upd (σ3 31) 0 (if σ 29 (28 + t) = -1 then 1 else 0))) e29 rfl ⟨q1, q2⟩ q4 q5
          have hM2 : F_Model_exchange (nI t) (nI s) (gs σ3 31 (upd (σ3 31) 0 (if σ 29 (28 + t) = -1 then 1 else 0))) = _ := (hM00 _).trans ((m_ex19 ht _ e29 z0 z1 hV.1).trans ((if_neg (by rw [ec]; decide)).trans hM))
          refine ⟨_, sh2_ok hLw hM2 ?_ ?_ ?_, ?_⟩
          · rw [gs_n (by decide), gs_s]; unfold upd; rw [if_pos rfl]
          · rw [gs_n (by decide), gs_n (by decide), gs_s]; unfold upd; rw [if_pos rfl]
          · split
            · exact Or.inr rfl
            · exact Or.inl rfl
          · rw [← hy]
            generalize hW : gs (gs (gs σ3 31 (upd (σ3 31) 0 (if σ 29 (28 + t) = -1 then 1 else 0))) 28 (upd ((gs σ3 31 (upd (σ3 31) 0 (if σ 29 (28 + t) = -1 then 1 else 0))) 28) 2 0)) 29 (vSwap t (nI s) y) = W9
            have wk : ∀ k, k < 28 → W9 k = σ3 k := fun k g => by rw [← hW, gs_n (by omega), gs_n (by omega), gs_n (by omega)]
            have w29 : W9 29 = vSwap t (nI s) y := by rw [← hW, gs_s]
            have wz : ∀ j, ¬ (14 + 6 * t ≤ j ∧ j ≤ 19 + 6 * t) → j ≠ 28 + t → j ≠ 41 → j ≠ 30 + t → vSwap t (nI s) y j = σ 29 j := fun j g1 g2 g3 g4 => by rw [vo j g1 g2, yo j g3 g4]
            refine INV_tell h (L := L) (by omega) w29 (wz _ (by omega) (by omega) (by omega) (by omega)) (wz _ (by omega) (by omega) (by omega) (by omega)) (wz _ (by omega) (by omega) (by omega) (by omega)) (by rw [vo _ (by omega) (by omega)]; exact y41) (by rw [wz _ (by omega) (by omega) (by omega) (by omega)]; exact z0) (by rw [wz _ (by omega) (by omega) (by omega) (by omega)]; exact z1) ?_ ?_ ?_ hB.2.1 ?_ ?_ ?_ (fun t' ht' => ?_)
            · rw [wk 0 (by decide), hσ3, gup_s]
            · rw [wk 0 (by decide), hσ3, gup_n (by decide), t3 0 (by omega) (by omega), f1 0 (by decide) (by decide)]
            · rw [wk 15 (by decide), g3 15 (by decide) (by decide) (by decide)]
            · rw [wk 16 (by decide), f3 16 (by decide), t3 16 (by omega) (by omega), hσ1, gup_s]
            · exact CO_keep (hC2.mono (by omega)) (fun i a b => by rw [wk i (by omega), f3 i (by omega)]) (fun _ _ => rfl)
            · have e17 : W9 17 = upd (σ 17) L (gSign 6 (nI t) (nI s) 0) := by rw [wk 17 (by decide), f3 17 (by decide), t3 17 (by omega) (by omega), hσ1, gup_oth (by decide), gup_row]
              rw [e17]
              have r1 : Rdg (upd (σ 17) L (gSign 6 (nI t) (nI s) 0)) L (RR y) := (hR.cong (fun j hj => by unfold upd; rw [if_neg (by omega)])).weak (RR_cong (fun j hj => yo j (by omega) (by omega)))
              exact r1.step (k := 6) (t := t) (a := s) (b := 0) (by unfold upd; rw [if_pos rfl]; rfl) (by decide) ht (by omega) (by decide) (fun τ hτ => fol_exch ht hτ ⟨q1, q2⟩ hp)
            · rw [wk _ (by omega), f3 _ (by omega), vo _ (by omega) (by omega)]
              by_cases g : t' = t
              · subst g
                rw [t5, y30]
              · rw [t3 _ (by omega) (by omega), f1 _ (by omega) (by omega), yo _ (by omega) (by omega)]
                exact hB.2.2 t' ht'
      · refine bad2 ?_ ?_
        · unfold F_Game_exchange
          rw [team_c ht, gbx_ok, shirt_c ⟨s1, s2⟩, gbx_ok, hA, gbx_ex (by decide)]
        · rw [hM00]
          unfold F_Model_exchange_B19
          rw [if_neg (by decide), m_ex72b ht]
          by_cases g0 : σ 29 0 = 1
          · rw [if_pos g0, if_neg (fun g1 => zz ⟨g0, g1⟩)]
          · rw [if_neg g0]
    · refine bad1 ?_ ?_
      · unfold F_Game_exchange
        rw [team_c ht, gbx_ok, c1, gbx_ex (by decide)]
      · unfold F_Model_exchange
        rw [team_m ht, gbi_some, if_neg (by decide), c2, gbi_some, if_pos rfl]
  · refine bad1 ?_ ?_
    · unfold F_Game_exchange
      rw [c1, gbx_ex (by decide)]
    · unfold F_Model_exchange
      rw [c2, gbi_some, if_pos rfl]
