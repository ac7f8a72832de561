/-! a service out of order is found -/
theorem vGive_2 {t : Nat} (ht : t < 2) {z : vRow} : vGive t z 2 = nI t := by
  unfold vGive
  by_cases g : z 2 = nI t
  · rw [if_pos g]; unfold upd; rw [if_neg (by omega)]; exact g
  · rw [if_neg g, vRot_oth ht (by omega) (by omega) (by omega)]; unfold upd; rw [if_neg (by omega), if_pos rfl]
theorem vTake_2 {s : Nat} (hs : s < 2) {z : vRow} : vTake s z 2 = nI (1 - s) := vGive_2 (by omega)
theorem vTake_oth {s j : Nat} (hs : s < 2) {z : vRow} (h : j = 0 ∨ j = 1 ∨ (3 ≤ j ∧ j < 9) ∨ (12 ≤ j ∧ j < 14) ∨ (30 ≤ j ∧ j < 36) ∨ 38 ≤ j) : vTake s z j = z j := by
  unfold vTake
  rw [vGive_oth (by omega) (by unfold cIx; omega) (by omega) (by omega)]
  unfold upd
  rw [if_neg (by omega)]
theorem CO_take {k n s : Nat} (hk : gIsCourt k) (hs : s < 2) {σ : gSt} {z : vRow} (h : CO k n σ z) (hz : z 2 = nI s) : ∃ σ', F_Court_takeBack k σ = some (z (10 + s) - z 9, σ') ∧ CO k (n + 1) σ' (vTake s z) ∧ KF k σ σ' := by
  obtain ⟨h1, h2, h3⟩ := h
  obtain ⟨σ', q1, q2, q3⟩ := p_takeBack hk hs h1 hz
  refine ⟨σ', q1, ⟨q2, VV_take hs h2, fun t ht => ⟨?_, ?_⟩⟩, q3⟩
  · have e : ∀ j, (j = 5 ∨ j = 7 ∨ j = 8 ∨ j = 9) → σ' (k + 1 + 3 * t) j = σ (k + 1 + 3 * t) j := fun j hj => by
      rcases two ht with rfl | rfl
      · exact (q3.2.2.2 j hj).1
      · exact (q3.2.2.2 j hj).2
    exact SX_keep (h3 t ht).1 (e 5 (by omega)) (e 7 (by omega)) (e 8 (by omega)) (vTake_oth hs (by omega)) (vTake_oth hs (by omega)) (vTake_oth hs (by omega))
  · have e : σ' (k + 1 + 3 * t + 2) = σ (k + 1 + 3 * t + 2) := by
      rcases two ht with rfl | rfl
      · exact q3.2.1
      · exact q3.2.2.1
    exact PR_keep (h3 t ht).2 (fun x _ _ => by rw [e]) (vTake_oth hs (by omega)) (vTake_oth hs (by omega)) (fun j a b => vTake_oth hs (by omega))
/-- what is left of the invariant once a point was given -/
theorem INV_ended {n L w : Nat} (hw : w < 2) {W9 : gSt} {x : vRow} (x0 : x 0 = 1) (x1 : x 1 = 0) (hL : L ≤ 15 + n) (e16 : W9 16 1 = nI L) (eR : Rdg (W9 17) L (RR x)) (e15 : W9 15 0 = 0) (w29 : ∀ j, j ≠ 41 → W9 29 j = vFin w x j)
    (eC : (vFin w x = x ∧ CO 1 n W9 x ∧ ∀ t, t < 2 → W9 (1 + 1 + 3 * t) 9 = x (30 + t)) ∨ (vFin w x = vEnd w x ∧ CX 1 W9 (vEnd w x))) : ∃ L, L ≤ 15 + n ∧ W9 16 1 = nI L ∧ (ON n L W9 ∨ OFF L W9) := by
  refine ⟨L, hL, e16, ?_⟩
  have wG : ∀ j, j ≠ 41 → j ≠ 0 → j ≠ 12 + w → ¬ (14 ≤ j ∧ j < 30) → W9 29 j = x j := fun j g g0 g1 g2 => by rw [w29 j g, vFin_oth g0 g1 g2]
  have w1 : W9 29 1 = 0 := by rw [wG 1 (by omega) (by omega) (by omega) (by omega)]; exact x1
  rcases eC with ⟨d1, d2, d3⟩ | ⟨d1, d2⟩
  · have wx : ∀ j, j ≠ 41 → W9 29 j = x j := fun j g => by rw [w29 j g, d1]
    refine Or.inl ⟨by rw [wx 0 (by decide)]; exact x0, CO_keep d2 (fun _ _ _ => rfl) (fun j hj => wx j (by omega)), eR.weak (RR_cong (fun j hj => wx j (by omega))), Or.inl ⟨w1, e15, fun t ht => by rw [d3 t ht, wx _ (by omega)]⟩⟩
  · have wx : ∀ j, j ≠ 41 → W9 29 j = vEnd w x j := fun j g => by rw [w29 j g, d1]
    have wm : ∀ j, 14 ≤ j → j < 30 → W9 29 j = -1 := fun j a b => by rw [wx j (by omega)]; unfold vEnd; rw [if_pos ⟨a, b⟩]
    refine Or.inr ⟨?_, w1, e15, ⟨d2.1, d2.2.1, fun t ht => ?_⟩, fun t ht => ⟨Or.inl (wm _ (by omega) (by omega)), fun p a b => Or.inl (wm _ (by omega) (by omega))⟩, Or.inr ⟨x, eR, (wG 10 (by omega) (by omega) (by omega) (by omega)).symm, (wG 11 (by omega) (by omega) (by omega) (by omega)).symm, fun j hj => (wG _ (by omega) (by omega) (by omega) (by omega)).symm⟩⟩
    · rw [wx 0 (by decide)]; unfold vEnd; rw [if_neg (by omega), if_pos rfl]
    · obtain ⟨x1, x2, x3⟩ := d2.2.2 t ht
      exact ⟨SR_keep x1 rfl rfl (fun j hj => wx j (by unfold cIx at hj; omega)), SX_keep x2 rfl rfl rfl (wx _ (by omega)) (wx _ (by omega)) (wx _ (by omega)), wm _ (by omega) (by omega)⟩
theorem i32_ss (a b : Int32) : a - (a - b) = b := by grind
theorem m_find {s : Nat} (hs : s < 2) (τ : gSt) {z : vRow} (hτ : τ 29 = z) (z0 : z 0 = 1) (z1 : z 1 = 0) (z2 : z 2 = nI s) (z9 : z 9 ≠ -1) : F_Model_find τ = some (z (10 + s) - z 9, gs (gs τ 28 (upd (τ 28) 2 0)) 29 (vFin (1 - s) (vTake s (upd (upd z 41 0) 3 9)))) := by
  have e10 : (10 : Int32) + nI s = nI (10 + s) := nI_add 10 s
  have u2 : upd z 41 0 2 = nI s := by unfold upd; rw [if_neg (by decide)]; exact z2
  have u9 : upd z 41 0 9 = z 9 := by unfold upd; rw [if_neg (by decide)]
  have u10 : upd z 41 0 (10 + s) = z (10 + s) := by unfold upd; rw [if_neg (by omega)]
  have er : upd (upd (upd z 41 0) (10 + s) (z 9)) 3 9 = upd (upd (upd z 41 0) 3 9) (10 + s) ((upd (upd z 41 0) 3 9) 9) := by
    rw [upd_comm (show 10 + s ≠ 3 by omega)]
    congr 1
  unfold F_Model_find F_Model_find_B35 F_Model_find_B46
  rw [hτ, if_pos z0, if_pos z1, if_neg z9, if_neg (by decide), m_goes0, gbi_some, if_neg (by decide), gl_eq, gs_up, gs_n (show (29 : Nat) ≠ 28 by decide), hτ, gl_eq, gs_s, u2, gif e10 (by omega), gl_eq, gif e10 (by omega), gif e10 (by omega), gcl e10 (by omega), u9, u10, i32_ss, gl_eq, gs_up, gl_eq, gs_up, gs_s, gs_gs, gs_s, gs_gs, nI_1m hs, m_scores (by omega), gbv_some, gs_s, gs_gs, er]
  rfl
theorem st_find {n : Nat} {σ : gSt} (h : INV n σ) (hn : n < 512) : ∃ σ', F_case_find σ = some ((1 : Int32), σ') ∧ INV (n + 1) σ' := by
  show ∃ σ', sh1 (F_Law_find σ) F_Model_find = some ((1 : Int32), σ') ∧ INV (n + 1) σ'
  have bad : F_Game_find σ = some ((3 : Int32), (0 : Int32), σ) → F_Model_find σ = F_Model_find_B34 σ → ∃ σ', sh1 (F_Law_find σ) F_Model_find = some ((1 : Int32), σ') ∧ INV (n + 1) σ' := fun hG hM => by
    have hL : F_Law_find σ = some ((1 : Int32), σ) := by
      unfold F_Law_find
      rw [hG, gbh_ex (by decide), if_pos rfl]
    refine ⟨_, sh1_bad (b := 0) hL (by decide) ?_, INV_t h⟩
    rw [hM]
    unfold F_Model_find_B34 F_Model_find_B35 F_Model_find_B46
    rw [if_pos rfl, m_goesN _ (by decide), gbi_some, if_pos rfl]
  obtain ⟨i1, i2, i3, i4, L, a1, a2, h7⟩ := id h
  rcases h7 with ⟨b0, b1, b2, b3 | b3⟩ | h7
  · by_cases g9 : σ 29 9 = -1
    · refine bad ?_ ?_
      · unfold F_Game_find F_Game_find_B21
        rw [b3.2.1, if_pos rfl, b1.1.2.1, if_pos g9]
      · unfold F_Model_find
        rw [if_pos b0, if_pos b3.1, if_pos g9]
    · obtain ⟨s, hs, z2⟩ := b1.2.1.1
      obtain ⟨y, hy⟩ : ∃ y, y = upd (upd (σ 29) 41 0) 3 9 := ⟨_, rfl⟩
      have yo : ∀ j, j ≠ 3 → j ≠ 41 → y j = σ 29 j := fun j g1 g2 => by rw [hy]; unfold upd; rw [if_neg g1, if_neg g2]
      have y3 : y 3 = 9 := by rw [hy]; unfold upd; rw [if_pos rfl]
      have y41 : y 41 = 0 := by rw [hy]; unfold upd; rw [if_neg (by decide), if_pos rfl]
      have hw : 1 - s < 2 := by omega
      obtain ⟨σ1, hσ1⟩ : ∃ σ1, σ1 = gup (gup σ 17 L (gSign 5 (nI s) 0 0)) 16 1 (nI (L + 1)) := ⟨_, rfl⟩
      have f1 : ∀ k, k ≠ 16 → k ≠ 17 → σ1 k = σ k := fun k g1 g2 => by rw [hσ1, gup_oth g1, gup_oth g2]
      have hC1 : CO 1 n σ1 y := CO_keep b1 (fun i x w => f1 i (by omega) (by omega)) (fun j hj => yo j (by omega) (by omega))
      obtain ⟨σ2, t1, t2, t3⟩ := CO_take gc1 hs hC1 (by rw [yo 2 (by decide) (by decide)]; exact z2)
      have e2 : σ2 1 2 = nI (1 - s) := t2.1.1.trans (vTake_2 hs)
      have f9 : ∀ t, t < 2 → σ2 (1 + 1 + 3 * t) 9 = vTake s y (30 + t) := fun t ht => by
        have e : σ2 (1 + 1 + 3 * t) 9 = σ1 (1 + 1 + 3 * t) 9 := by
          rcases two ht with rfl | rfl
          · exact (t3.2.2.2 9 (by omega)).1
          · exact (t3.2.2.2 9 (by omega)).2
        rw [e, f1 _ (by omega) (by omega), b3.2.2 t ht, vTake_oth hs (by omega), yo _ (by omega) (by omega)]
      obtain ⟨σ6, d1, d2, d3⟩ : ∃ σ6, F_Game_endSetIfWonBy (nI (1 - s)) σ2 = some σ6 ∧ (∀ k', (k' < 1 ∨ 8 ≤ k') → σ6 k' = σ2 k') ∧ ((vFin (1 - s) (vTake s y) = vTake s y ∧ CO 1 (n + 1) σ6 (vTake s y) ∧ ∀ t, t < 2 → σ6 (1 + 1 + 3 * t) 9 = vTake s y (30 + t)) ∨ (vFin (1 - s) (vTake s y) = vEnd (1 - s) (vTake s y) ∧ CX 1 σ6 (vEnd (1 - s) (vTake s y)))) := by
        rcases p_endIf hw t2.1 (fun t ht => (t2.2.2 t ht).1) with ⟨d1, d2⟩ | ⟨σ6, d1, d2, d3, d4⟩
        · exact ⟨σ2, d1, fun _ _ => rfl, Or.inl ⟨d2, t2, f9⟩⟩
        · exact ⟨σ6, d1, d4, Or.inr ⟨d2, d3⟩⟩
      obtain ⟨σ8, hσ8⟩ : ∃ σ8, σ8 = gup (gup σ6 0 6 (-1)) 0 7 9 := ⟨_, rfl⟩
      have f8 : ∀ k, k ≠ 0 → σ8 k = σ6 k := fun k g => by rw [hσ8, gup_oth g, gup_oth g]
      have g8 : ∀ k, 8 ≤ k → k ≠ 16 → k ≠ 17 → σ8 k = σ k := fun k g g1 g2 => by rw [f8 k (by omega), d2 k (by omega), t3.1 k (by omega), f1 k g1 g2]
      have hL : F_Law_find σ = some ((0 : Int32), gs σ8 31 (upd (σ8 31) 0 (y (10 + s) - y 9))) := by
        unfold F_Law_find F_Game_find
        rw [b3.2.1, if_pos rfl, b1.1.2.1, if_neg g9, b1.1.1, z2, p_write 5 (nI s) 0 0 a2 (by omega), gbv_some, ← hσ1, t1, gbi_some, e2, d1, gbv_some, gl_eq, gl_eq, ← hσ8, gbh_ok, gl_eq, gs_up]
      have e29 : σ8 29 = σ 29 := g8 29 (by decide) (by decide) (by decide)
      have hM := m_find hs (gs σ8 31 (upd (σ8 31) 0 (y (10 + s) - y 9))) (z := σ 29) (by rw [gs_n (by decide)]; exact e29) b0 b3.1 z2 g9
      rw [← hy, ← yo 9 (by decide) (by decide), ← yo (10 + s) (by omega) (by omega)] at hM
      refine ⟨_, sh1_ok hL hM ?_ ?_, ?_⟩
      · rw [gs_n (by decide), gs_s]; unfold upd; rw [if_pos rfl]
      · rw [gs_n (by decide), gs_n (by decide), gs_s]; unfold upd; rw [if_pos rfl]
      · generalize hW : gs (gs (gs σ8 31 (upd (σ8 31) 0 (y (10 + s) - y 9))) 28 (upd ((gs σ8 31 (upd (σ8 31) 0 (y (10 + s) - y 9))) 28) 2 0)) 29 (vFin (1 - s) (vTake s y)) = W9
        have wk : ∀ k, k < 28 → W9 k = σ8 k := fun k g => by rw [← hW, gs_n (by omega), gs_n (by omega), gs_n (by omega)]
        have w29 : W9 29 = vFin (1 - s) (vTake s y) := by rw [← hW, gs_s]
        have wy : ∀ j, (j = 3 ∨ (38 ≤ j ∧ j < 42)) → W9 29 j = y j := fun j hj => by rw [w29, vFin_oth (by omega) (by omega) (by omega), vTake_oth hs (by omega)]
        have w15 : W9 15 = σ 15 := by rw [wk 15 (by decide), g8 15 (by decide) (by decide) (by decide)]
        refine ⟨?_, ?_, ?_, Or.inl ⟨by rw [wy 41 (by omega)]; exact y41, ?_⟩, INV_ended hw (x := vTake s y) (L := L + 1) ?_ ?_ (by omega) ?_ ?_ ?_ (fun j _ => by rw [w29]) ?_⟩
        · rw [wk 0 (by decide), hσ8, gup_s, wy 3 (by omega), y3]
        · rw [w15, wy 38 (by omega), yo 38 (by decide) (by decide)]; exact i2
        · rw [w15, wy 39 (by omega), yo 39 (by decide) (by decide)]; exact i3
        · rw [wk 0 (by decide), hσ8, gup_n (by decide), gup_s]
        · rw [vTake_oth hs (by omega), yo 0 (by decide) (by decide)]; exact b0
        · rw [vTake_oth hs (by omega), yo 1 (by decide) (by decide)]; exact b3.1
        · rw [wk 16 (by decide), f8 16 (by decide), d2 16 (by decide), t3.1 16 (by decide), hσ1, gup_s]
        · have e17 : W9 17 = upd (σ 17) L (gSign 5 (nI s) 0 0) := by rw [wk 17 (by decide), f8 17 (by decide), d2 17 (by decide), t3.1 17 (by decide), hσ1, gup_oth (by decide), gup_row]
          rw [e17]
          have r1 : Rdg (upd (σ 17) L (gSign 5 (nI s) 0 0)) L (RR y) := (b2.cong (fun j hj => by unfold upd; rw [if_neg (by omega)])).weak (RR_cong (fun j hj => yo j (by omega) (by omega)))
          exact r1.step (k := 5) (t := s) (a := 0) (b := 0) (by unfold upd; rw [if_pos rfl]; rfl) (by decide) hs (by decide) (by decide) (fun τ hτ => fol_found hs hs hτ (by rw [yo 2 (by decide) (by decide)]; exact z2))
        · rw [w15]; exact b3.2.1
        · rcases d3 with ⟨x1, x2, x3⟩ | ⟨x1, x2⟩
          · exact Or.inl ⟨x1, CO_keep x2 (fun i g1 g2 => by rw [wk i (by omega), f8 i (by omega)]) (fun _ _ => rfl), fun t ht => by rw [wk _ (by omega), f8 _ (by omega)]; exact x3 t ht⟩
          · refine Or.inr ⟨x1, by rw [wk 1 (by decide), f8 1 (by decide)]; exact x2.1, by rw [wk 1 (by decide), f8 1 (by decide)]; exact x2.2.1, fun t ht => ?_⟩
            obtain ⟨y1, y2, y3⟩ := x2.2.2 t ht
            have e : ∀ i, i < 3 → W9 (1 + 1 + 3 * t + i) = σ6 (1 + 1 + 3 * t + i) := fun i hi => by rw [wk _ (by omega), f8 _ (by omega)]
            exact ⟨SR_keep y1 (e 0 (by decide)) (e 1 (by decide)) (fun _ _ => rfl), SX_keep y2 (congrFun (e 0 (by decide)) 5) (congrFun (e 0 (by decide)) 7) (congrFun (e 0 (by decide)) 8) rfl rfl rfl, y3⟩
  · refine bad ?_ ?_
    · unfold F_Game_find F_Game_find_B21
      rw [b3.2.1, if_neg (by decide)]
    · unfold F_Model_find
      rw [if_pos b0, if_neg (by rw [b3.1]; decide)]
  · refine bad ?_ ?_
    · unfold F_Game_find F_Game_find_B21
      rw [h7.2.2.1, if_pos rfl, h7.2.2.2.1.2.1, if_pos rfl]
    · unfold F_Model_find
      rw [if_neg (by rw [h7.1]; decide)]
