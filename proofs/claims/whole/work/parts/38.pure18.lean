/-! serving, both sides -/
theorem p_rallyStart (a b : Int32) (σ : gSt) : F_Rally_start a b σ = some (gs σ 15 (upd (upd (upd (upd (upd (upd (upd (σ 15) 0 1) 1 a) 2 b) 3 (-1)) 4 0) 5 0) 6 0)) := by
  unfold F_Rally_start
  simp only [gl_eq, gs_up, gs_s, gs_gs]
theorem nI_ne1 {q : Nat} (h : q < 100) : ¬ nI q = -1 := by
  have key : ∀ q, q < 100 → ¬ nI q = -1 := by decide
  exact key q h
theorem st_serve {n : Nat} {σ : gSt} {v : Int32} (h : INV n σ) (hn : n < 512) : ∃ σ', F_case_serve v σ = some ((1 : Int32), σ') ∧ INV (n + 1) σ' := by
  show ∃ σ', sh2 (F_Law_serve v σ) (F_Model_serve v) = some ((1 : Int32), σ') ∧ INV (n + 1) σ'
  rcases shirt_or v with ⟨s, s1, s2, rfl⟩ | ⟨c1, c2⟩
  · have bad2 : F_Game_serve (nI s) σ = some ((3 : Int32), (0 : Int32), σ) → F_Model_serve (nI s) σ = F_Model_serve_B46 (nI s) (nI s) 1 σ → ∃ σ', sh2 (F_Law_serve (nI s) σ) (F_Model_serve (nI s)) = some ((1 : Int32), σ') ∧ INV (n + 1) σ' := fun hG hM => by
      have hL : F_Law_serve (nI s) σ = some ((2 : Int32), σ) := by
        unfold F_Law_serve
        rw [hG, gbh_ex (by decide), if_neg (by decide), if_pos rfl]
      refine ⟨_, sh2_bad (b := 0) hL (by decide) ?_, INV_t h⟩
      rw [hM]
      unfold F_Model_serve_B46 F_Model_serve_B47 F_Model_serve_B66
      rw [if_neg (by decide), if_pos rfl, m_goesN _ (by decide), gbi_some, if_pos rfl]
    rcases p_btw h with ⟨z0, z1, ⟨L, hL, hl, hC, hR, hB⟩, hA⟩ | ⟨zz, hA⟩
    · obtain ⟨srv, hs, z2⟩ := hC.2.1.1
      have hV := (hC.2.1.2 srv hs).1
      have eP : F_Side_placeOf (1 + 1 + 3 * srv) (nI s) σ = some (pFirst (pRow srv (σ 29)) (nI s), σ) := by
        rw [p_placeOf (gSideOf gc1 hs), pFirst_SR (hC.1.2.2 srv hs)]
      rcases p_in hV.1 (nI s) with ⟨q, q1, q2, q3, q4, q5⟩ | ⟨q3, q4, q5⟩
      · have hM := fun (τ : gSt) (e : τ 29 = σ 29) => m_serve (q := q) (srv := srv) hs τ ⟨s1, s2⟩ (by rw [e]; exact z0) (by rw [e]; exact z1) (by rw [e]; exact z2) (by rw [e]; exact hV.1) ⟨q1, q2⟩ (by rw [e]; exact q5) (by rw [e]; exact q3)
        obtain ⟨σ1, hσ1⟩ : ∃ σ1, σ1 = gup (gup σ 17 L (gSign 3 (nI srv) (nI s) 0)) 16 1 (nI (L + 1)) := ⟨_, rfl⟩
        obtain ⟨σ2, hσ2⟩ : ∃ σ2, σ2 = gs σ1 15 (upd (upd (upd (upd (upd (upd (upd (σ1 15) 0 1) 1 (nI srv)) 2 (nI s)) 3 (-1)) 4 0) 5 0) 6 0) := ⟨_, rfl⟩
        obtain ⟨σ3, hσ3⟩ : ∃ σ3, σ3 = gup σ2 0 6 (-1) := ⟨_, rfl⟩
        have f3 : ∀ k, k ≠ 0 → k ≠ 15 → k ≠ 16 → k ≠ 17 → σ3 k = σ k := fun k g0 g1 g2 g3 => by rw [hσ3, gup_oth g0, hσ2, gs_n g1, hσ1, gup_oth g2, gup_oth g3]
        have hC3 : CO 1 n σ3 (σ 29) := CO_keep hC (fun i x y => f3 i (by omega) (by omega) (by omega) (by omega)) (fun _ _ => rfl)
        obtain ⟨τ, t1, t2, t3, t4, t5⟩ := p_takeService (x := nI s) gc1 hs hC3.1 z2
        have hG : F_Game_serve (nI s) σ = some ((0 : Int32), (if σ 29 (14 + 6 * srv) = nI s then 1 else 0), τ) := by
          unfold F_Game_serve
          rw [shirt_c ⟨s1, s2⟩, gbx_ok, hA, gbx_ok, hC.1.1, z2, gl_eq, p_sideOf hs, gbr_some, eP, gbi_some, q4, if_neg (nI_ne1 (by omega)), p_write 3 (nI srv) (nI s) 0 hl (by omega), gbv_some, ← hσ1, p_rallyStart, gbv_some, ← hσ2, gl_eq, ← hσ3, t1, gbi_some]
          rw [if_pos (by split; exact Or.inr rfl; exact Or.inl rfl)]
        have hLw : F_Law_serve (nI s) σ = some ((0 : Int32), gs τ 31 (upd (τ 31) 0 (if σ 29 (14 + 6 * srv) = nI s then 1 else 0))) := by
          unfold F_Law_serve
          rw [hG, gbh_ok]
          by_cases gg : σ 29 (14 + 6 * srv) = nI s
          · simp only [if_pos gg]
            rw [if_neg (by decide), gl_eq, gs_up]
          · simp only [if_neg gg]
            rw [if_pos trivial, gl_eq, gs_up]
        have kf : ∀ k, 8 ≤ k → τ k = σ3 k := fun k g => t3.1 k (by omega)
        have e29 : τ 29 = σ 29 := by rw [kf 29 (by decide), f3 29 (by decide) (by decide) (by decide) (by decide)]
        have hM2 := hM (gs τ 31 (upd (τ 31) 0 (if σ 29 (14 + 6 * srv) = nI s then 1 else 0))) (by rw [gs_n (by decide)]; exact e29)
        rw [gs_n (show (29 : Nat) ≠ 31 by decide), gs_n (show (28 : Nat) ≠ 31 by decide), e29] at hM2
        refine ⟨_, sh2_ok hLw hM2 ?_ ?_ ?_, ?_⟩
        · rw [gs_n (by decide), gs_s]; unfold upd; rw [if_pos rfl]
        · rw [gs_n (by decide), gs_n (by decide), gs_s]; unfold upd; rw [if_pos rfl]
        · split
          · exact Or.inr rfl
          · exact Or.inl rfl
        · obtain ⟨i1, _, _, _, _⟩ := h
          obtain ⟨zr, hzr⟩ : ∃ zr, zr = vSv (nI s) (vServe srv (nI s) (σ 29)) := ⟨_, rfl⟩
          rw [← hzr]
          have zo : ∀ j, (j = 0 ∨ j = 2 ∨ j = 3 ∨ (9 ≤ j ∧ j < 38) ∨ j = 40 ∨ 42 ≤ j) → zr j = vServe srv (nI s) (σ 29) j := fun j hj => by rw [hzr]; exact vSv_oth hj
          have zo9 : ∀ j, (j = 0 ∨ j = 2 ∨ j = 3 ∨ (10 ≤ j ∧ j < 38) ∨ j = 40 ∨ 42 ≤ j) → zr j = σ 29 j := fun j hj => by rw [zo j (by omega)]; exact vServe_oth (by omega)
          have o : ∀ k, k ≠ 31 → k ≠ 28 → k ≠ 29 → (gs (gs (gs τ 31 (upd (τ 31) 0 (if σ 29 (14 + 6 * srv) = nI s then 1 else 0))) 28 (upd (τ 28) 2 0)) 29 zr) k = τ k := fun k g1 g2 g3 => by rw [gs_n g3, gs_n g2, gs_n g1]
          generalize hW : gs (gs (gs τ 31 (upd (τ 31) 0 (if σ 29 (14 + 6 * srv) = nI s then 1 else 0))) 28 (upd (τ 28) 2 0)) 29 zr = W9 at o
          have w29 : W9 29 = zr := by rw [← hW, gs_s]
          have w15 : W9 15 = upd (upd (upd (upd (upd (upd (upd (σ1 15) 0 1) 1 (nI srv)) 2 (nI s)) 3 (-1)) 4 0) 5 0) 6 0 := by rw [o 15 (by decide) (by decide) (by decide), kf 15 (by decide), hσ3, gup_oth (by decide), hσ2, gs_s]
          have w0 : ∀ j, W9 0 j = if j = 6 then -1 else σ 0 j := fun j => by
            rw [o 0 (by decide) (by decide) (by decide), t3.1 0 (by omega), hσ3, gup_row]
            unfold upd
            rw [hσ2, gs_n (by decide), hσ1, gup_oth (by decide), gup_oth (by decide)]
          have wside : ∀ t, t < 2 → ∀ j, (j = 5 ∨ j = 7 ∨ j = 8) → W9 (1 + 1 + 3 * t) j = σ (1 + 1 + 3 * t) j := fun t ht j hj => by
            rw [o _ (by omega) (by omega) (by omega), ← f3 (1 + 1 + 3 * t) (by omega) (by omega) (by omega) (by omega)]
            rcases two ht with rfl | rfl
            · exact (t3.2.2.2 j hj).1
            · exact (t3.2.2.2 j hj).2
          have z38 : zr 38 = 0 := by rw [hzr]; unfold vSv upd; rw [if_neg (by decide), if_pos rfl]
          have z39 : zr 39 = 0 := by rw [hzr]; unfold vSv upd; rw [if_pos rfl]
          have z41 : zr 41 = 0 := by rw [hzr]; unfold vSv; simp [upd]
          have zz1 : zr 1 = 1 := by rw [hzr]; unfold vSv; simp [upd]
          have zz4 : zr 4 = nI srv := by rw [hzr]; unfold vSv; simp [upd, vServe_oth, z2]
          have zz5 : zr 5 = nI s := by rw [hzr]; unfold vSv; simp [upd]
          have zz7 : zr 7 = 0 := by rw [hzr]; unfold vSv; simp [upd]
          have zz8 : zr 8 = 1 := by rw [hzr]; unfold vSv; simp [upd]
          refine ⟨?_, ⟨?_, ?_⟩, ⟨?_, ?_⟩, Or.inl ⟨by rw [w29]; exact z41, by rw [w0, if_pos rfl]⟩, L + 1, by omega, ?_, Or.inl ⟨?_, ⟨⟨?_, ?_, fun t ht => ?_⟩, ?_, fun t ht => ⟨?_, ?_⟩⟩, ?_, Or.inr ⟨?_, ?_, ?_, ?_, ?_, Or.inl ⟨?_, ?_, ?_⟩, ?_, fun t ht => ?_, ?_⟩⟩⟩
          · rw [w0, if_neg (by decide), w29, zo9 3 (by omega)]; exact i1
          · rw [w29, z38, w15]; simp [upd]
          · rw [w29]; exact Or.inl z38
          · rw [w29, z39, w15]; simp [upd]
          · rw [w29]; exact Or.inl z39
          · rw [o 16 (by decide) (by decide) (by decide), kf 16 (by decide), hσ3, gup_oth (by decide), hσ2, gs_n (by decide), hσ1, gup_s]
          · rw [w29, zo9 0 (by omega)]; exact z0
          · rw [w29, zo 2 (by omega), o 1 (by decide) (by decide) (by decide)]; exact t2.1
          · rw [w29, zo 9 (by omega), o 1 (by decide) (by decide) (by decide)]; exact t2.2.1
          · rw [w29]
            exact SR_keep (t2.2.2 t ht) (o _ (by omega) (by omega) (by omega)) (o _ (by omega) (by omega) (by omega)) (fun j hj => zo j (by unfold cIx at hj; omega))
          · rw [w29]
            exact VV_keep (VV_serve (hC.2.1.mono (by omega))) (zo 2 (by omega)) (fun j a b => zo j (by omega)) (fun t ht => zo _ (by omega))
          · rw [w29]
            exact SX_keep (hC.2.2 t ht).1 (wside t ht 5 (by omega)) (wside t ht 7 (by omega)) (wside t ht 8 (by omega)) (zo9 _ (by omega)) (zo9 _ (by omega)) (zo9 _ (by omega))
          · rw [w29]
            have e : W9 (1 + 1 + 3 * t + 2) = σ (1 + 1 + 3 * t + 2) := by
              rw [o _ (by omega) (by omega) (by omega), ← f3 (1 + 1 + 3 * t + 2) (by omega) (by omega) (by omega) (by omega)]
              rcases two ht with rfl | rfl
              · exact t3.2.1
              · exact t3.2.2.1
            exact PR_keep (hC.2.2 t ht).2 (fun x _ _ => by rw [e]) (zo9 _ (by omega)) (zo9 _ (by omega)) (fun j a b => zo9 j (by omega))
          · have e17 : W9 17 = upd (σ 17) L (gSign 3 (nI srv) (nI s) 0) := by rw [o 17 (by decide) (by decide) (by decide), kf 17 (by decide), hσ3, gup_oth (by decide), hσ2, gs_n (by decide), hσ1, gup_oth (by decide), gup_row]
            rw [w29, e17]
            have r1 : Rdg (upd (σ 17) L (gSign 3 (nI srv) (nI s) 0)) L (RR (σ 29)) := hR.cong (fun j hj => by unfold upd; rw [if_neg (by omega)])
            have r2 := r1.step (k := 3) (t := srv) (a := s) (b := 0) (R' := RR (vServe srv (nI s) (σ 29))) (by unfold upd; rw [if_pos rfl]; rfl) (by decide) hs (by omega) (by decide) (fun τ hτ => fol_serve hs hτ z2)
            exact r2.weak (RR_cong (fun j hj => zo j (by omega)))
          · rw [w29]; exact zz1
          · rw [w15]; simp [upd]
          · rw [w15, w29, zz4]; simp [upd]
          · rw [w15, w29, zz5]; simp [upd]
          · rw [w15, w29, zz7]; simp [upd]
          · rw [w29]; exact zz8
          · rw [w15]; simp [upd]
          · rw [w29, zz4, zo9 2 (by omega)]; exact z2.symm
          · rw [w29]; exact z41
          · rw [o _ (by omega) (by omega) (by omega)]
            rcases two ht with rfl | rfl
            · exact t4
            · exact t5
          · exact ⟨srv, hs, by rw [w29]; exact zz4⟩
      · refine bad2 ?_ ?_
        · unfold F_Game_serve
          rw [shirt_c ⟨s1, s2⟩, gbx_ok, hA, gbx_ok, hC.1.1, z2, gl_eq, p_sideOf hs, gbr_some, eP, gbi_some, q4, if_pos rfl]
        · unfold F_Model_serve
          rw [shirt_m ⟨s1, s2⟩, gbi_some, if_neg (by decide), if_pos z0, if_pos z1, z2, m_place hs, gbi_some, q5, if_pos (by decide)]
    · refine bad2 ?_ ?_
      · unfold F_Game_serve
        rw [shirt_c ⟨s1, s2⟩, gbx_ok, hA, gbx_ex (by decide)]
      · unfold F_Model_serve
        rw [shirt_m ⟨s1, s2⟩, gbi_some, if_neg (by decide)]
        by_cases g0 : σ 29 0 = 1
        · rw [if_pos g0, if_neg (fun g1 => zz ⟨g0, g1⟩)]
        · rw [if_neg g0]
  · have hL : F_Law_serve v σ = some ((1 : Int32), σ) := by
      unfold F_Law_serve F_Game_serve
      rw [c1, gbx_ex (by decide), gbh_ex (by decide), if_pos rfl]
    refine ⟨_, sh2_bad (b := 0) hL (by decide) ?_, INV_t h⟩
    unfold F_Model_serve F_Model_serve_B46 F_Model_serve_B47 F_Model_serve_B66
    rw [c2, gbi_some, if_pos rfl, if_pos rfl, m_goesN _ (by decide), gbi_some, if_pos rfl]
