/-! the orders ahead of a set -/
theorem p_ahead {n : Nat} {σ : gSt} (h : INV n σ) : (σ 29 0 = 0 ∧ ¬ (σ 29 12 = 3 ∨ σ 29 13 = 3) ∧ F_Game_checkAheadOfSet σ = some ((0 : Int32), (0 : Int32), σ)) ∨ ((σ 29 0 = 1 ∨ (σ 29 0 = 0 ∧ (σ 29 12 = 3 ∨ σ 29 13 = 3))) ∧ F_Game_checkAheadOfSet σ = some ((3 : Int32), (0 : Int32), σ)) := by
  have e1 : σ 2 5 = σ 29 12 := (INV_side h 0 (by decide)).2.1
  have e2 : σ 5 5 = σ 29 13 := (INV_side h 1 (by decide)).2.1
  unfold F_Game_checkAheadOfSet F_Game_checkAheadOfSet_B20
  rcases p_isSetOn h with ⟨z0, hS⟩ | ⟨z0, hS⟩
  · refine Or.inr ⟨Or.inl z0, ?_⟩
    rw [hS, gbi_some, if_neg (by decide)]
  · rw [hS, gbi_some, if_pos rfl]
    unfold F_Court_isMatchOver
    rw [show (1 : Nat) + 1 = 2 from rfl, show (1 : Nat) + 4 = 5 from rfl, e1, e2]
    by_cases g1 : σ 29 12 = 3
    · rw [if_pos g1, gbi_some, if_neg (by decide)]
      exact Or.inr ⟨Or.inr ⟨z0, Or.inl g1⟩, rfl⟩
    · rw [if_neg g1]
      by_cases g2 : σ 29 13 = 3
      · rw [if_pos g2, gbi_some, if_neg (by decide)]
        exact Or.inr ⟨Or.inr ⟨z0, Or.inr g2⟩, rfl⟩
      · rw [if_neg g2, gbi_some, if_pos rfl]
        exact Or.inl ⟨z0, fun q => q.elim g1 g2, rfl⟩
theorem INV_off {n : Nat} {σ : gSt} (h : INV n σ) (z0 : σ 29 0 = 0) : ∃ L, L ≤ 15 + n ∧ σ 16 1 = nI L ∧ OFF L σ := by
  obtain ⟨_, _, _, _, L, h5, h6, h7⟩ := h
  rcases h7 with h7 | h7
  · exact absurd (h7.1.symm.trans z0) (by decide)
  · exact ⟨L, h5, h6, h7⟩
theorem INV_on {n : Nat} {σ : gSt} (h : INV n σ) (z0 : σ 29 0 = 1) : ∃ L, L ≤ 15 + n ∧ σ 16 1 = nI L ∧ ON n L σ := by
  obtain ⟨_, _, _, _, L, h5, h6, h7⟩ := h
  rcases h7 with h7 | h7
  · exact ⟨L, h5, h6, h7⟩
  · exact absurd (h7.1.symm.trans z0) (by decide)
/-- an order's number, written in both while no set goes on -/
theorem INV_order {n t : Nat} {σ τ : gSt} {z : vRow} (ht : t < 2) (h : INV n σ) (z0 : σ 29 0 = 0) (hz : τ 29 = z) (h41 : z 41 = 0) (hzo : ∀ j, (j < 14 ∨ 28 ≤ j) → j ≠ 41 → z j = σ 29 j) (hzt : ∀ j, cIx (1 - t) j → z j = σ 29 j)
    (hS : SR (1 + 1 + 3 * t) t τ z) (hO : ∀ p, 1 ≤ p → p ≤ 6 → (pRow t z p = -1 ∨ ∃ s, 1 ≤ s ∧ s ≤ 20 ∧ pRow t z p = nI s)) (hO2 : z (26 + t) = -1 ∨ ∃ s, 1 ≤ s ∧ s ≤ 20 ∧ z (26 + t) = nI s)
    (h5 : ∀ j, j ≠ 2 → τ (1 + 1 + 3 * t) j = σ (1 + 1 + 3 * t) j) (h0 : ∀ j, j ≠ 6 → τ 0 j = σ 0 j) (h06 : τ 0 6 = -1) (hf : ∀ k, k ≠ 0 → k ≠ 1 + 1 + 3 * t → k ≠ 1 + 1 + 3 * t + 1 → k < 28 → τ k = σ k) : INV (n + 1) τ := by
  obtain ⟨L, a1, a2, b0, b1, b2, b3, b4, b5⟩ := INV_off h z0
  obtain ⟨c1, c2, c3, _⟩ := h
  refine ⟨?_, ?_, ?_, Or.inl ⟨by rw [hz]; exact h41, h06⟩, L, by omega, by rw [hf 16 (by omega) (by omega) (by omega) (by omega)]; exact a2, Or.inr ⟨?_, ?_, ?_, ⟨?_, ?_, fun t' ht' => ?_⟩, fun t' ht' => ?_, ?_⟩⟩
  · rw [h0 7 (by decide), hz, hzo 3 (by omega) (by omega), c1]
  · rw [hf 15 (by omega) (by omega) (by omega) (by omega), hz, hzo 38 (by omega) (by omega)]; exact c2
  · rw [hf 15 (by omega) (by omega) (by omega) (by omega), hz, hzo 39 (by omega) (by omega)]; exact c3
  · rw [hz, hzo 0 (by omega) (by omega), b0]
  · rw [hz, hzo 1 (by omega) (by omega), b1]
  · rw [hf 15 (by omega) (by omega) (by omega) (by omega), b2]
  · rw [hf 1 (by omega) (by omega) (by omega) (by omega)]; exact b3.1
  · rw [hf 1 (by omega) (by omega) (by omega) (by omega)]; exact b3.2.1
  · rw [hz]
    obtain ⟨d1, d2, d3⟩ := b3.2.2 t' ht'
    by_cases g : t' = t
    · subst g
      exact ⟨hS, SX_keep d2 (h5 5 (by decide)) (h5 7 (by decide)) (h5 8 (by decide)) (hzo _ (by omega) (by omega)) (hzo _ (by omega) (by omega)) (hzo _ (by omega) (by omega)), by rw [hzo _ (by omega) (by omega)]; exact d3⟩
    · obtain rfl : t' = 1 - t := by omega
      have e : ∀ i, i < 3 → τ (1 + 1 + 3 * (1 - t) + i) = σ (1 + 1 + 3 * (1 - t) + i) := fun i hi => hf _ (by omega) (by omega) (by omega) (by omega)
      exact ⟨SR_keep d1 (e 0 (by decide)) (e 1 (by decide)) hzt, SX_keep d2 (congrFun (e 0 (by decide)) 5) (congrFun (e 0 (by decide)) 7) (congrFun (e 0 (by decide)) 8) (hzo _ (by omega) (by omega)) (hzo _ (by omega) (by omega)) (hzo _ (by omega) (by omega)), by rw [hzo _ (by omega) (by omega)]; exact d3⟩
  · rw [hz]
    by_cases g : t' = t
    · subst g
      exact ⟨hO2, hO⟩
    · obtain rfl : t' = 1 - t := by omega
      obtain ⟨d1, d2⟩ := b4 _ ht'
      refine ⟨by rw [hzt _ (by unfold cIx; omega)]; exact d1, fun p x y => ?_⟩
      rw [pRow_cong hzt x y]
      exact d2 p x y
  · rw [hz, hf 20 (by omega) (by omega) (by omega) (by omega), hf 23 (by omega) (by omega) (by omega) (by omega), hf 17 (by omega) (by omega) (by omega) (by omega), hzo 10 (by omega) (by omega), hzo 11 (by omega) (by omega)]
    rcases b5 with ⟨e1, e2, e3, e4, e5, e6⟩ | ⟨y, e1, e2, e3, e4⟩
    · exact Or.inl ⟨e1, e2, e3, e4, e5, fun j hj => by rw [hzo _ (by omega) (by omega)]; exact e6 j hj⟩
    · exact Or.inr ⟨y, e1, e2, e3, fun j hj => by rw [hzo _ (by omega) (by omega)]; exact e4 j hj⟩
theorem st_line {n : Nat} {σ : gSt} {v w x : Int32} (h : INV n σ) : ∃ σ', F_case_line v w x σ = some ((1 : Int32), σ') ∧ INV (n + 1) σ' := by
  show ∃ σ', sh1 (F_Law_line v w x σ) (F_Model_line v w x) = some ((1 : Int32), σ') ∧ INV (n + 1) σ'
  have bad : F_Law_line v w x σ = some ((1 : Int32), σ) → (∀ τ, F_Model_line v w x τ = F_Model_line_B29 v w x v w x 0 τ) → ∃ σ', sh1 (F_Law_line v w x σ) (F_Model_line v w x) = some ((1 : Int32), σ') ∧ INV (n + 1) σ' := fun hL hP => by
    refine ⟨_, sh1_bad (b := 0) hL (by decide) ?_, INV_t h⟩
    rw [hP]
    unfold F_Model_line_B29 F_Model_line_B63
    rw [if_pos rfl, m_goesN _ (by decide), gbi_some, if_pos rfl]
  rcases team_or v with ⟨t, ht, rfl⟩ | ⟨c1, c2⟩
  · rcases place_or w with ⟨q, q1, q2, rfl⟩ | ⟨c1, c2⟩
    · rcases shirt_or x with ⟨s, s1, s2, rfl⟩ | ⟨c1, c2⟩
      · have hin : ∀ τ, F_Model_isIn (nI q) 1 6 τ = some ((1 : Int32), τ) := fun τ => isIn_y ⟨q1, q2⟩ (by decide) τ
        have hM0 : ∀ τ, F_Model_line (nI t) (nI q) (nI s) τ = F_Model_line_B29 (nI t) (nI q) (nI s) (nI t) (nI q) (nI s) 1 τ := fun τ => by
          unfold F_Model_line
          rw [team_m ht, gbi_some, if_neg (by decide), hin, gbi_some, if_neg (by decide), shirt_m ⟨s1, s2⟩, gbi_some, if_neg (by decide)]
        rcases p_ahead h with ⟨z0, zo, hA⟩ | ⟨zz, hA⟩
        · have hL : F_Law_line (nI t) (nI q) (nI s) σ = some ((0 : Int32), gs (gup (gup σ (1 + 1 + 3 * t + 1) q (nI s)) 0 6 (-1)) 31 (upd (σ 31) 0 (σ 29 (13 + 6 * t + q)))) := by
            unfold F_Law_line F_Game_line
            rw [team_c ht, gbx_ok, place_c ⟨q1, q2⟩, gbx_ok, shirt_c ⟨s1, s2⟩, gbx_ok, hA, gbx_ok, p_sideOf ht, gbr_some, p_shirtIn (gSideOf gc1 ht) σ (by omega), gbi_some, p_put (gSideOf gc1 ht) σ (by omega), gbv_some, gl_eq, gbh_ok, gl_eq, gs_up (k := 31), ((INV_side h t ht).1).2.2.2.2 q q1 q2, gup_oth (k' := 31) (by decide), gup_oth (k' := 31) (by omega)]
          have hM : ∀ τ : gSt, τ 29 = σ 29 → F_Model_line (nI t) (nI q) (nI s) τ = some (σ 29 (13 + 6 * t + q), gs (gs τ 28 (upd (τ 28) 2 0)) 29 (upd (upd (σ 29) 41 0) (13 + 6 * t + q) (nI s))) := fun τ hτ => by
            rw [hM0]
            unfold F_Model_line_B29
            rw [if_neg (by decide), hτ, z0, if_neg (by decide), m_isOver, hτ, if_neg zo, gbi_some, if_pos rfl]
            unfold F_Model_line_B63
            rw [m_goes0, gbi_some, if_neg (by decide), gl_eq, m_slot ht (by omega), gbi_some, gif rfl (by omega), gl_eq, m_slot ht (by omega), gbi_some, gif rfl (by omega), gcl rfl (by omega), gl_eq, gs_up, gs_up, gs_s, gs_gs, gs_n (by decide), hτ]
            have : upd (σ 29) 41 0 (13 + 6 * t + q) = σ 29 (13 + 6 * t + q) := by unfold upd; rw [if_neg (by omega)]
            rw [this]
          refine ⟨_, sh1_ok hL (hM _ (by rw [gs_n (by decide), gup_oth (by decide), gup_oth (by omega)])) ?_ ?_, ?_⟩
          · rw [gs_n (by decide), gs_s]; unfold upd; rw [if_pos rfl]
          · rw [gs_n (by decide), gs_n (by decide), gs_s]; unfold upd; rw [if_pos rfl]
          · obtain ⟨L, a1, a2, b0, b1, b2, b3, b4, b5⟩ := INV_off h z0
            obtain ⟨r2, r3, r4, r6, rs⟩ := (INV_side h t ht).1
            have zu : ∀ j, j ≠ 41 → j ≠ 13 + 6 * t + q → upd (upd (σ 29) 41 0) (13 + 6 * t + q) (nI s) j = σ 29 j := fun j g1 g2 => by unfold upd; rw [if_neg g2, if_neg g1]
            have zq : upd (upd (σ 29) 41 0) (13 + 6 * t + q) (nI s) (13 + 6 * t + q) = nI s := by unfold upd; rw [if_pos rfl]
            refine INV_order (z := upd (upd (σ 29) 41 0) (13 + 6 * t + q) (nI s)) ht h z0 gs_s ?_ (fun j g1 g2 => zu j g2 (by omega)) (fun j g1 => zu j (by unfold cIx at g1; omega) (by unfold cIx at g1; omega)) ⟨?_, ?_, ?_, ?_, fun p x y => ?_⟩ (fun p x y => ?_) ?_ (fun j g => ?_) (fun j g => ?_) ?_ (fun k g1 g2 g3 g4 => ?_)
            · unfold upd; rw [if_neg (by omega), if_pos rfl]
            · rw [gs_n (by omega), gs_n (by omega), gs_n (by omega), gup_oth (by omega), gup_oth (by omega), zu _ (by omega) (by omega)]; exact r2
            · rw [gs_n (by omega), gs_n (by omega), gs_n (by omega), gup_oth (by omega), gup_oth (by omega), zu _ (by omega) (by omega)]; exact r3
            · rw [gs_n (by omega), gs_n (by omega), gs_n (by omega), gup_oth (by omega), gup_oth (by omega), zu _ (by omega) (by omega)]; exact r4
            · rw [gs_n (by omega), gs_n (by omega), gs_n (by omega), gup_oth (by omega), gup_oth (by omega), zu _ (by omega) (by omega)]; exact r6
            · rw [gs_n (by omega), gs_n (by omega), gs_n (by omega), gup_oth (by omega)]
              by_cases g : p = q
              · rw [g, gup_s, zq]
              · rw [gup_n (by omega), zu _ (by omega) (by omega)]; exact rs p x y
            · unfold pRow
              by_cases g : p = q
              · rw [g, zq]; exact Or.inr ⟨s, s1, s2, rfl⟩
              · rw [zu _ (by omega) (by omega)]; exact (b4 t ht).2 p x y
            · rw [zu _ (by omega) (by omega)]; exact (b4 t ht).1
            · rw [gs_n (by omega), gs_n (by omega), gs_n (by omega), gup_oth (by omega), gup_oth (by omega)]
            · rw [gs_n (by omega), gs_n (by omega), gs_n (by omega), gup_n (by omega), gup_oth (by omega)]
            · rw [gs_n (by omega), gs_n (by omega), gs_n (by omega), gup_s]
            · rw [gs_n (by omega), gs_n (by omega), gs_n (by omega), gup_oth g1, gup_oth g3]
        · have hL : F_Law_line (nI t) (nI q) (nI s) σ = some ((2 : Int32), σ) := by
            unfold F_Law_line F_Game_line
            rw [team_c ht, gbx_ok, place_c ⟨q1, q2⟩, gbx_ok, shirt_c ⟨s1, s2⟩, gbx_ok, hA, gbx_ex (by decide), gbh_ex (by decide), if_neg (by decide), if_pos rfl]
          refine ⟨_, sh1_bad (b := 0) hL (by decide) ?_, INV_t h⟩
          have h58 : F_Model_line_B58 (nI t) (nI q) (nI s) (nI t) (nI q) (nI s) σ = some ((0 : Int32), gs σ 28 (upd (σ 28) 2 2)) := by
            unfold F_Model_line_B58 F_Model_line_B63
            rw [m_goesN _ (by decide), gbi_some, if_pos rfl]
          rw [hM0]
          unfold F_Model_line_B29
          rw [if_neg (by decide)]
          rcases zz with z1 | ⟨z0, z3⟩
          · rw [if_pos z1, h58]
          · rw [if_neg (by rw [z0]; decide), m_isOver, if_pos z3, gbi_some, if_neg (by decide), h58]
      · refine bad ?_ (fun τ => ?_)
        · unfold F_Law_line F_Game_line
          rw [team_c ht, gbx_ok, place_c ⟨q1, q2⟩, gbx_ok, c1, gbx_ex (by decide), gbh_ex (by decide), if_pos rfl]
        · have hin : ∀ τ, F_Model_isIn (nI q) 1 6 τ = some ((1 : Int32), τ) := fun τ => isIn_y ⟨q1, q2⟩ (by decide) τ
          unfold F_Model_line
          rw [team_m ht, gbi_some, if_neg (by decide), hin, gbi_some, if_neg (by decide), c2, gbi_some, if_pos rfl]
          rfl
    · refine bad ?_ (fun τ => ?_)
      · unfold F_Law_line F_Game_line
        rw [team_c ht, gbx_ok, c1, gbx_ex (by decide), gbh_ex (by decide), if_pos rfl]
      · unfold F_Model_line
        rw [team_m ht, gbi_some, if_neg (by decide), c2, gbi_some, if_pos rfl]
        rfl
  · refine bad ?_ (fun τ => ?_)
    · unfold F_Law_line F_Game_line
      rw [c1, gbx_ex (by decide), gbh_ex (by decide), if_pos rfl]
    · unfold F_Model_line
      rw [c2, gbi_some, if_pos rfl]
      rfl
