/-! the calls that read the sheet anew; the other askings -/
theorem p_readI {n : Nat} {σ : gSt} (h : INV n σ) (hn : n < 512) : ∃ σ', F_Reader_read σ = some σ' ∧ RF σ σ' ∧ σ' 20 4 = σ 29 10 ∧ σ' 23 4 = σ 29 11 ∧ (∀ r, r < 6 → σ' 26 r = σ 29 (80 + r) ∧ σ' 27 r = σ 29 (86 + r)) ∧ (σ 29 0 = 1 → ∀ t, t < 2 → ∀ p, 1 ≤ p → p ≤ 6 → σ' (19 + 1 + 3 * t + 1) p = σ 29 (13 + 6 * t + p)) := by
  obtain ⟨_, _, _, _, L, hL, hl, h7⟩ := h
  rcases h7 with ⟨a0, a1, a2, a3⟩ | ⟨a0, a1, a2, a3, a4, a5⟩
  · obtain ⟨σ', q1, q2, q3⟩ := p_read σ a2 (fun _ _ => rfl) hl (by omega)
    exact ⟨σ', q1, q3, (q2.1.2.2 0 (by decide)).2.2.1, (q2.1.2.2 1 (by decide)).2.2.1, q2.2, fun _ t ht p x y => (q2.1.2.2 t ht).2.2.2.2 p x y⟩
  · have hno : σ 29 0 ≠ 1 := by rw [a0]; decide
    rcases a5 with ⟨rfl, b1, b2, b3, b4, b5⟩ | ⟨z, b1, b2, b3, b4⟩
    · obtain ⟨σ', q1, q2, q3, q4, q5⟩ := p_read0 σ (by rw [hl]; rfl)
      refine ⟨σ', q1, q3, by rw [q4, b1, b3], by rw [q5, b2, b4], fun r hr => ⟨?_, ?_⟩, fun g => absurd g hno⟩
      · rw [(q2.2 r hr).1, b5 r (by omega)]
      · rw [(q2.2 r hr).2]
        have := b5 (6 + r) (by omega)
        rw [show 80 + (6 + r) = 86 + r by omega] at this
        exact this.symm
    · obtain ⟨σ', q1, q2, q3⟩ := p_read σ b1 (fun _ _ => rfl) hl (by omega)
      refine ⟨σ', q1, q3, ((q2.1.2.2 0 (by decide)).2.2.1).trans b2, ((q2.1.2.2 1 (by decide)).2.2.1).trans b3, fun r hr => ⟨?_, ?_⟩, fun g => absurd g hno⟩
      · rw [(q2.2 r hr).1, b4 r (by omega)]
      · rw [(q2.2 r hr).2]
        have := b4 (6 + r) (by omega)
        rw [show 80 + (6 + r) = 86 + r by omega] at this
        exact this
theorem INV_r {n : Nat} {σ σ' : gSt} {r r' : vRow} (h : INV n σ) (hf : RF σ σ') (h1 : σ' 20 4 = σ 29 10) (h2 : σ' 23 4 = σ 29 11) : INV (n + 1) (gs (gs σ' 31 r) 28 r') :=
  INV_same h (fun k hk => by rw [gs_n (by omega), gs_n (by omega), hf k (by omega)]) (by rw [gs_n (by decide), gs_n (by decide), hf 29 (by decide)]) (by rw [gs_n (by decide), gs_n (by decide), hf 30 (by decide)]) (fun a b c d => by rw [gs_n (by decide), gs_n (by decide), gs_n (by decide), gs_n (by decide), h1, h2]; exact ⟨c, d⟩)
theorem st_pointsAnew {n : Nat} {σ : gSt} {v : Int32} (h : INV n σ) (hn : n < 512) : ∃ σ', F_case_pointsAnew v σ = some ((1 : Int32), σ') ∧ INV (n + 1) σ' := by
  show ∃ σ', sh1 (F_Law_pointsAnew v σ) (F_Model_pointsAnew v) = some ((1 : Int32), σ') ∧ INV (n + 1) σ'
  rcases team_or v with ⟨t, ht, rfl⟩ | ⟨c1, c2⟩
  · obtain ⟨τ, r1, r2, r3, r4, r5, r6⟩ := p_readI h hn
    have e10 : (10 : Int32) + nI t = nI (10 + t) := nI_add 10 t
    have hL : F_Law_pointsAnew (nI t) σ = some ((0 : Int32), gs τ 31 (upd (τ 31) 0 (τ (19 + 1 + 3 * t) 4))) := by
      unfold F_Law_pointsAnew F_Game_pointsAnew
      rw [team_c ht, gbx_ok, r1, gbv_some, p_sideOf ht, gbr_some, gbh_ok, gl_eq, gs_up]
    have hM : ∀ τ, F_Model_pointsAnew (nI t) τ = some (τ 29 (10 + t), gs τ 28 (upd (τ 28) 2 0)) := fun τ => by
      unfold F_Model_pointsAnew F_Model_pointsAnew_B13
      rw [team_m ht, gbi_some, if_neg (by decide), m_goes0, gbi_some, if_neg (by decide), gif e10 (by omega), gcl e10 (by omega), gs_n (by decide)]
    refine ⟨_, sh1_ok hL (hM _) ?_ ?_, INV_r h r2 r3 r4⟩
    · rw [gs_s]; unfold upd; rw [if_pos rfl]
    · rw [gs_n (by decide), gs_s, gs_n (by decide), r2 29 (by decide)]
      unfold upd
      rw [if_pos rfl]
      rcases two ht with rfl | rfl
      · exact r3
      · exact r4
  · have hL : F_Law_pointsAnew v σ = some ((1 : Int32), σ) := by
      unfold F_Law_pointsAnew F_Game_pointsAnew
      rw [c1, gbx_ex (by decide), gbh_ex (by decide), if_pos rfl]
    refine ⟨_, sh1_bad (b := 0) hL (by decide) ?_, INV_t h⟩
    unfold F_Model_pointsAnew F_Model_pointsAnew_B13
    rw [c2, gbi_some, if_pos rfl, m_goesN _ (by decide), gbi_some, if_pos rfl]
/-- whether a set goes on, in both -/
theorem p_isSetOn {n : Nat} {σ : gSt} (h : INV n σ) : (σ 29 0 = 1 ∧ F_Court_isSetOn 1 σ = some ((1 : Int32), σ)) ∨ (σ 29 0 = 0 ∧ F_Court_isSetOn 1 σ = some ((0 : Int32), σ)) := by
  obtain ⟨_, _, _, _, L, _, _, h7⟩ := h
  unfold F_Court_isSetOn
  rcases h7 with h7 | h7
  · refine Or.inl ⟨h7.1, ?_⟩
    obtain ⟨s, hs, e⟩ := h7.2.1.2.1.1
    rw [h7.2.1.1.1, e, if_neg]
    rcases two hs with rfl | rfl <;> decide
  · refine Or.inr ⟨h7.1, ?_⟩
    rw [h7.2.2.2.1.1, if_pos rfl]
theorem st_atAnew {n : Nat} {σ : gSt} {v w : Int32} (h : INV n σ) (hn : n < 512) : ∃ σ', F_case_atAnew v w σ = some ((1 : Int32), σ') ∧ INV (n + 1) σ' := by
  show ∃ σ', sh1 (F_Law_atAnew v w σ) (F_Model_atAnew v w) = some ((1 : Int32), σ') ∧ INV (n + 1) σ'
  have bad : F_Law_atAnew v w σ = some ((1 : Int32), σ) → (∀ τ, F_Model_isPlace v w τ = some ((0 : Int32), τ)) → ∃ σ', sh1 (F_Law_atAnew v w σ) (F_Model_atAnew v w) = some ((1 : Int32), σ') ∧ INV (n + 1) σ' := fun hL hP => by
    refine ⟨_, sh1_bad (b := 0) hL (by decide) ?_, INV_t h⟩
    unfold F_Model_atAnew F_Model_atAnew_B14
    rw [hP, gbi_some, if_pos rfl, m_goesN _ (by decide), gbi_some, if_pos rfl]
  rcases team_or v with ⟨t, ht, rfl⟩ | ⟨c1, c2⟩
  · rcases place_or w with ⟨q, q1, q2, rfl⟩ | ⟨c1, c2⟩
    · rcases p_isSetOn h with ⟨z0, hS⟩ | ⟨z0, hS⟩
      · obtain ⟨τ, r1, r2, r3, r4, r5, r6⟩ := p_readI h hn
        have hL : F_Law_atAnew (nI t) (nI q) σ = some ((0 : Int32), gs τ 31 (upd (τ 31) 0 (τ (19 + 1 + 3 * t + 1) q))) := by
          unfold F_Law_atAnew F_Game_atAnew
          rw [team_c ht, gbx_ok, place_c ⟨q1, q2⟩, gbx_ok, hS, gbi_some, if_neg (by decide), r1, gbv_some, p_sideOf ht, gbr_some, p_shirtIn (gSideOf gc19 ht) τ (by omega), gbi_some, gbh_ok, gl_eq, gs_up]
        have hM : ∀ τ : gSt, τ 29 0 = 1 → F_Model_atAnew (nI t) (nI q) τ = some (τ 29 (13 + 6 * t + q), gs τ 28 (upd (τ 28) 2 0)) := fun τ hτ => by
          unfold F_Model_atAnew F_Model_atAnew_B14
          rw [m_isPlace ht ⟨q1, q2⟩, gbi_some, if_neg (by decide), m_goes0, gbi_some, if_neg (by decide), gs_n (by decide), hτ, if_pos rfl, m_slot ht (by omega), gbi_some, gif rfl (by omega), gcl rfl (by omega), gs_n (by decide)]
        refine ⟨_, sh1_ok hL (hM _ (by rw [gs_n (by decide), r2 29 (by decide)]; exact z0)) ?_ ?_, INV_r h r2 r3 r4⟩
        · rw [gs_s]; unfold upd; rw [if_pos rfl]
        · rw [gs_n (by decide), gs_s, gs_n (by decide), r2 29 (by decide)]
          unfold upd
          rw [if_pos rfl]
          exact r6 z0 t ht q q1 q2
      · have hL : F_Law_atAnew (nI t) (nI q) σ = some ((0 : Int32), gs σ 31 (upd (σ 31) 0 (-1))) := by
          unfold F_Law_atAnew F_Game_atAnew
          rw [team_c ht, gbx_ok, place_c ⟨q1, q2⟩, gbx_ok, hS, gbi_some, if_pos rfl, gbh_ok, gl_eq, gs_up]
        have hM : ∀ τ : gSt, τ 29 0 = 0 → F_Model_atAnew (nI t) (nI q) τ = some ((-1 : Int32), gs τ 28 (upd (τ 28) 2 0)) := fun τ hτ => by
          unfold F_Model_atAnew F_Model_atAnew_B14
          rw [m_isPlace ht ⟨q1, q2⟩, gbi_some, if_neg (by decide), m_goes0, gbi_some, if_neg (by decide), gs_n (by decide), hτ, if_neg (by decide)]
        refine ⟨_, sh1_ok hL (hM _ (by rw [gs_n (by decide)]; exact z0)) ?_ ?_, INV_q h⟩
        · rw [gs_s]; unfold upd; rw [if_pos rfl]
        · rw [gs_n (by decide), gs_s]
          unfold upd
          rw [if_pos rfl]
    · refine bad ?_ (fun τ => ?_)
      · unfold F_Law_atAnew F_Game_atAnew
        rw [team_c ht, gbx_ok, c1, gbx_ex (by decide), gbh_ex (by decide), if_pos rfl]
      · unfold F_Model_isPlace
        rw [team_m ht, gbi_some, if_neg (by decide), c2, gbi_some, if_pos rfl]
  · refine bad ?_ (fun τ => ?_)
    · unfold F_Law_atAnew F_Game_atAnew
      rw [c1, gbx_ex (by decide), gbh_ex (by decide), if_pos rfl]
    · unfold F_Model_isPlace
      rw [c2, gbi_some, if_pos rfl]
/-- a number in a range, in both -/
theorem in_or (p : Int32) {a b : Int32} {n m : Nat} (ha : a.toInt = n) (hb : b.toInt = m) : (∃ j, n ≤ j ∧ j ≤ m ∧ p = nI j ∧ ¬ p < a ∧ p ≤ b ∧ ∀ σ, F_Model_isIn p a b σ = some ((1 : Int32), σ)) ∨ ((p < a ∨ ¬ p ≤ b) ∧ ∀ σ, F_Model_isIn p a b σ = some ((0 : Int32), σ)) := by
  by_cases h1 : p < a
  · refine Or.inr ⟨Or.inl h1, fun σ => ?_⟩
    unfold F_Model_isIn
    rw [if_pos h1]
  by_cases h2 : p ≤ b
  · obtain ⟨j, h3, h4, h5⟩ := i32_in ha hb h1 h2
    refine Or.inl ⟨j, h3, h4, h5, h1, h2, fun σ => ?_⟩
    unfold F_Model_isIn
    rw [if_neg h1, if_neg (Int32.not_lt.mpr h2)]
  · refine Or.inr ⟨Or.inr h2, fun σ => ?_⟩
    unfold F_Model_isIn
    rw [if_neg h1, if_pos (Int32.not_le.mp h2)]
theorem st_of {n : Nat} {σ : gSt} {v w : Int32} (h : INV n σ) : ∃ σ', F_case_of v w σ = some ((1 : Int32), σ') ∧ INV (n + 1) σ' := by
  show ∃ σ', sh1 (F_Law_of v w σ) (F_Model_of v w) = some ((1 : Int32), σ') ∧ INV (n + 1) σ'
  rcases team_or v with ⟨t, ht, rfl⟩ | ⟨c1, c2⟩
  · have e32 : (32 : Int32) + nI t = nI (32 + t) := nI_add 32 t
    have e34 : (34 : Int32) + nI t = nI (34 + t) := nI_add 34 t
    have hx := (INV_side h t ht).2
    rcases in_or w (a := 0) (b := 1) (n := 0) (m := 1) (by decide) (by decide) with ⟨j, _, hj, hw, g1, g2, g3⟩ | ⟨g1, g3⟩
    · by_cases hw0 : w = 0
      · subst hw0
        have hL : F_Law_of (nI t) 0 σ = some ((0 : Int32), gs σ 31 (upd (σ 31) 0 (σ (1 + 1 + 3 * t) 7))) := by
          unfold F_Law_of F_Game_of
          rw [team_c ht, gbx_ok, if_neg g1, if_pos g2, p_sideOf ht, gbr_some, if_pos rfl, gbh_ok, gl_eq, gs_up]
        have hM : ∀ τ, F_Model_of (nI t) 0 τ = some (τ 29 (32 + t), gs τ 28 (upd (τ 28) 2 0)) := fun τ => by
          unfold F_Model_of F_Model_of_B26
          rw [team_m ht, gbi_some, if_neg (by decide), g3, gbi_some, if_neg (by decide), m_goes0, gbi_some, if_neg (by decide), if_pos rfl, gif e32 (by omega), gcl e32 (by omega), gs_n (by decide)]
        refine ⟨_, sh1_ok hL (hM _) ?_ ?_, INV_q h⟩
        · rw [gs_s]; unfold upd; rw [if_pos rfl]
        · rw [gs_n (by decide), gs_s, gs_n (by decide)]
          unfold upd
          rw [if_pos rfl]
          exact hx.2.1
      · have hL : F_Law_of (nI t) w σ = some ((0 : Int32), gs σ 31 (upd (σ 31) 0 (σ (1 + 1 + 3 * t) 8))) := by
          unfold F_Law_of F_Game_of
          rw [team_c ht, gbx_ok, if_neg g1, if_pos g2, p_sideOf ht, gbr_some, if_neg hw0, gbh_ok, gl_eq, gs_up]
        have hM : ∀ τ, F_Model_of (nI t) w τ = some (τ 29 (34 + t), gs τ 28 (upd (τ 28) 2 0)) := fun τ => by
          unfold F_Model_of F_Model_of_B26
          rw [team_m ht, gbi_some, if_neg (by decide), g3, gbi_some, if_neg (by decide), m_goes0, gbi_some, if_neg (by decide), if_neg hw0, gif e34 (by omega), gcl e34 (by omega), gs_n (by decide)]
        refine ⟨_, sh1_ok hL (hM _) ?_ ?_, INV_q h⟩
        · rw [gs_s]; unfold upd; rw [if_pos rfl]
        · rw [gs_n (by decide), gs_s, gs_n (by decide)]
          unfold upd
          rw [if_pos rfl]
          exact hx.2.2.1
    · have hL : F_Law_of (nI t) w σ = some ((2 : Int32), σ) := by
        unfold F_Law_of F_Game_of F_Game_of_B13
        rw [team_c ht, gbx_ok]
        by_cases g : w < 0
        · rw [if_pos g, gbh_ex (by decide), if_neg (by decide), if_pos rfl]
        · rw [if_neg g, if_neg (g1.resolve_left g), gbh_ex (by decide), if_neg (by decide), if_pos rfl]
      refine ⟨_, sh1_bad (b := 0) hL (by decide) ?_, INV_t h⟩
      unfold F_Model_of F_Model_of_B26
      rw [team_m ht, gbi_some, if_neg (by decide), g3, gbi_some, if_pos rfl, m_goesN _ (by decide), gbi_some, if_pos rfl]
  · have hL : F_Law_of v w σ = some ((1 : Int32), σ) := by
      unfold F_Law_of F_Game_of
      rw [c1, gbx_ex (by decide), gbh_ex (by decide), if_pos rfl]
    refine ⟨_, sh1_bad (b := 0) hL (by decide) ?_, INV_t h⟩
    unfold F_Model_of F_Model_of_B26
    rw [c2, gbi_some, if_pos rfl, m_goesN _ (by decide), gbi_some, if_pos rfl]
theorem m_lostN : ∀ t, t < 2 → ∀ j, j < 6 → (80 : Int32) + 6 * nI t + nI j = nI (80 + 6 * t + j) := by decide
theorem st_lost {n : Nat} {σ : gSt} {v w : Int32} (h : INV n σ) (hn : n < 512) : ∃ σ', F_case_lost v w σ = some ((1 : Int32), σ') ∧ INV (n + 1) σ' := by
  show ∃ σ', sh1 (F_Law_lost v w σ) (F_Model_lost v w) = some ((1 : Int32), σ') ∧ INV (n + 1) σ'
  rcases team_or v with ⟨t, ht, rfl⟩ | ⟨c1, c2⟩
  · rcases in_or w (a := 0) (b := 5) (n := 0) (m := 5) (by decide) (by decide) with ⟨j, _, hj, rfl, g1, g2, g3⟩ | ⟨g1, g3⟩
    · obtain ⟨τ, r1, r2, r3, r4, r5, r6⟩ := p_readI h hn
      have e80 := m_lostN t ht j (by omega)
      have hR : F_Reader_lostBy (nI t) (nI j) τ = some (σ 29 (80 + 6 * t + j), τ) := by
        unfold F_Reader_lostBy F_Reader_rowOf
        rcases two ht with rfl | rfl
        · rw [if_neg (by decide), gbr_some, p_vN τ (show gLn 26 = 6 from rfl) (by omega) (by decide), gbi_some, (r5 j (by omega)).1]
        · rw [if_pos (by decide), gbr_some, p_vN τ (show gLn 27 = 6 from rfl) (by omega) (by decide), gbi_some, (r5 j (by omega)).2]
      have hL : F_Law_lost (nI t) (nI j) σ = some ((0 : Int32), gs τ 31 (upd (τ 31) 0 (σ 29 (80 + 6 * t + j)))) := by
        unfold F_Law_lost F_Game_lost
        rw [team_c ht, gbx_ok, if_neg g1, if_pos (show nI j < 6 from nI_lt (a := j) (b := 6) (by omega) (by decide)), r1, gbv_some, hR, gbi_some, gbh_ok, gl_eq, gs_up]
      have hM : ∀ τ, F_Model_lost (nI t) (nI j) τ = some (τ 29 (80 + 6 * t + j), gs τ 28 (upd (τ 28) 2 0)) := fun τ => by
        unfold F_Model_lost F_Model_lost_B26
        rw [team_m ht, gbi_some, if_neg (by decide), g3, gbi_some, if_neg (by decide), m_goes0, gbi_some, if_neg (by decide), gif e80 (by omega), gcl e80 (by omega), gs_n (by decide)]
      refine ⟨_, sh1_ok hL (hM _) ?_ ?_, INV_r h r2 r3 r4⟩
      · rw [gs_s]; unfold upd; rw [if_pos rfl]
      · rw [gs_n (by decide), gs_s, gs_n (by decide), r2 29 (by decide)]
        unfold upd
        rw [if_pos rfl]
    · have hL : F_Law_lost (nI t) w σ = some ((2 : Int32), σ) := by
        unfold F_Law_lost F_Game_lost F_Game_lost_B14
        rw [team_c ht, gbx_ok]
        by_cases g : w < 0
        · rw [if_pos g, gbh_ex (by decide), if_neg (by decide), if_pos rfl]
        · have g6 : ¬ w < 6 := by
            have g5 := g1.resolve_left g
            rw [Int32.le_iff_toInt_le, show (5 : Int32).toInt = 5 by decide] at g5
            rw [Int32.lt_iff_toInt_lt, show (6 : Int32).toInt = 6 by decide]
            omega
          rw [if_neg g, if_neg g6, gbh_ex (by decide), if_neg (by decide), if_pos rfl]
      refine ⟨_, sh1_bad (b := 0) hL (by decide) ?_, INV_t h⟩
      unfold F_Model_lost F_Model_lost_B26
      rw [team_m ht, gbi_some, if_neg (by decide), g3, gbi_some, if_pos rfl, m_goesN _ (by decide), gbi_some, if_pos rfl]
  · have hL : F_Law_lost v w σ = some ((1 : Int32), σ) := by
      unfold F_Law_lost F_Game_lost
      rw [c1, gbx_ex (by decide), gbh_ex (by decide), if_pos rfl]
    refine ⟨_, sh1_bad (b := 0) hL (by decide) ?_, INV_t h⟩
    unfold F_Model_lost F_Model_lost_B26
    rw [c2, gbi_some, if_pos rfl, m_goesN _ (by decide), gbi_some, if_pos rfl]
/-- whether a rally goes on, in both -/
theorem p_isRally {n : Nat} {σ : gSt} (h : INV n σ) : (σ 29 1 = 1 ∧ σ 15 0 = 1 ∧ σ 29 0 = 1 ∧ σ 15 2 = σ 29 5) ∨ (σ 29 1 = 0 ∧ σ 15 0 = 0) := by
  obtain ⟨_, _, _, _, L, _, _, h7⟩ := h
  rcases h7 with ⟨a0, a1, a2, a3 | a3⟩ | h7
  · exact Or.inr ⟨a3.1, a3.2.1⟩
  · exact Or.inl ⟨a3.1, a3.2.1, a0, a3.2.2.2.1⟩
  · exact Or.inr ⟨h7.2.1, h7.2.2.1⟩
theorem st_about {n : Nat} {σ : gSt} {v : Int32} (h : INV n σ) : ∃ σ', F_case_about v σ = some ((1 : Int32), σ') ∧ INV (n + 1) σ' := by
  show ∃ σ', sh1 (F_Law_about v σ) (F_Model_about v) = some ((1 : Int32), σ') ∧ INV (n + 1) σ'
  have good : ∀ x : Int32, F_Game_about v σ = some ((0 : Int32), x, σ) → (∀ τ : gSt, τ 29 = σ 29 → F_Model_about v τ = some (x, gs τ 28 (upd (τ 28) 2 0))) → ∃ σ', sh1 (F_Law_about v σ) (F_Model_about v) = some ((1 : Int32), σ') ∧ INV (n + 1) σ' := fun x hx hM => by
    have hL : F_Law_about v σ = some ((0 : Int32), gs σ 31 (upd (σ 31) 0 x)) := by
      unfold F_Law_about
      rw [hx, gbh_ok, gl_eq, gs_up]
    refine ⟨_, sh1_ok hL (hM _ (gs_n (by decide))) ?_ ?_, INV_q h⟩
    · rw [gs_s]; unfold upd; rw [if_pos rfl]
    · rw [gs_n (by decide), gs_s]
      unfold upd
      rw [if_pos rfl]
  rcases in_or v (a := 0) (b := 4) (n := 0) (m := 4) (by decide) (by decide) with ⟨j, _, hj, rfl, g1, g2, g3⟩ | ⟨g1, g3⟩
  · have hMM : ∀ τ, F_Model_about (nI j) τ = F_Model_about_B15 (nI j) (nI j) 0 τ := fun τ => by
      unfold F_Model_about
      rw [g3, gbi_some, if_neg (by decide)]
    have hj5 : j = 0 ∨ j = 1 ∨ j = 2 ∨ j = 3 ∨ j = 4 := by omega
    rcases hj5 with rfl | rfl | rfl | rfl | rfl
    · refine good (σ 29 0) ?_ (fun τ hτ => ?_)
      · unfold F_Game_about
        rw [if_pos (by decide)]
        rcases p_isSetOn h with ⟨z0, hS⟩ | ⟨z0, hS⟩
        · rw [hS, gbi_some, if_neg (by decide), z0]
        · rw [hS, gbi_some, if_pos rfl, z0]
      · rw [hMM]; unfold F_Model_about_B15
        rw [m_goes0, gbi_some, if_neg (by decide), if_pos (by decide), gs_n (by decide), hτ]
    · refine good (σ 29 1) ?_ (fun τ hτ => ?_)
      · unfold F_Game_about
        rw [if_neg (by decide), if_pos (by decide)]
        rcases p_isRally h with ⟨z0, hS, _⟩ | ⟨z0, hS⟩
        · rw [hS, if_neg (by decide), z0]
        · rw [hS, if_pos rfl, z0]
      · rw [hMM]; unfold F_Model_about_B15
        rw [m_goes0, gbi_some, if_neg (by decide), if_neg (by decide), if_pos (by decide), gs_n (by decide), hτ]
    · refine good (σ 1 2) ?_ (fun τ hτ => ?_)
      · unfold F_Game_about
        rw [if_neg (by decide), if_neg (by decide), if_pos (by decide)]
      · rw [hMM]; unfold F_Model_about_B15
        rw [m_goes0, gbi_some, if_neg (by decide), if_neg (by decide), if_neg (by decide), if_pos (by decide), gs_n (by decide), hτ]
        obtain ⟨_, _, _, _, L, _, _, h7⟩ := h
        rcases h7 with h7 | h7
        · rw [if_pos h7.1, h7.2.1.1.1]
        · rw [if_neg (by rw [h7.1]; decide), h7.2.2.2.1.1]
    · refine good (σ 0 7) ?_ (fun τ hτ => ?_)
      · unfold F_Game_about
        rw [if_neg (by decide), if_neg (by decide), if_neg (by decide), if_pos (by decide)]
      · rw [hMM]; unfold F_Model_about_B15
        rw [m_goes0, gbi_some, if_neg (by decide), if_neg (by decide), if_neg (by decide), if_neg (by decide), if_pos (by decide), gs_n (by decide), hτ, h.1]
    · rcases p_isRally h with ⟨z0, hS, _, hS2⟩ | ⟨z0, hS⟩
      · refine good (σ 29 5) ?_ (fun τ hτ => ?_)
        · unfold F_Game_about
          rw [if_neg (by decide), if_neg (by decide), if_neg (by decide), if_neg (by decide), if_pos (by decide), hS, if_neg (by decide), hS2]
        · rw [hMM]; unfold F_Model_about_B15
          rw [m_goes0, gbi_some, if_neg (by decide), if_neg (by decide), if_neg (by decide), if_neg (by decide), if_neg (by decide), gs_n (by decide), hτ, if_pos z0]
      · refine good (-1) ?_ (fun τ hτ => ?_)
        · unfold F_Game_about
          rw [if_neg (by decide), if_neg (by decide), if_neg (by decide), if_neg (by decide), if_pos (by decide), hS, if_pos rfl]
        · rw [hMM]; unfold F_Model_about_B15
          rw [m_goes0, gbi_some, if_neg (by decide), if_neg (by decide), if_neg (by decide), if_neg (by decide), if_neg (by decide), gs_n (by decide), hτ, if_neg (by rw [z0]; decide)]
  · have ne : ∀ k : Int32, ¬ k < 0 → k ≤ 4 → v ≠ k := fun k a b e => by
      subst e
      exact g1.elim a (fun q => q b)
    have hL : F_Law_about v σ = some ((1 : Int32), σ) := by
      unfold F_Law_about F_Game_about
      rw [if_neg (ne 0 (by decide) (by decide)), if_neg (ne 1 (by decide) (by decide)), if_neg (ne 2 (by decide) (by decide)), if_neg (ne 3 (by decide) (by decide)), if_neg (ne 4 (by decide) (by decide)), gbh_ex (by decide), if_pos rfl]
    refine ⟨_, sh1_bad (b := 0) hL (by decide) ?_, INV_t h⟩
    unfold F_Model_about F_Model_about_B15
    rw [g3, gbi_some, if_pos rfl, m_goesN _ (by decide), gbi_some, if_pos rfl]
