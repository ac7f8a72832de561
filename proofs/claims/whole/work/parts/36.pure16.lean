/-! the libero's order -/
theorem st_libero {n : Nat} {σ : gSt} {v x : Int32} (h : INV n σ) : ∃ σ', F_case_libero v x σ = some ((1 : Int32), σ') ∧ INV (n + 1) σ' := by
  show ∃ σ', sh1 (F_Law_libero v x σ) (F_Model_libero v x) = some ((1 : Int32), σ') ∧ INV (n + 1) σ'
  have bad : F_Law_libero v x σ = some ((1 : Int32), σ) → (∀ τ, F_Model_libero v x τ = F_Model_libero_B19 v x v x 0 τ) → ∃ σ', sh1 (F_Law_libero v x σ) (F_Model_libero v x) = some ((1 : Int32), σ') ∧ INV (n + 1) σ' := fun hL hP => by
    refine ⟨_, sh1_bad (b := 0) hL (by decide) ?_, INV_t h⟩
    rw [hP]
    unfold F_Model_libero_B19 F_Model_libero_B51
    rw [if_pos rfl, m_goesN _ (by decide), gbi_some, if_pos rfl]
  rcases team_or v with ⟨t, ht, rfl⟩ | ⟨c1, c2⟩
  · rcases shirt_or x with ⟨s, s1, s2, rfl⟩ | ⟨c1, c2⟩
    · have e26 : (26 : Int32) + nI t = nI (26 + t) := nI_add 26 t
      have hM0 : ∀ τ, F_Model_libero (nI t) (nI s) τ = F_Model_libero_B19 (nI t) (nI s) (nI t) (nI s) 1 τ := fun τ => by
        unfold F_Model_libero
        rw [team_m ht, gbi_some, if_neg (by decide), shirt_m ⟨s1, s2⟩, gbi_some, if_neg (by decide)]
      rcases p_ahead h with ⟨z0, zo, hA⟩ | ⟨zz, hA⟩
      · have hL : F_Law_libero (nI t) (nI s) σ = some ((0 : Int32), gs (gup (gup σ (1 + 1 + 3 * t) 2 (nI s)) 0 6 (-1)) 31 (upd (σ 31) 0 (σ 29 (26 + t)))) := by
          unfold F_Law_libero F_Game_libero
          rw [team_c ht, gbx_ok, shirt_c ⟨s1, s2⟩, gbx_ok, hA, gbx_ok, p_sideOf ht, gbr_some, gl_eq, gl_eq, gl_eq, gbh_ok, gl_eq, gs_up (k := 31), ((INV_side h t ht).1).1, gup_oth (k' := 31) (by decide), gup_oth (k' := 31) (by omega)]
        have hM : ∀ τ : gSt, τ 29 = σ 29 → F_Model_libero (nI t) (nI s) τ = some (σ 29 (26 + t), gs (gs τ 28 (upd (τ 28) 2 0)) 29 (upd (upd (σ 29) 41 0) (26 + t) (nI s))) := fun τ hτ => by
          rw [hM0]
          unfold F_Model_libero_B19
          rw [if_neg (by decide), hτ, z0, if_neg (by decide), m_isOver, hτ, if_neg zo, gbi_some, if_pos rfl]
          unfold F_Model_libero_B51
          rw [m_goes0, gbi_some, if_neg (by decide), gl_eq, gif e26 (by omega), gl_eq, gif e26 (by omega), gl_eq, gcl e26 (by omega), gs_up, gs_up, gs_s, gs_gs, gs_n (by decide), hτ]
          have : upd (σ 29) 41 0 (26 + t) = σ 29 (26 + t) := by unfold upd; rw [if_neg (by omega)]
          rw [this]
        refine ⟨_, sh1_ok hL (hM _ (by rw [gs_n (by decide), gup_oth (by decide), gup_oth (by omega)])) ?_ ?_, ?_⟩
        · rw [gs_n (by decide), gs_s]; unfold upd; rw [if_pos rfl]
        · rw [gs_n (by decide), gs_n (by decide), gs_s]; unfold upd; rw [if_pos rfl]
        · obtain ⟨L, a1, a2, b0, b1, b2, b3, b4, b5⟩ := INV_off h z0
          obtain ⟨r2, r3, r4, r6, rs⟩ := (INV_side h t ht).1
          have zu : ∀ j, j ≠ 41 → j ≠ 26 + t → upd (upd (σ 29) 41 0) (26 + t) (nI s) j = σ 29 j := fun j g1 g2 => by unfold upd; rw [if_neg g2, if_neg g1]
          have zq : upd (upd (σ 29) 41 0) (26 + t) (nI s) (26 + t) = nI s := by unfold upd; rw [if_pos rfl]
          refine INV_order (z := upd (upd (σ 29) 41 0) (26 + t) (nI s)) ht h z0 gs_s ?_ (fun j g1 g2 => zu j g2 (by omega)) (fun j g1 => zu j (by unfold cIx at g1; omega) (by unfold cIx at g1; omega)) ⟨?_, ?_, ?_, ?_, fun p x y => ?_⟩ (fun p x y => ?_) ?_ (fun j g => ?_) (fun j g => ?_) ?_ (fun k g1 g2 g3 g4 => ?_)
          · unfold upd; rw [if_neg (by omega), if_pos rfl]
          · rw [gs_n (by omega), gs_n (by omega), gs_n (by omega), gup_oth (by omega), gup_s, zq]
          · rw [gs_n (by omega), gs_n (by omega), gs_n (by omega), gup_oth (by omega), gup_n (by omega), zu _ (by omega) (by omega)]; exact r3
          · rw [gs_n (by omega), gs_n (by omega), gs_n (by omega), gup_oth (by omega), gup_n (by omega), zu _ (by omega) (by omega)]; exact r4
          · rw [gs_n (by omega), gs_n (by omega), gs_n (by omega), gup_oth (by omega), gup_n (by omega), zu _ (by omega) (by omega)]; exact r6
          · rw [gs_n (by omega), gs_n (by omega), gs_n (by omega), gup_oth (by omega), gup_oth (by omega), zu _ (by omega) (by omega)]; exact rs p x y
          · unfold pRow
            rw [zu _ (by omega) (by omega)]; exact (b4 t ht).2 p x y
          · rw [zq]; exact Or.inr ⟨s, s1, s2, rfl⟩
          · rw [gs_n (by omega), gs_n (by omega), gs_n (by omega), gup_oth (by omega), gup_n (by omega)]
          · rw [gs_n (by omega), gs_n (by omega), gs_n (by omega), gup_n (by omega), gup_oth (by omega)]
          · rw [gs_n (by omega), gs_n (by omega), gs_n (by omega), gup_s]
          · rw [gs_n (by omega), gs_n (by omega), gs_n (by omega), gup_oth g1, gup_oth g2]
      · have hL : F_Law_libero (nI t) (nI s) σ = some ((2 : Int32), σ) := by
          unfold F_Law_libero F_Game_libero
          rw [team_c ht, gbx_ok, shirt_c ⟨s1, s2⟩, gbx_ok, hA, gbx_ex (by decide), gbh_ex (by decide), if_neg (by decide), if_pos rfl]
        refine ⟨_, sh1_bad (b := 0) hL (by decide) ?_, INV_t h⟩
        have h58 : F_Model_libero_B46 (nI t) (nI s) (nI t) (nI s) σ = some ((0 : Int32), gs σ 28 (upd (σ 28) 2 2)) := by
          unfold F_Model_libero_B46 F_Model_libero_B51
          rw [m_goesN _ (by decide), gbi_some, if_pos rfl]
        rw [hM0]
        unfold F_Model_libero_B19
        rw [if_neg (by decide)]
        rcases zz with z1 | ⟨z0, z3⟩
        · rw [if_pos z1, h58]
        · rw [if_neg (by rw [z0]; decide), m_isOver, if_pos z3, gbi_some, if_neg (by decide), h58]
    · refine bad ?_ (fun τ => ?_)
      · unfold F_Law_libero F_Game_libero
        rw [team_c ht, gbx_ok, c1, gbx_ex (by decide), gbh_ex (by decide), if_pos rfl]
      · unfold F_Model_libero
        rw [team_m ht, gbi_some, if_neg (by decide), c2, gbi_some, if_pos rfl]
        rfl
  · refine bad ?_ (fun τ => ?_)
    · unfold F_Law_libero F_Game_libero
      rw [c1, gbx_ex (by decide), gbh_ex (by decide), if_pos rfl]
    · unfold F_Model_libero
      rw [c2, gbi_some, if_pos rfl]
      rfl
