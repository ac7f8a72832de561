/-! a substitution in the model's row -/
theorem m_sub_yes {t m s g c q : Nat} {a b d : Int32} {f : Nat → Int32} (ht : t < 2) (τ : gSt) {z : vRow} (hτ : τ 29 = z) (hms : m ≤ s) (hs5 : s < 6) (h78 : z (78 + t) = nI m) (h32 : z (32 + t) = nI s)
    (h5 : ∀ i, i < m → ∃ a b : Nat, 1 ≤ a ∧ a ≤ 20 ∧ 1 ≤ b ∧ b ≤ 20 ∧ a ≠ b ∧ z (42 + 18 * t + 3 * i) = nI a ∧ z (43 + 18 * t + 3 * i) = nI b ∧ ((z (44 + 18 * t + 3 * i) = 1 ∧ f a = -1 ∧ f b = nI a) ∨ (z (44 + 18 * t + 3 * i) = 2 ∧ f a = -1 ∧ f b = -1)))
    (h6 : ∀ x, 1 ≤ x → x ≤ 20 → (∀ i, i < m → z (42 + 18 * t + 3 * i) ≠ nI x ∧ z (43 + 18 * t + 3 * i) ≠ nI x) → f x = 0)
    (h7 : ∀ i j, i < m → j < m → i ≠ j → z (42 + 18 * t + 3 * i) ≠ z (42 + 18 * t + 3 * j) ∧ z (42 + 18 * t + 3 * i) ≠ z (43 + 18 * t + 3 * j) ∧ z (43 + 18 * t + 3 * i) ≠ z (43 + 18 * t + 3 * j))
    (hg : 1 ≤ g ∧ g ≤ 20) (hc : 1 ≤ c ∧ c ≤ 20) (hgc : g ≠ c) (hok : okC f g c) (hq : 1 ≤ q ∧ q ≤ 6) (hp1 : pFirst (pRow t z) (nI g) = nI q) (hp2 : pLast (pRow t z) (nI g) = nI q) :
    ∃ y : vRow, y 41 = 0 ∧ y (32 + t) = nI (s + 1) ∧ (∀ j, j ≠ 41 → j ≠ 32 + t → j ≠ 78 + t → (j < 42 + 18 * t ∨ 60 + 18 * t ≤ j) → y j = z j) ∧ (∀ f' : Nat → Int32, (∀ x, f' x = if x = c then (if f g = nI c then -1 else nI g) else if x = g then -1 else f x) → PR t f' y) ∧ F_Model_substitute_B140 a b d (nI t) (nI g) (nI c) 1 1 τ = some (nI (s + 1), gs (gs τ 28 (upd (τ 28) 2 0)) 29 (vSub t (nI g) (nI c) y)) := by
  obtain ⟨r1, w1, v1⟩ := m_pair ht (show m ≤ 6 by omega) τ hτ h78 (nI g)
  obtain ⟨r2, w2, v2⟩ := m_pair ht (show m ≤ 6 by omega) τ hτ h78 (nI c)
  have e78 : (78 : Int32) + nI t = nI (78 + t) := nI_add 78 t
  have o78 : ¬ ((78 : Int32) + nI t < 0 ∨ 92 ≤ 78 + t) := by rw [e78]; exact gin (by omega)
  have h140 : F_Model_substitute_B140 a b d (nI t) (nI g) (nI c) 1 1 τ = F_Model_substitute_B174 a b d (nI t) (nI g) (nI c) 1 1 r1 r2 τ := by
    unfold F_Model_substitute_B140 F_Model_substitute_B157
    rw [if_neg (by decide), w1, gbi_some, if_neg (by decide), w2, gbi_some]
  rw [h140]
  have pf : ∀ y1 : vRow, (∀ j, 14 ≤ j → j < 26 → y1 j = z j) → pFirst (pRow t y1) (nI g) = nI q ∧ pLast (pRow t y1) (nI g) = nI q := fun y1 h1 => by
    refine ⟨?_, ?_⟩
    · rw [pFirst_cong (f := pRow t y1) (g := pRow t z) (fun p p1 p2 => h1 _ (by omega) (by omega))]; exact hp1
    · rw [← hp2]
      unfold pLast pRow
      rw [h1 _ (by omega) (by omega), h1 _ (by omega) (by omega), h1 _ (by omega) (by omega), h1 _ (by omega) (by omega), h1 _ (by omega) (by omega), h1 _ (by omega) (by omega)]
  rcases pairs_ok ht hms (by omega) h5 h6 h7 hg hc hgc v1 v2 with ⟨p1, p2, p3, p4, p5, p6⟩ | ⟨i, p1, p2, p3, p4, p5, p6, p7, p8⟩ | ⟨p1, p2, p3⟩
  · obtain ⟨y1, hy1⟩ : ∃ y1, y1 = upd (upd (upd (upd (upd z 41 0) (42 + 18 * t + 3 * m) (nI g)) (43 + 18 * t + 3 * m) (nI c)) (44 + 18 * t + 3 * m) 1) (78 + t) (nI (m + 1)) := ⟨_, rfl⟩
    have yo : ∀ j, j ≠ 41 → j ≠ 78 + t → (j < 42 + 18 * t + 3 * m ∨ 60 + 18 * t ≤ j) → y1 j = z j := fun j g1 g2 g3 => by
      rw [hy1]; unfold upd
      rw [if_neg g2, if_neg (by omega), if_neg (by omega), if_neg (by omega), if_neg g1]
    have y132 : y1 (32 + t) = nI s := by rw [yo _ (by omega) (by omega) (by omega)]; exact h32
    obtain ⟨k1, k2⟩ := pf y1 (fun j x1 x2 => yo j (by omega) (by omega) (by omega))
    refine ⟨upd y1 (32 + t) (nI (s + 1)), ?_, ?_, fun j g1 g2 g3 g4 => ?_, fun f' hf' => ?_, ?_⟩
    · rw [hy1]; unfold upd
      rw [if_neg (by omega), if_neg (by omega), if_neg (by omega), if_neg (by omega), if_neg (by omega), if_pos rfl]
    · unfold upd; rw [if_pos rfl]
    · have : upd y1 (32 + t) (nI (s + 1)) j = y1 j := by unfold upd; rw [if_neg g2]
      rw [this]; exact yo j g1 g3 (by omega)
    · have u : ∀ j, j ≠ 32 + t → upd y1 (32 + t) (nI (s + 1)) j = y1 j := fun j g => by unfold upd; rw [if_neg g]
      refine PR_new hms hs5 h5 h6 h7 hg hc hgc p5 p6 (fun x => by rw [hf' x, if_neg p4]) ?_ ?_ (fun j x1 x2 => ?_) ?_ ?_ ?_
      · rw [u _ (by omega), hy1]; unfold upd; rw [if_pos rfl]
      · unfold upd; rw [if_pos rfl]
      · rw [u _ (by omega)]; exact yo j (by omega) (by omega) (by omega)
      · rw [u _ (by omega), hy1]; unfold upd; rw [if_neg (by omega), if_neg (by omega), if_neg (by omega), if_pos rfl]
      · rw [u _ (by omega), hy1]; unfold upd; rw [if_neg (by omega), if_neg (by omega), if_pos rfl]
      · rw [u _ (by omega), hy1]; unfold upd; rw [if_neg (by omega), if_pos rfl]
    · have em := nI_pix t ht m (by omega)
      have e1 : nI (42 + 18 * t + 3 * m) + 1 = nI (43 + 18 * t + 3 * m) := by rw [nI_1, show 42 + 18 * t + 3 * m + 1 = 43 + 18 * t + 3 * m by omega]
      have e2 : nI (42 + 18 * t + 3 * m) + 2 = nI (44 + 18 * t + 3 * m) := by rw [show nI (42 + 18 * t + 3 * m) + 2 = nI (42 + 18 * t + 3 * m + 2) from nI_add _ 2, show 42 + 18 * t + 3 * m + 2 = 44 + 18 * t + 3 * m by omega]
      have u78 : upd z 41 0 (78 + t) = nI m := by unfold upd; rw [if_neg (by omega)]; exact h78
      have u78b : upd (upd (upd (upd z 41 0) (42 + 18 * t + 3 * m) (nI g)) (43 + 18 * t + 3 * m) (nI c)) (44 + 18 * t + 3 * m) 1 (78 + t) = nI m := by
        unfold upd; rw [if_neg (by omega), if_neg (by omega), if_neg (by omega), if_neg (by omega)]; exact h78
      unfold F_Model_substitute_B174 F_Model_substitute_B219 F_Model_substitute_B220 F_Model_substitute_B254 F_Model_substitute_B259
      rw [if_pos p1, if_neg (by decide), if_neg (by decide), if_pos rfl, if_pos p1, if_pos p2, m_goes0, gbi_some, if_neg (by decide), gs_up, gs_n (show (29 : Nat) ≠ 28 by decide), hτ, gl_eq, if_pos rfl, gif e78 (by omega), gcl e78 (by omega), gs_s, u78, em, gl_eq, gif rfl (by omega), gcl rfl (by omega), gs_up, gs_s, gs_gs, gl_eq, e1, gif rfl (by omega), gcl rfl (by omega), gs_up, gs_s, gs_gs, gl_eq, e2, gif rfl (by omega), gcl rfl (by omega), gs_up, gs_s, gs_gs, gl_eq, if_neg o78, if_neg o78, gs_up, gs_s, gs_gs, gl_eq, u78b, nI_1, ← hy1]
      rw [m_sb355 (y1 := y1) (y := upd y1 (32 + t) (nI (s + 1))) ht _ gs_s hq k1 k2 (by rw [y132, nI_1]), y132, nI_1, gs_gs]
  · have i2 : r1 + 2 = nI (44 + 18 * t + 3 * i) := by rw [p2, show nI (42 + 18 * t + 3 * i) + 2 = nI (42 + 18 * t + 3 * i + 2) from nI_add _ 2, show 42 + 18 * t + 3 * i + 2 = 44 + 18 * t + 3 * i by omega]
    have i1 : r1 + 1 = nI (43 + 18 * t + 3 * i) := by rw [p2, nI_1, show 42 + 18 * t + 3 * i + 1 = 43 + 18 * t + 3 * i by omega]
    have o2 : ¬ (r1 + 2 < 0 ∨ 92 ≤ 44 + 18 * t + 3 * i) := by rw [i2]; exact gin (by omega)
    have hn1 : r1 ≠ -1 := by rw [p2]; exact nI_ne1 (by omega)
    obtain ⟨y1, hy1⟩ : ∃ y1, y1 = upd (upd z 41 0) (44 + 18 * t + 3 * i) 2 := ⟨_, rfl⟩
    have yo : ∀ j, j ≠ 41 → j ≠ 44 + 18 * t + 3 * i → y1 j = z j := fun j g1 g2 => by
      rw [hy1]; unfold upd
      rw [if_neg g2, if_neg g1]
    have y132 : y1 (32 + t) = nI s := by rw [yo _ (by omega) (by omega)]; exact h32
    obtain ⟨k1, k2⟩ := pf y1 (fun j x1 x2 => yo j (by omega) (by omega))
    refine ⟨upd y1 (32 + t) (nI (s + 1)), ?_, ?_, fun j g1 g2 g3 g4 => ?_, fun f' hf' => ?_, ?_⟩
    · rw [hy1]; unfold upd
      rw [if_neg (by omega), if_neg (by omega), if_pos rfl]
    · unfold upd; rw [if_pos rfl]
    · have : upd y1 (32 + t) (nI (s + 1)) j = y1 j := by unfold upd; rw [if_neg g2]
      rw [this]; exact yo j g1 (by omega)
    · have u : ∀ j, j ≠ 32 + t → upd y1 (32 + t) (nI (s + 1)) j = y1 j := fun j g => by unfold upd; rw [if_neg g]
      refine PR_back (k := i) hms hs5 h5 h6 h7 hg hc hgc p1 p4 p5 (fun x => by rw [hf' x, if_pos p8]) ?_ h78 ?_ (fun j x1 x2 x3 => ?_) ?_
      · rw [u _ (by omega)]; exact yo _ (by omega) (by omega)
      · unfold upd; rw [if_pos rfl]
      · rw [u _ (by omega)]; exact yo j (by omega) x3
      · rw [u _ (by omega), hy1]; unfold upd; rw [if_pos rfl]
    · unfold F_Model_substitute_B174 F_Model_substitute_B220 F_Model_substitute_B254 F_Model_substitute_B259
      rw [if_neg hn1, if_pos p3.symm, gif i2 (by omega), gcl i2 (by omega), hτ, if_pos p6, gif i1 (by omega), gcl i1 (by omega), if_pos p5, if_neg (by decide), if_neg (by decide), if_neg (by decide), m_goes0, gbi_some, if_neg (by decide), gs_up, gs_n (show (29 : Nat) ≠ 28 by decide), hτ, gl_eq, if_neg (by decide), if_neg o2, gs_up, gs_s, gs_gs, gl_eq, ← hy1]
      rw [m_sb355 (y1 := y1) (y := upd y1 (32 + t) (nI (s + 1))) ht _ gs_s hq k1 k2 (by rw [y132, nI_1]), y132, nI_1, gs_gs]
  · exact absurd hok p1
theorem st_substitute {n : Nat} {σ : gSt} {v x w : Int32} (h : INV n σ) (hn : n < 512) : ∃ σ', F_case_substitute v x w σ = some ((1 : Int32), σ') ∧ INV (n + 1) σ' := by
  show ∃ σ', sh1 (F_Law_substitute v x w σ) (F_Model_substitute v x w) = some ((1 : Int32), σ') ∧ INV (n + 1) σ'
  have bad1 : F_Game_substitute v x w σ = some ((1 : Int32), (0 : Int32), σ) → F_Model_substitute v x w σ = F_Model_substitute_B25 v x w v x w σ → ∃ σ', sh1 (F_Law_substitute v x w σ) (F_Model_substitute v x w) = some ((1 : Int32), σ') ∧ INV (n + 1) σ' := fun hG hM => by
    have hL : F_Law_substitute v x w σ = some ((1 : Int32), σ) := by
      unfold F_Law_substitute
      rw [hG, gbh_ex (by decide), if_pos rfl]
    refine ⟨_, sh1_bad (b := 0) hL (by decide) ?_, INV_t h⟩
    rw [hM, m_sb25]
  have bad2 : F_Game_substitute v x w σ = some ((3 : Int32), (0 : Int32), σ) → F_Model_substitute v x w σ = some ((0 : Int32), gs σ 28 (upd (σ 28) 2 2)) → ∃ σ', sh1 (F_Law_substitute v x w σ) (F_Model_substitute v x w) = some ((1 : Int32), σ') ∧ INV (n + 1) σ' := fun hG hM => by
    have hL : F_Law_substitute v x w σ = some ((2 : Int32), σ) := by
      unfold F_Law_substitute
      rw [hG, gbh_ex (by decide), if_neg (by decide), if_pos rfl]
    exact ⟨_, sh1_bad (b := 0) hL (by decide) hM, INV_t h⟩
  rcases team_or v with ⟨t, ht, rfl⟩ | ⟨c1, c2⟩
  · rcases shirt_or x with ⟨g, g1, g2, rfl⟩ | ⟨c1, c2⟩
    · rcases shirt_or w with ⟨c, d1, d2, rfl⟩ | ⟨c1, c2⟩
      · have hM00 : ∀ τ, F_Model_substitute (nI t) (nI g) (nI c) τ = F_Model_substitute_B26 (nI t) (nI g) (nI c) (nI t) (nI g) (nI c) 1 τ := fun τ => by
          unfold F_Model_substitute
          rw [team_m ht, gbi_some, if_neg (by decide), shirt_m ⟨g1, g2⟩, gbi_some, if_neg (by decide), shirt_m ⟨d1, d2⟩, gbi_some, if_neg (by decide)]
        rcases p_btw h with ⟨z0, z1, ⟨L, hL, hl, hC, hR, hB⟩, hA⟩ | ⟨zz, hA⟩
        · have hV := (hC.2.1.2 t ht).1
          have hkS := gSideOf gc1 ht
          obtain ⟨m, s, b1, b2, b3, b4, b5, b6, b7⟩ := (hC.2.2 t ht).2
          have hG0 : F_Game_substitute (nI t) (nI g) (nI c) σ = gbi (F_Side_canSubstitute (1 + 1 + 3 * t) (nI g) (nI c) σ) fun r9 σ8 => if r9 = (0 : Int32) then (some ((3 : Int32), (0 : Int32), σ8)) else (gbv (F_Sheet_write (7 : Int32) (nI t) (nI g) (nI c) σ8) fun σ11 => gbv (F_Side_swapByPair (1 + 1 + 3 * t) (nI g) (nI c) σ11) fun σ12 => gl (gup σ12 0 6 (-1 : Int32)) fun σ13 => some ((0 : Int32), (σ13 (1 + 1 + 3 * t) 7), σ13)) := by
            unfold F_Game_substitute
            rw [team_c ht, gbx_ok, shirt_c ⟨g1, g2⟩, gbx_ok, shirt_c ⟨d1, d2⟩, gbx_ok, hA, gbx_ok, p_sideOf ht, gbr_some]
          rcases sub_pre (a := nI t) (b := nI g) (d := nI c) hkS ht (hC.1.2.2 t ht) hV.1 (hC.2.2 t ht).1.2.1 b4 b2 z0 z1 ⟨g1, g2⟩ ⟨d1, d2⟩ with ⟨⟨⟨s', s1, s2⟩, u1, u2, u3, ⟨q, q1, q2, q3, q4, q5⟩, u5⟩, hcan, hM1⟩ | ⟨hcan, hM1⟩
          · have hs5 : s < 6 := by
              have : s = s' := (nI_eq (by omega) (by omega)).mp (b4.symm.trans s2)
              omega
            have hgc : g ≠ c := fun e => u5 q q1 q2 (by rw [q3, e])
            rcases hcan with ⟨hok, hcan⟩ | ⟨hok, hcan⟩
            · obtain ⟨σ1, hσ1⟩ : ∃ σ1, σ1 = gup (gup σ 17 L (gSign 7 (nI t) (nI g) (nI c))) 16 1 (nI (L + 1)) := ⟨_, rfl⟩
              have f1 : ∀ k, k ≠ 16 → k ≠ 17 → σ1 k = σ k := fun k e1 e2 => by rw [hσ1, gup_oth e1, gup_oth e2]
              have hS1 : SR (1 + 1 + 3 * t) t σ1 (σ 29) := SR_keep (hC.1.2.2 t ht) (f1 _ (by omega) (by omega)) (f1 _ (by omega) (by omega)) (fun _ _ => rfl)
              obtain ⟨σ2, t1, t2, t3, t4, t5, t6⟩ := p_swapByPair hkS ht hS1 ⟨g1, g2⟩ ⟨d1, d2⟩ ⟨q1, q2⟩ q4
              obtain ⟨σ3, hσ3⟩ : ∃ σ3, σ3 = gup σ2 0 6 (-1) := ⟨_, rfl⟩
              have f3 : ∀ k, k ≠ 0 → σ3 k = σ2 k := fun k e => by rw [hσ3, gup_oth e]
              have g3 : ∀ k, 8 ≤ k → k ≠ 16 → k ≠ 17 → σ3 k = σ k := fun k e a b => by rw [f3 k (by omega), t3 k (by omega) (by omega) (by omega), f1 k a b]
              have e7 : σ3 (1 + 1 + 3 * t) 7 = nI (s + 1) := by rw [f3 _ (by omega), t5, f1 _ (by omega) (by omega), (hC.2.2 t ht).1.2.1, b4, nI_1]
              have hLw : F_Law_substitute (nI t) (nI g) (nI c) σ = some ((0 : Int32), gs σ3 31 (upd (σ3 31) 0 (nI (s + 1)))) := by
                unfold F_Law_substitute
                rw [hG0, hcan, gbi_some, if_neg (by decide), p_write 7 (nI t) (nI g) (nI c) hl (by omega), gbv_some, ← hσ1, t1, gbv_some, gl_eq, ← hσ3, e7, gbh_ok, gl_eq, gs_up]
              have e29 : (gs σ3 31 (upd (σ3 31) 0 (nI (s + 1)))) 29 = σ 29 := by rw [gs_n (by decide)]; exact g3 29 (by decide) (by decide) (by decide)
              obtain ⟨y, y41, y32, yo, yP, hM2⟩ := m_sub_yes (a := nI t) (b := nI g) (d := nI c) ht (gs σ3 31 (upd (σ3 31) 0 (nI (s + 1)))) e29 b1 hs5 b3 b4 b5 b6 b7 ⟨g1, g2⟩ ⟨d1, d2⟩ hgc hok ⟨q1, q2⟩ q4 q5
              refine ⟨_, sh1_ok hLw ((hM00 _).trans ((hM1 _ e29).trans hM2)) ?_ ?_, ?_⟩
              · rw [gs_n (by decide), gs_s]; unfold upd; rw [if_pos rfl]
              · rw [gs_n (by decide), gs_n (by decide), gs_s]; unfold upd; rw [if_pos rfl]
              · generalize hW : gs (gs (gs σ3 31 (upd (σ3 31) 0 (nI (s + 1)))) 28 (upd ((gs σ3 31 (upd (σ3 31) 0 (nI (s + 1)))) 28) 2 0)) 29 (vSub t (nI g) (nI c) y) = W9
                have wk : ∀ k, k < 28 → W9 k = σ3 k := fun k e => by rw [← hW, gs_n (by omega), gs_n (by omega), gs_n (by omega)]
                have w29 : W9 29 = vSub t (nI g) (nI c) y := by rw [← hW, gs_s]
                have ypr : ∀ p, 1 ≤ p → p ≤ 6 → pRow t y p = pRow t (σ 29) p := fun p p1 p2 => yo _ (by omega) (by omega) (by omega) (by omega)
                have hp : pFirst (pRow t y) (nI g) = nI q := by rw [pFirst_cong ypr]; exact q4
                have vo : ∀ j, ¬ (14 + 6 * t ≤ j ∧ j ≤ 19 + 6 * t) → vSub t (nI g) (nI c) y j = y j := fun j e => vSub_oth ht ⟨q1, q2⟩ hp e
                have vz : ∀ j, ¬ (14 + 6 * t ≤ j ∧ j ≤ 19 + 6 * t) → j ≠ 41 → j ≠ 32 + t → j ≠ 78 + t → (j < 42 + 18 * t ∨ 60 + 18 * t ≤ j) → vSub t (nI g) (nI c) y j = σ 29 j := fun j e0 e1 e2 e3 e4 => by rw [vo j e0, yo j e1 e2 e3 e4]
                have hVt : Vt t y := Vt_keep (yo _ (by omega) (by omega) (by omega) (by omega)) (yo _ (by omega) (by omega) (by omega) (by omega)) (fun j a b => yo j (by omega) (by omega) (by omega) (by omega)) hV
                have hVy : Vt t (vSub t (nI g) (nI c) y) := Vt_sub ht hVt ⟨q1, q2⟩ hp (by rw [ypr q q1 q2]; exact q3) (by rw [yo _ (by omega) (by omega) (by omega) (by omega)]; exact u1) (by rw [yo _ (by omega) (by omega) (by omega) (by omega)]; exact u2) (by rw [yo _ (by omega) (by omega) (by omega) (by omega)]; exact u3) (fun p p1 p2 => by rw [ypr p p1 p2]; exact u5 p p1 p2)
                have hS2 : SR (1 + 1 + 3 * t) t σ2 (vSub t (nI g) (nI c) y) := by
                  refine SR_keep t2 rfl rfl (fun j hj => ?_)
                  unfold vSub
                  rw [hp, q4]
                  unfold upd
                  unfold cIx at hj
                  by_cases e : j = 13 + 6 * t + (nI q).toNatClampNeg
                  · rw [if_pos e, if_pos e]
                  · rw [if_neg e, if_neg e]; exact yo j (by omega) (by omega) (by omega) (by omega)
                have hC1 : CS 1 σ1 (σ 29) := ⟨by rw [f1 1 (by decide) (by decide)]; exact hC.1.1, by rw [f1 1 (by decide) (by decide)]; exact hC.1.2.1, fun t' ht' => SR_keep (hC.1.2.2 t' ht') (f1 _ (by omega) (by omega)) (f1 _ (by omega) (by omega)) (fun _ _ => rfl)⟩
                have hC2 : CO 1 n σ2 (vSub t (nI g) (nI c) y) := by
                  refine ⟨CS_side ht hC1 hS2 (fun k' a b d => t3 k' a b d) (vz _ (by omega) (by omega) (by omega) (by omega) (by omega)) (vz _ (by omega) (by omega) (by omega) (by omega) (by omega)) (fun j hj => vz j (by unfold cIx at hj; omega) (by unfold cIx at hj; omega) (by unfold cIx at hj; omega) (by unfold cIx at hj; omega) (by unfold cIx at hj; omega)), VV_side ht hC.2.1 (vz _ (by omega) (by omega) (by omega) (by omega) (by omega)) hVy (fun j hj => vz j (by unfold cIx at hj; omega) (by unfold cIx at hj; omega) (by unfold cIx at hj; omega) (by unfold cIx at hj; omega) (by unfold cIx at hj; omega)) (vz _ (by omega) (by omega) (by omega) (by omega) (by omega)), fun t' ht' => ⟨?_, ?_⟩⟩
                  · by_cases e : t' = t
                    · subst e
                      obtain ⟨k1, k2, k3, k4⟩ := (hC.2.2 _ ht').1
                      refine ⟨?_, ?_, ?_, ?_⟩
                      · rw [t4 5 (by decide), f1 _ (by omega) (by omega), k1, vz _ (by omega) (by omega) (by omega) (by omega) (by omega)]
                      · rw [t5, f1 _ (by omega) (by omega), k2, b4, nI_1, vo _ (by omega), y32]
                      · rw [t4 8 (by decide), f1 _ (by omega) (by omega), k3, vz _ (by omega) (by omega) (by omega) (by omega) (by omega)]
                      · rw [vz _ (by omega) (by omega) (by omega) (by omega) (by omega)]; exact k4
                    · have e2 : σ2 (1 + 1 + 3 * t') = σ (1 + 1 + 3 * t') := (t3 _ (by omega) (by omega) (by omega)).trans (f1 _ (by omega) (by omega))
                      exact SX_keep (hC.2.2 _ ht').1 (congrFun e2 5) (congrFun e2 7) (congrFun e2 8) (vz _ (by omega) (by omega) (by omega) (by omega) (by omega)) (vz _ (by omega) (by omega) (by omega) (by omega) (by omega)) (vz _ (by omega) (by omega) (by omega) (by omega) (by omega))
                  · by_cases e : t' = t
                    · subst e
                      have hPy := yP (σ2 (1 + 1 + 3 * t' + 2)) (fun x => by
                        rw [t6, f1 _ (by omega) (by omega)]
                        rfl)
                      exact PR_keep hPy (fun _ _ _ => rfl) (vo _ (by omega)) (vo _ (by omega)) (fun j a b => vo j (by omega))
                    · refine PR_keep (hC.2.2 _ ht').2 (fun x _ _ => ?_) (vz _ (by omega) (by omega) (by omega) (by omega) (by omega)) (vz _ (by omega) (by omega) (by omega) (by omega) (by omega)) (fun j a b => vz j (by omega) (by omega) (by omega) (by omega) (by omega))
                      rw [t3 _ (by omega) (by omega) (by omega), f1 _ (by omega) (by omega)]
                refine INV_tell h (L := L) (by omega) w29 (vz _ (by omega) (by omega) (by omega) (by omega) (by omega)) (vz _ (by omega) (by omega) (by omega) (by omega) (by omega)) (vz _ (by omega) (by omega) (by omega) (by omega) (by omega)) (by rw [vo _ (by omega)]; exact y41) (by rw [vz _ (by omega) (by omega) (by omega) (by omega) (by omega)]; exact z0) (by rw [vz _ (by omega) (by omega) (by omega) (by omega) (by omega)]; exact z1) ?_ ?_ ?_ hB.2.1 ?_ ?_ ?_ (fun t' ht' => ?_)
                · rw [wk 0 (by decide), hσ3, gup_s]
                · rw [wk 0 (by decide), hσ3, gup_n (by decide), t3 0 (by omega) (by omega) (by omega), f1 0 (by decide) (by decide)]
                · rw [wk 15 (by decide), g3 15 (by decide) (by decide) (by decide)]
                · rw [wk 16 (by decide), f3 16 (by decide), t3 16 (by omega) (by omega) (by omega), hσ1, gup_s]
                · exact CO_keep (hC2.mono (by omega)) (fun i a b => by rw [wk i (by omega), f3 i (by omega)]) (fun _ _ => rfl)
                · have e17 : W9 17 = upd (σ 17) L (gSign 7 (nI t) (nI g) (nI c)) := by rw [wk 17 (by decide), f3 17 (by decide), t3 17 (by omega) (by omega) (by omega), hσ1, gup_oth (by decide), gup_row]
                  rw [e17]
                  have r1 : Rdg (upd (σ 17) L (gSign 7 (nI t) (nI g) (nI c))) L (RR y) := (hR.cong (fun j hj => by unfold upd; rw [if_neg (by omega)])).weak (RR_cong (fun j hj => yo j (by omega) (by omega) (by omega) (by omega)))
                  exact r1.step (k := 7) (t := t) (a := g) (b := c) (by unfold upd; rw [if_pos rfl]; rfl) (by decide) ht (by omega) (by omega) (fun τ hτ => fol_subst ht hτ ⟨g1, g2⟩ ⟨d1, d2⟩ ⟨q1, q2⟩ hp)
                · rw [wk _ (by omega), f3 _ (by omega), vz _ (by omega) (by omega) (by omega) (by omega) (by omega)]
                  by_cases e : t' = t
                  · subst e
                    rw [t4 9 (by decide), f1 _ (by omega) (by omega)]
                    exact hB.2.2 _ ht'
                  · rw [t3 _ (by omega) (by omega) (by omega), f1 _ (by omega) (by omega)]
                    exact hB.2.2 _ ht'
            · refine bad2 ?_ ?_
              · rw [hG0, hcan, gbi_some, if_pos rfl]
              · rw [hM00, hM1 σ rfl]
                exact m_sub_no ht σ rfl b1 b2 b3 b5 b6 b7 ⟨g1, g2⟩ ⟨d1, d2⟩ hgc hok
          · refine bad2 ?_ ?_
            · rw [hG0, hcan, gbi_some, if_pos rfl]
            · rw [hM00, hM1 σ rfl]
        · refine bad2 ?_ ?_
          · unfold F_Game_substitute
            rw [team_c ht, gbx_ok, shirt_c ⟨g1, g2⟩, gbx_ok, shirt_c ⟨d1, d2⟩, gbx_ok, hA, gbx_ex (by decide)]
          · rw [hM00]
            unfold F_Model_substitute_B26
            rw [if_neg (by decide), m_sb70]
            by_cases g0 : σ 29 0 = 1
            · rw [if_pos g0, if_neg (fun g1 => zz ⟨g0, g1⟩)]
            · rw [if_neg g0]
      · refine bad1 ?_ ?_
        · unfold F_Game_substitute
          rw [team_c ht, gbx_ok, shirt_c ⟨g1, g2⟩, gbx_ok, c1, gbx_ex (by decide)]
        · unfold F_Model_substitute
          rw [team_m ht, gbi_some, if_neg (by decide), shirt_m ⟨g1, g2⟩, gbi_some, if_neg (by decide), c2, gbi_some, if_pos rfl]
    · refine bad1 ?_ ?_
      · unfold F_Game_substitute
        rw [team_c ht, gbx_ok, c1, gbx_ex (by decide)]
      · unfold F_Model_substitute
        rw [team_m ht, gbi_some, if_neg (by decide), c2, gbi_some, if_pos rfl]
  · refine bad1 ?_ ?_
    · unfold F_Game_substitute
      rw [c1, gbx_ex (by decide)]
    · unfold F_Model_substitute
      rw [c2, gbi_some, if_pos rfl]
