/-! a set begins, both sides -/
theorem st_begin {n : Nat} {σ : gSt} {v : Int32} (h : INV n σ) : ∃ σ', F_case_begin v σ = some ((1 : Int32), σ') ∧ INV (n + 1) σ' := by
  show ∃ σ', sh1 (F_Law_begin v σ) (F_Model_begin v) = some ((1 : Int32), σ') ∧ INV (n + 1) σ'
  rcases team_or v with ⟨t, ht, rfl⟩ | ⟨c1, c2⟩
  · have bad2 : F_Game_begin (nI t) σ = some ((3 : Int32), (0 : Int32), σ) → ¬ (σ 29 0 = 0 ∧ ¬ (σ 29 12 = 3 ∨ σ 29 13 = 3) ∧ RDY 0 (σ 29) ∧ RDY 1 (σ 29)) → ∃ σ', sh1 (F_Law_begin (nI t) σ) (F_Model_begin (nI t)) = some ((1 : Int32), σ') ∧ INV (n + 1) σ' := fun hG hN => by
      have hL : F_Law_begin (nI t) σ = some ((2 : Int32), σ) := by
        unfold F_Law_begin
        rw [hG, gbh_ex (by decide), if_neg (by decide), if_pos rfl]
      refine ⟨_, sh1_bad (b := 0) hL (by decide) ?_, INV_t h⟩
      rcases m_begin (v := nI t) σ rfl with ⟨_, e2⟩ | ⟨e1, _⟩
      · exact absurd e2 hN
      · rw [e1]
        unfold F_Model_begin_B37 F_Model_begin_B59
        rw [team_m ht, gbi_some, if_neg (by decide), if_pos rfl, m_goesN _ (by decide), gbi_some, if_pos rfl]
    have hG34 : F_Game_begin_B34 (nI t) σ = some ((3 : Int32), (0 : Int32), σ) := rfl
    rcases p_ahead h with ⟨z0, zo, hA⟩ | ⟨zz, hA⟩
    · rcases p_ready (k := 2) (t := 0) (gSideOf gc1 (t := 0) (by decide)) (INV_side h 0 (by decide)).1 with ⟨r0, y0⟩ | ⟨r0, y0⟩
      · rcases p_ready (k := 5) (t := 1) (gSideOf gc1 (t := 1) (by decide)) (INV_side h 1 (by decide)).1 with ⟨r1, y1⟩ | ⟨r1, y1⟩
        · obtain ⟨L, a1, a2, b0, b1, b2, b3, b4, b5⟩ := INV_off h z0
          have hY : ∀ t', t' < 2 → RDY t' (σ 29) := fun t' ht' => by
            rcases two ht' with rfl | rfl
            · exact y0
            · exact y1
          obtain ⟨σ1, p1, p2, p3, p4, p5⟩ := p_courtStart (t := t) gc1 σ
          obtain ⟨σ2, hσ2⟩ : ∃ σ2, σ2 = gup σ1 16 1 0 := ⟨_, rfl⟩
          have f2 : ∀ k, k ≠ 16 → σ2 k = σ1 k := fun k g => by rw [hσ2, gup_oth g]
          have hcut : F_Sheet_cutTo 0 σ1 = some σ2 := by
            unfold F_Sheet_cutTo
            rw [gl_eq, ← hσ2]
          have eL : ∀ t', t' < 2 → σ2 (1 + 1 + 3 * t') 2 = σ 29 (26 + t') := fun t' ht' => by
            rw [f2 _ (by omega), (p5 t' ht').2.1 2 (by decide) (by decide) (by decide) (by decide) (by decide)]
            exact (b3.2.2 t' ht').1.1
          have eF : ∀ t', t' < 2 → ∀ q, 1 ≤ q → q ≤ 6 → σ2 (1 + 1 + 3 * t' + 1) q = σ 29 (13 + 6 * t' + q) := fun t' ht' q x y => by
            rw [f2 _ (by omega), (p5 t' ht').1]
            exact (b3.2.2 t' ht').1.2.2.2.2 q x y
          have sF : ∀ t', t' < 2 → ∀ q, 1 ≤ q → q ≤ 6 → ∃ s : Nat, 1 ≤ s ∧ s ≤ 20 ∧ σ2 (1 + 1 + 3 * t' + 1) q = nI s := fun t' ht' q x y => by
            rw [eF t' ht' q x y]
            rcases (b4 t' ht').2 q x y with e | e
            · exact absurd e ((hY t' ht').2 q x y).1
            · exact e
          have sL : ∀ t', t' < 2 → σ2 (1 + 1 + 3 * t') 2 = -1 ∨ ∃ s : Nat, 1 ≤ s ∧ s ≤ 20 ∧ σ2 (1 + 1 + 3 * t') 2 = nI s := fun t' ht' => by
            rw [eL t' ht']
            exact (b4 t' ht').1
          obtain ⟨σ3, n3, w1, w2, w3, w4, w5⟩ := p_wo (t := 0) (n := 0) (σ := σ2) (G := fun _ _ => -1) (by decide) (by rw [hσ2, gup_s]; rfl) (by decide) (sF 0 (by decide)) ((sL 0 (by decide)).imp (fun e => ⟨e, rfl⟩) id) (Rdg.zero RP_0)
          have f3 : ∀ k, k ≠ 16 → k ≠ 17 → σ3 k = σ2 k := w2
          obtain ⟨σ4, n4, x1, x2, x3, x4, x5⟩ := p_wo (t := 1) (n := n3) (σ := σ3) (by decide) w4 (by omega) (fun q x y => by rw [f3 _ (by decide) (by decide)]; exact sF 1 (by decide) q x y) (by
            rw [f3 _ (by decide) (by decide)]
            exact (sL 1 (by decide)).imp (fun e => ⟨e, by rw [if_neg (by omega), if_neg (by omega)]⟩) id) w5
          have hR4 : Rdg (σ4 17) n4 (RP (fun t' j => if j = 0 then σ 29 (26 + t') else σ 29 (13 + 6 * t' + j))) := by
            refine x5.weak (RP_cong (fun t' j ht' hj => ?_))
            by_cases e : j = 0
            · rw [if_pos e]
              rcases two ht' with rfl | rfl
              · rw [if_neg (by omega), if_neg (by omega), if_pos ⟨rfl, e⟩, eL 0 (by decide)]
              · rw [if_pos ⟨rfl, e⟩, f3 _ (by decide) (by decide), eL 1 (by decide)]
            · rw [if_neg e]
              rcases two ht' with rfl | rfl
              · rw [if_neg (by omega), if_neg (by omega), if_neg (by omega), if_pos (by omega), eF 0 (by decide) j (by omega) hj]
              · rw [if_neg (by omega), if_pos (by omega), f3 _ (by decide) (by decide), eF 1 (by decide) j (by omega) hj]
          obtain ⟨σ5, hσ5⟩ : ∃ σ5, σ5 = gup (gup σ4 17 n4 (gSign 2 (nI t) 0 0)) 16 1 (nI (n4 + 1)) := ⟨_, rfl⟩
          obtain ⟨σ6, hσ6⟩ : ∃ σ6, σ6 = gup (gup σ5 0 6 (-1)) 0 7 0 := ⟨_, rfl⟩
          have f6 : ∀ k, k ≠ 0 → k ≠ 16 → k ≠ 17 → σ6 k = σ1 k := fun k g0 g1 g2 => by rw [hσ6, gup_oth g0, gup_oth g0, hσ5, gup_oth g1, gup_oth g2, x2 k g1 g2, f3 k g1 g2, f2 k g1]
          have e5 : ∀ t', t' < 2 → σ6 (1 + 1 + 3 * t') 5 = σ 29 (12 + t') := fun t' ht' => by
            rw [f6 _ (by omega) (by omega) (by omega), (p5 t' ht').2.1 5 (by decide) (by decide) (by decide) (by decide) (by decide)]
            exact (b3.2.2 t' ht').2.1.1
          have e5a : σ6 (1 + 1) 5 = σ 29 12 := e5 0 (by decide)
          have e5b : σ6 (1 + 4) 5 = σ 29 13 := e5 1 (by decide)
          have w1' : F_Game_writeOrder 0 σ2 = some σ3 := w1
          have x1' : F_Game_writeOrder 1 σ3 = some σ4 := x1
          have hG : F_Game_begin (nI t) σ = some ((0 : Int32), σ 29 12 + σ 29 13 + 1, σ6) := by
            unfold F_Game_begin F_Court_setsPlayed
            rw [team_c ht, gbx_ok, hA, gbx_ok, r0, gbi_some, if_neg (by decide), r1, gbi_some, if_neg (by decide), p1, gbv_some, hcut, gbv_some, w1', gbv_some, x1', gbv_some, p_write 2 (nI t) 0 0 x4 (by omega), gbv_some, ← hσ5, gl_eq, gl_eq, ← hσ6, gbi_some, e5a, e5b]
          have hL : F_Law_begin (nI t) σ = some ((0 : Int32), gs σ6 31 (upd (σ6 31) 0 (σ 29 12 + σ 29 13 + 1))) := by
            unfold F_Law_begin
            rw [hG, gbh_ok, gl_eq, gs_up]
          have e29 : (gs σ6 31 (upd (σ6 31) 0 (σ 29 12 + σ 29 13 + 1))) 29 = σ 29 := by rw [gs_n (by decide), f6 29 (by decide) (by decide) (by decide), p2 29 (by decide)]
          have hM : ∀ τ : gSt, τ 29 = σ 29 → F_Model_begin (nI t) τ = some (σ 29 12 + σ 29 13 + 1, gs (gs τ 28 (upd (τ 28) 2 0)) 29 (vBeg t (σ 29))) := fun τ hτ => by
            rcases m_begin (v := nI t) τ hτ with ⟨e1, _⟩ | ⟨_, e2⟩
            · rw [e1]
              unfold F_Model_begin_B37
              rw [team_m ht, gbi_some, if_neg (by decide), if_neg (by decide), m_beg59 τ hτ]
            · exact absurd ⟨z0, zo, y0, y1⟩ e2
          refine ⟨_, sh1_ok hL (hM _ e29) ?_ ?_, ?_⟩
          · rw [gs_n (by decide), gs_s]; unfold upd; rw [if_pos rfl]
          · rw [gs_n (by decide), gs_n (by decide), gs_s]; unfold upd; rw [if_pos rfl]
          · generalize hW : gs (gs (gs σ6 31 (upd (σ6 31) 0 (σ 29 12 + σ 29 13 + 1))) 28 (upd ((gs σ6 31 (upd (σ6 31) 0 (σ 29 12 + σ 29 13 + 1))) 28) 2 0)) 29 (vBeg t (σ 29)) = W9
            have wk : ∀ k, k < 28 → W9 k = σ6 k := fun k g => by rw [← hW, gs_n (by omega), gs_n (by omega), gs_n (by omega)]
            have w29 : W9 29 = vBeg t (σ 29) := by rw [← hW, gs_s]
            have wc : ∀ k, k ≠ 0 → k < 16 → W9 k = σ1 k := fun k g1 g2 => by rw [wk k (by omega), f6 k g1 (by omega) (by omega)]
            have w15 : W9 15 = σ 15 := by rw [wc 15 (by decide) (by decide), p2 15 (by decide)]
            obtain ⟨i1, i2, i3, _, _⟩ := h
            obtain ⟨v0, v1, v2, v3, v9, v41⟩ := vBeg_at (t := t) (z := σ 29)
            refine ⟨?_, ?_, ?_, Or.inl ⟨by rw [w29]; exact v41, ?_⟩, n4 + 1, by omega, ?_, Or.inl ⟨by rw [w29]; exact v0, ⟨⟨?_, ?_, fun t' ht' => ?_⟩, ⟨⟨t, ht, by rw [w29]; exact v2⟩, fun t' ht' => ⟨?_, 0, by omega, by rw [w29]; exact (vBeg_t ht').2.2.2.2.2.1⟩⟩, fun t' ht' => ⟨?_, ?_⟩⟩, ?_, Or.inl ⟨by rw [w29]; exact v1, by rw [w15]; exact b2, fun t' ht' => ?_⟩⟩⟩
            · rw [wk 0 (by decide), hσ6, gup_s, w29, v3]
            · rw [w15, w29, vBeg_oth (by omega)]; exact i2
            · rw [w15, w29, vBeg_oth (by omega)]; exact i3
            · rw [wk 0 (by decide), hσ6, gup_n (by decide), gup_s]
            · rw [wk 16 (by decide), hσ6, gup_oth (by decide), gup_oth (by decide), hσ5, gup_s]
            · rw [wc 1 (by decide) (by decide), p3, w29, v2]
            · rw [wc 1 (by decide) (by decide), p4, w29, v9]
            · obtain ⟨k1, k2, k4, k6, k7, k8, k9, k10⟩ := p5 t' ht'
              obtain ⟨q1, q2, q3, q4, q5, q6, q7⟩ := vBeg_t (t := t) (z := σ 29) ht'
              obtain ⟨r2, r3, r4, r6, rs⟩ := (b3.2.2 t' ht').1
              rw [w29]
              refine ⟨?_, ?_, ?_, ?_, fun p x y => ?_⟩
              · rw [wc _ (by omega) (by omega), k2 2 (by decide) (by decide) (by decide) (by decide) (by decide), r2, vBeg_oth (by omega)]
              · rw [wc _ (by omega) (by omega), k2 3 (by decide) (by decide) (by decide) (by decide) (by decide), r3, (b3.2.2 t' ht').2.2, q2]
              · rw [wc _ (by omega) (by omega), k4, q1]
              · rw [wc _ (by omega) (by omega), k6, q6]
              · rw [wc _ (by omega) (by omega), k1, rs p x y, vBeg_oth (by omega)]
            · have ep : ∀ p, 1 ≤ p → p ≤ 6 → pRow t' (W9 29) p = pRow t' (σ 29) p := fun p x y => by
                rw [w29]; exact vBeg_oth (by omega)
              have e26 : W9 29 (26 + t') = σ 29 (26 + t') := by rw [w29]; exact vBeg_oth (by omega)
              have e28 : W9 29 (28 + t') = -1 := by rw [w29]; exact (vBeg_t ht').2.1
              refine ⟨fun p q x1 x2 x3 x4 e => ?_, fun _ p x y => ?_, fun e => absurd e28 e⟩
              · rw [ep p x1 x2, ep q x3 x4] at e
                exact (hY t' ht').1 p q x1 x2 x3 x4 e
              · rw [ep p x y, e26]
                exact ((hY t' ht').2 p x y).2
            · obtain ⟨k1, k2, k4, k6, k7, k8, k9, k10⟩ := p5 t' ht'
              obtain ⟨q1, q2, q3, q4, q5, q6, q7⟩ := vBeg_t (t := t) (z := σ 29) ht'
              rw [w29]
              refine ⟨?_, ?_, ?_, 2, by decide, q5⟩
              · rw [wk _ (by omega), e5 t' ht', vBeg_oth (by omega)]
              · rw [wc _ (by omega) (by omega), k7, q4]
              · rw [wc _ (by omega) (by omega), k8, q5]
            · obtain ⟨k1, k2, k4, k6, k7, k8, k9, k10⟩ := p5 t' ht'
              obtain ⟨q1, q2, q3, q4, q5, q6, q7⟩ := vBeg_t (t := t) (z := σ 29) ht'
              rw [w29]
              exact ⟨0, 0, by decide, by decide, q7, q4, fun i hi => absurd hi (by omega), fun x x1 x2 _ => by rw [wc _ (by omega) (by omega)]; exact k10 x x1 x2, fun i j hi => absurd hi (by omega)⟩
            · have e17 : W9 17 = upd (σ4 17) n4 (gSign 2 (nI t) 0 0) := by rw [wk 17 (by decide), hσ6, gup_oth (by decide), gup_oth (by decide), hσ5, gup_oth (by decide), gup_row]
              rw [e17, w29]
              have r1 : Rdg (upd (σ4 17) n4 (gSign 2 (nI t) 0 0)) n4 (RP (fun t' j => if j = 0 then σ 29 (26 + t') else σ 29 (13 + 6 * t' + j))) := hR4.cong (fun j hj => by unfold upd; rw [if_neg (by omega)])
              refine r1.step (k := 2) (t := t) (a := 0) (b := 0) (by unfold upd; rw [if_pos rfl]; rfl) (by decide) ht (by decide) (by decide) (fun τ hτ => fol_start ht v2 v9 (fun t' ht' => ?_) (fun j hj => vBeg_l hj) hτ)
              obtain ⟨q1, q2, q3, q4, q5, q6, q7⟩ := vBeg_t (t := t) (z := σ 29) ht'
              refine ⟨?_, q2, q1, q6, fun p x y => ?_⟩
              · rw [if_pos rfl, vBeg_oth (by omega)]
              · rw [if_neg (by omega), vBeg_oth (by omega)]
            · rw [wc _ (by omega) (by omega), (p5 t' ht').2.2.2.2.2.2.1, w29, (vBeg_t ht').2.2.1]
        · refine bad2 ?_ (fun e => y1 e.2.2.2)
          unfold F_Game_begin
          rw [team_c ht, gbx_ok, hA, gbx_ok, r0, gbi_some, if_neg (by decide), r1, gbi_some, if_pos rfl, hG34]
      · refine bad2 ?_ (fun e => y0 e.2.2.1)
        unfold F_Game_begin
        rw [team_c ht, gbx_ok, hA, gbx_ok, r0, gbi_some, if_pos rfl, hG34]
    · refine bad2 ?_ (fun e => ?_)
      · unfold F_Game_begin
        rw [team_c ht, gbx_ok, hA, gbx_ex (by decide)]
      · rcases zz with z1 | ⟨z0, z3⟩
        · exact absurd (z1.symm.trans e.1) (by decide)
        · exact e.2.1 z3
  · have hL : F_Law_begin v σ = some ((1 : Int32), σ) := by
      unfold F_Law_begin F_Game_begin
      rw [c1, gbx_ex (by decide), gbh_ex (by decide), if_pos rfl]
    refine ⟨_, sh1_bad (b := 0) hL (by decide) ?_, INV_t h⟩
    have hB : ∀ s0, F_Model_begin_B37 v v s0 σ = some ((0 : Int32), gs σ 28 (upd (σ 28) 2 1)) := fun s0 => by
      unfold F_Model_begin_B37 F_Model_begin_B59
      rw [c2, gbi_some, if_pos rfl, m_goesN _ (by decide), gbi_some, if_pos rfl]
    rcases m_begin (v := v) σ rfl with ⟨e1, _⟩ | ⟨e1, _⟩
    · rw [e1, hB]
    · rw [e1, hB]
