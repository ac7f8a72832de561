/-! the order on the sheet -/
def RP (G : Nat → Nat → Int32) (σ : gSt) : Prop := (∀ t, t < 2 → σ (19 + 1 + 3 * t) 2 = G t 0 ∧ σ (19 + 1 + 3 * t) 3 = -1 ∧ ∀ p, 1 ≤ p → p ≤ 6 → σ (19 + 1 + 3 * t + 1) p = G t p) ∧ ∀ r, r < 6 → σ 26 r = 0 ∧ σ 27 r = 0
theorem RP_cong {G G' : Nat → Nat → Int32} (h : ∀ t j, t < 2 → j ≤ 6 → G' t j = G t j) (σ : gSt) (hR : RP G σ) : RP G' σ :=
  ⟨fun t ht => ⟨by rw [h t 0 ht (by omega)]; exact (hR.1 t ht).1, (hR.1 t ht).2.1, fun p a b => by rw [h t p ht b]; exact (hR.1 t ht).2.2 p a b⟩, hR.2⟩
theorem RP_0 (σ : gSt) (h : CL σ) : RP (fun _ _ => -1) σ := ⟨fun t ht => ⟨(h.1 t ht).1, (h.1 t ht).2.1, fun p a b => (h.1 t ht).2.2 p a b⟩, h.2⟩
def gSet (G : Nat → Nat → Int32) (t j : Nat) (v : Int32) : Nat → Nat → Int32 := fun t' j' => if t' = t ∧ j' = j then v else G t' j'
theorem fol_place {t p s : Nat} (ht : t < 2) (hp : 1 ≤ p ∧ p ≤ 6) {G : Nat → Nat → Int32} {σ : gSt} (h : RP G σ) : ∃ σ', F_Reader_follow (nI 0) (nI t) (nI p) (nI s) σ = some σ' ∧ RP (gSet G t p (nI s)) σ' ∧ RF σ σ' := by
  unfold F_Reader_follow
  rw [p_sideOf ht, gbr_some, if_pos (by decide), p_put (gSideOf gc19 ht) _ (by omega), gbv_some]
  refine ⟨_, rfl, ⟨fun t' ht' => ⟨?_, ?_, fun p' a b => ?_⟩, fun r hr => ?_⟩, fun k hk => gup_oth (by omega)⟩
  · rw [gup_oth (by omega)]; unfold gSet; rw [if_neg (by omega)]; exact (h.1 t' ht').1
  · rw [gup_oth (by omega)]; exact (h.1 t' ht').2.1
  · unfold gSet
    by_cases e : t' = t ∧ p' = p
    · rw [if_pos e, e.1, e.2, gup_s]
    · rw [if_neg e, gup_n (by omega)]; exact (h.1 t' ht').2.2 p' a b
  · rw [gup_oth (by omega), gup_oth (by omega)]; exact h.2 r hr
theorem fol_free {t s b : Nat} (ht : t < 2) {G : Nat → Nat → Int32} {σ : gSt} (h : RP G σ) : ∃ σ', F_Reader_follow (nI 1) (nI t) (nI s) (nI b) σ = some σ' ∧ RP (gSet G t 0 (nI s)) σ' ∧ RF σ σ' := by
  unfold F_Reader_follow
  rw [p_sideOf ht, gbr_some, if_neg (by decide), if_pos (by decide), gl_eq]
  refine ⟨_, rfl, ⟨fun t' ht' => ⟨?_, ?_, fun p' a b => ?_⟩, fun r hr => ?_⟩, fun k hk => gup_oth (by omega)⟩
  · unfold gSet
    by_cases e : t' = t ∧ 0 = 0
    · rw [if_pos e, e.1, gup_s]
    · rw [if_neg e, gup_n (by omega)]; exact (h.1 t' ht').1
  · rw [gup_n (by omega)]; exact (h.1 t' ht').2.1
  · unfold gSet
    rw [if_neg (by omega), gup_k (by omega)]; exact (h.1 t' ht').2.2 p' a b
  · rw [gup_oth (by omega), gup_oth (by omega)]; exact h.2 r hr
theorem p_courtStart {k t : Nat} (hk : gIsCourt k) (σ : gSt) : ∃ σ', F_Court_startSet k (nI t) σ = some σ' ∧ (∀ k', (k' < k ∨ k + 7 ≤ k') → σ' k' = σ k') ∧ σ' k 2 = nI t ∧ σ' k 3 = -1 ∧ ∀ t', t' < 2 → σ' (k + 1 + 3 * t' + 1) = σ (k + 1 + 3 * t' + 1) ∧ (∀ j, j ≠ 4 → j ≠ 6 → j ≠ 7 → j ≠ 8 → j ≠ 9 → σ' (k + 1 + 3 * t') j = σ (k + 1 + 3 * t') j) ∧ σ' (k + 1 + 3 * t') 4 = 0 ∧ σ' (k + 1 + 3 * t') 6 = 0 ∧ σ' (k + 1 + 3 * t') 7 = 0 ∧ σ' (k + 1 + 3 * t') 8 = 2 ∧ σ' (k + 1 + 3 * t') 9 = 0 ∧ ∀ j, 1 ≤ j → j ≤ 20 → σ' (k + 1 + 3 * t' + 2) j = 0 := by
  have hs1 : gIsSide (k + 1) := (gCt hk).2.2.2.2.1
  have hs4 : gIsSide (k + 4) := (gCt hk).2.2.2.2.2
  obtain ⟨τ1, a1, a2, a3, a4, a5, a6, a7, a8, a9⟩ := p_sideStart hs1 σ
  obtain ⟨τ2, b1, b2, b3, b4, b5, b6, b7, b8, b9⟩ := p_sideStart hs4 τ1
  unfold F_Court_startSet
  rw [a1, gbv_some, b1, gbv_some]
  simp only [gl_eq]
  have o : ∀ k', k' ≠ k → (gup (gup τ2 k 2 (nI t)) k 3 (-1)) k' = τ2 k' := fun k' g => by rw [gup_oth g, gup_oth g]
  refine ⟨_, rfl, fun k' g => ?_, ?_, ?_, fun t' ht' => ?_⟩
  · rw [o k' (by omega), b2 k' (by omega) (by omega), a2 k' (by omega) (by omega)]
  · rw [gup_n (by omega), gup_s]
  · rw [gup_s]
  · rw [o _ (by omega), o _ (by omega), o _ (by omega)]
    rcases two ht' with rfl | rfl
    · have e1 : τ2 (k + 1 + 3 * 0) = τ1 (k + 1) := b2 _ (by omega) (by omega)
      have e2 : τ2 (k + 1 + 3 * 0 + 1) = τ1 (k + 1 + 1) := b2 _ (by omega) (by omega)
      have e3 : τ2 (k + 1 + 3 * 0 + 2) = τ1 (k + 1 + 2) := b2 _ (by omega) (by omega)
      rw [e1, e2, e3]
      exact ⟨a2 _ (by omega) (by omega), a3, a4, a5, a6, a7, a8, a9⟩
    · have e1 : τ1 (k + 4) = σ (k + 4) := a2 _ (by omega) (by omega)
      have e2 : τ2 (k + 4 + 1) = σ (k + 4 + 1) := (b2 _ (by omega) (by omega)).trans (a2 _ (by omega) (by omega))
      exact ⟨e2, fun j g4 g6 g7 g8 g9 => by rw [show k + 1 + 3 * 1 = k + 4 from rfl, b3 j g4 g6 g7 g8 g9, e1], b4, b5, b6, b7, b8, b9⟩
theorem fol_start {t : Nat} (ht : t < 2) {G : Nat → Nat → Int32} {z : vRow} (z2 : z 2 = nI t) (z9 : z 9 = -1) (hz : ∀ t', t' < 2 → z (26 + t') = G t' 0 ∧ z (28 + t') = -1 ∧ z (10 + t') = 0 ∧ z (36 + t') = 0 ∧ ∀ p, 1 ≤ p → p ≤ 6 → z (13 + 6 * t' + p) = G t' p) (hl : ∀ j, j < 12 → z (80 + j) = 0) {σ : gSt} (h : RP G σ) : ∃ σ', F_Reader_follow (nI 2) (nI t) (nI 0) (nI 0) σ = some σ' ∧ RR z σ' ∧ RF σ σ' := by
  obtain ⟨σ', q1, q2, q3, q4, q5⟩ := p_courtStart (t := t) gc19 σ
  unfold F_Reader_follow
  rw [p_sideOf ht, gbr_some, if_neg (by decide), if_neg (by decide), if_pos (by decide), q1, gbv_some]
  refine ⟨σ', rfl, ⟨⟨by rw [q3, z2], by rw [q4, z9], fun t' ht' => ?_⟩, fun r hr => ?_⟩, fun k hk => q2 k (by omega)⟩
  · obtain ⟨x1, x2, x3, x4, x5⟩ := hz t' ht'
    obtain ⟨y1, y2, y4, y6, y7, y8, y9, y10⟩ := q5 t' ht'
    obtain ⟨w1, w2, w3⟩ := h.1 t' ht'
    exact ⟨by rw [y2 2 (by decide) (by decide) (by decide) (by decide) (by decide), w1, x1], by rw [y2 3 (by decide) (by decide) (by decide) (by decide) (by decide), w2, x2], by rw [y4, x3], by rw [y6, x4], fun p a b => by rw [y1, w3 p a b, x5 p a b]⟩
  · rw [q2 26 (by decide), q2 27 (by decide), (h.2 r hr).1, (h.2 r hr).2, hl r (by omega)]
    exact ⟨rfl, (show z (86 + r) = 0 by rw [show 86 + r = 80 + (6 + r) by omega]; exact hl _ (by omega)).symm⟩
theorem p_wo_loop {t : Nat} {a : Int32} (ht : t < 2) : ∀ (d c p n : Nat) (σ : gSt) (G : Nat → Nat → Int32), p + d = 7 → d < c → 1 ≤ p → σ 16 1 = nI n → n + d + 1 ≤ 640 → (∀ q, 1 ≤ q → q ≤ 6 → ∃ s : Nat, 1 ≤ s ∧ s ≤ 20 ∧ σ (1 + 1 + 3 * t + 1) q = nI s) → ((σ (1 + 1 + 3 * t) 2 = -1 ∧ G t 0 = -1) ∨ ∃ s : Nat, 1 ≤ s ∧ s ≤ 20 ∧ σ (1 + 1 + 3 * t) 2 = nI s) → Rdg (σ 17) n (RP G) →
    ∃ σ' n', F_Game_writeOrder_B11 a c (nI t) (1 + 1 + 3 * t) (nI p) σ = some σ' ∧ (∀ k, k ≠ 16 → k ≠ 17 → σ' k = σ k) ∧ n' ≤ n + d + 1 ∧ σ' 16 1 = nI n' ∧ Rdg (σ' 17) n' (RP (fun t' j => if t' = t ∧ j = 0 then σ (1 + 1 + 3 * t) 2 else if t' = t ∧ p ≤ j ∧ j ≤ 6 then σ (1 + 1 + 3 * t + 1) j else G t' j)) := by
  intro d
  induction d with
  | zero =>
    intro c p n σ G h1 h2 h3 hn hN hs hl hR
    obtain ⟨c, rfl⟩ : ∃ q, c = q + 1 := ⟨c - 1, by omega⟩
    unfold F_Game_writeOrder_B11
    rw [if_pos (by rw [show (6 : Int32) = nI 6 from rfl]; exact nI_lt (by omega) (by omega))]
    rcases hl with ⟨l1, l2⟩ | ⟨s, s1, s2, l1⟩
    · rw [if_pos l1]
      refine ⟨σ, n, rfl, fun _ _ _ => rfl, by omega, hn, hR.weak (RP_cong (fun t' j ht' hj => ?_))⟩
      by_cases e : t' = t ∧ j = 0
      · rw [if_pos e, l1, e.1, e.2, l2]
      · rw [if_neg e, if_neg (by omega)]
    · rw [l1, if_neg (nI_ne1 (by omega)), p_write 1 (nI t) (nI s) 0 hn (by omega), gbv_some]
      refine ⟨_, n + 1, rfl, fun k g1 g2 => by rw [gup_oth g1, gup_oth g2], by omega, by rw [gup_s], ?_⟩
      rw [gup_oth (by decide), gup_row]
      have r1 : Rdg (upd (σ 17) n (gSign 1 (nI t) (nI s) 0)) n (RP G) := hR.cong (fun j hj => by unfold upd; rw [if_neg (by omega)])
      have r2 := r1.step (k := 1) (t := t) (a := s) (b := 0) (R' := RP (gSet G t 0 (nI s))) (by unfold upd; rw [if_pos rfl]; rfl) (by decide) ht (by omega) (by decide) (fun τ hτ => fol_free ht hτ)
      refine r2.weak (RP_cong (fun t' j ht' hj => ?_))
      unfold gSet
      by_cases e : t' = t ∧ j = 0
      · rw [if_pos e, if_pos e]
      · rw [if_neg e, if_neg e, if_neg (by omega)]
  | succ d ih =>
    intro c p n σ G h1 h2 h3 hn hN hs hl hR
    obtain ⟨c, rfl⟩ : ∃ q, c = q + 1 := ⟨c - 1, by omega⟩
    obtain ⟨s, s1, s2, s3⟩ := hs p (by omega) (by omega)
    unfold F_Game_writeOrder_B11
    rw [if_neg (by rw [show (6 : Int32) = nI 6 from rfl]; exact nI_nlt (by omega) (by decide)), p_shirtIn (gSideOf gc1 ht) σ (by omega), gbi_some, s3, p_write 0 (nI t) (nI p) (nI s) hn (by omega), gbv_some, nI_1]
    obtain ⟨σ1, hσ1⟩ : ∃ σ1, σ1 = gup (gup σ 17 n (gSign 0 (nI t) (nI p) (nI s))) 16 1 (nI (n + 1)) := ⟨_, rfl⟩
    have f1 : ∀ k, k ≠ 16 → k ≠ 17 → σ1 k = σ k := fun k g1 g2 => by rw [hσ1, gup_oth g1, gup_oth g2]
    have eS := f1 (1 + 1 + 3 * t) (by omega) (by omega)
    have eR := f1 (1 + 1 + 3 * t + 1) (by omega) (by omega)
    have r1 : Rdg (upd (σ 17) n (gSign 0 (nI t) (nI p) (nI s))) n (RP G) := hR.cong (fun j hj => by unfold upd; rw [if_neg (by omega)])
    have r2 := r1.step (k := 0) (t := t) (a := p) (b := s) (R' := RP (gSet G t p (nI s))) (by unfold upd; rw [if_pos rfl]; rfl) (by decide) ht (by omega) (by omega) (fun τ hτ => fol_place ht ⟨h3, by omega⟩ hτ)
    have e17 : σ1 17 = upd (σ 17) n (gSign 0 (nI t) (nI p) (nI s)) := by rw [hσ1, gup_oth (by decide), gup_row]
    rw [← hσ1]
    obtain ⟨σ', n', q1, q2, q3, q4, q5⟩ := ih c (p + 1) (n + 1) σ1 (gSet G t p (nI s)) (by omega) (by omega) (by omega) (by rw [hσ1, gup_s]) (by omega) (fun q a b => by rw [eR]; exact hs q a b) (by
      rw [eS]
      rcases hl with ⟨l1, l2⟩ | l
      · refine Or.inl ⟨l1, ?_⟩
        unfold gSet
        rw [if_neg (by omega)]; exact l2
      · exact Or.inr l) (by rw [e17]; exact r2)
    refine ⟨σ', n', q1, fun k g1 g2 => (q2 k g1 g2).trans (f1 k g1 g2), by omega, q4, q5.weak (RP_cong (fun t' j ht' hj => ?_))⟩
    rw [eS, eR]
    unfold gSet
    by_cases e : t' = t ∧ j = 0
    · rw [if_pos e, if_pos e]
    · rw [if_neg e, if_neg e]
      by_cases e2 : t' = t ∧ p + 1 ≤ j ∧ j ≤ 6
      · rw [if_pos e2, if_pos (by omega)]
      · rw [if_neg e2]
        by_cases e3 : t' = t ∧ j = p
        · rw [if_pos e3, if_pos (by omega), e3.2, s3]
        · rw [if_neg e3, if_neg (by omega)]
theorem p_wo {t n : Nat} (ht : t < 2) {σ : gSt} {G : Nat → Nat → Int32} (hn : σ 16 1 = nI n) (hN : n + 7 ≤ 640) (hs : ∀ q, 1 ≤ q → q ≤ 6 → ∃ s : Nat, 1 ≤ s ∧ s ≤ 20 ∧ σ (1 + 1 + 3 * t + 1) q = nI s) (hl : (σ (1 + 1 + 3 * t) 2 = -1 ∧ G t 0 = -1) ∨ ∃ s : Nat, 1 ≤ s ∧ s ≤ 20 ∧ σ (1 + 1 + 3 * t) 2 = nI s) (hR : Rdg (σ 17) n (RP G)) :
    ∃ σ' n', F_Game_writeOrder (nI t) σ = some σ' ∧ (∀ k, k ≠ 16 → k ≠ 17 → σ' k = σ k) ∧ n' ≤ n + 7 ∧ σ' 16 1 = nI n' ∧ Rdg (σ' 17) n' (RP (fun t' j => if t' = t ∧ j = 0 then σ (1 + 1 + 3 * t) 2 else if t' = t ∧ 1 ≤ j ∧ j ≤ 6 then σ (1 + 1 + 3 * t + 1) j else G t' j)) := by
  unfold F_Game_writeOrder
  rw [p_sideOf ht, gbr_some]
  exact p_wo_loop (a := nI t) ht 6 100 1 n σ G (by decide) (by decide) (by decide) hn (by omega) hs hl hR
