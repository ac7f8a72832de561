/-! the end of a rally, in the class -/
theorem p_hasWon {k w : Nat} (hk : gIsCourt k) (hw : w < 2) {σ : gSt} {z : vRow} (h : CS k σ z) (hx : ∀ t, t < 2 → SX (k + 1 + 3 * t) t σ z) : F_Court_hasWonSet k (nI w) σ = some ((if z (10 + w) < (if z 12 + z 13 = 4 then 15 else 25) then 0 else if z (10 + w) < z (11 - w) + 2 then 0 else 1), σ) := by
  have e1 : σ (k + 1) 5 = z 12 := (hx 0 (by decide)).1
  have e2 : σ (k + 4) 5 = z 13 := (hx 1 (by decide)).1
  have e10 := (h.2.2 w hw).2.2.1
  have e11 := (h.2.2 (1 - w) (by omega)).2.2.1
  rw [show 10 + (1 - w) = 11 - w by omega] at e11
  have main : ∀ s0 : Int32, F_Court_hasWonSet_B15 k (nI w) (nI w) s0 σ = some ((if z (10 + w) < s0 then 0 else if z (10 + w) < z (11 - w) + 2 then 0 else 1), σ) := by
    intro s0
    unfold F_Court_hasWonSet_B15
    rw [p_sideOf hw, gbr_some, gl_eq, e10, nI_1m hw, p_sideOf (show 1 - w < 2 by omega), gbr_some, e11]
    by_cases g1 : z (10 + w) < s0
    · rw [if_pos g1, if_pos g1]
    · rw [if_neg g1, if_neg g1]
      by_cases g2 : z (10 + w) < z (11 - w) + 2
      · rw [if_pos g2, if_pos g2]
      · rw [if_neg g2, if_neg g2]
  unfold F_Court_hasWonSet F_Court_setsPlayed
  rw [gbi_some, e1, e2]
  by_cases g : z 12 + z 13 = 4
  · rw [if_pos g, main, if_pos g]
  · rw [if_neg g, main, if_neg g]
theorem p_endIf {w : Nat} (hw : w < 2) {σ : gSt} {z : vRow} (h : CS 1 σ z) (hx : ∀ t, t < 2 → SX (1 + 1 + 3 * t) t σ z) : (F_Game_endSetIfWonBy (nI w) σ = some σ ∧ vFin w z = z) ∨ ∃ σ', F_Game_endSetIfWonBy (nI w) σ = some σ' ∧ vFin w z = vEnd w z ∧ CX 1 σ' (vEnd w z) ∧ (∀ k', (k' < 1 ∨ 8 ≤ k') → σ' k' = σ k') := by
  unfold F_Game_endSetIfWonBy vFin
  rw [p_hasWon gc1 hw h hx, gbi_some]
  by_cases g1 : z (10 + w) < (if z 12 + z 13 = 4 then 15 else 25)
  · rw [if_pos g1, if_pos g1, if_pos rfl]
    exact Or.inl ⟨rfl, rfl⟩
  · rw [if_neg g1, if_neg g1]
    by_cases g2 : z (10 + w) < z (11 - w) + 2
    · rw [if_pos g2, if_pos g2, if_pos rfl]
      exact Or.inl ⟨rfl, rfl⟩
    · rw [if_neg g2, if_neg g2, if_neg (by decide)]
      obtain ⟨σ', q1, q2, q3⟩ := p_endSet gc1 hw h hx
      rw [q1, gbv_some]
      exact Or.inr ⟨σ', rfl, rfl, q2, q3⟩
theorem SC_SR {k a t : Nat} {σ σ' : gSt} {z : vRow} (h : SC k a σ' σ) (hs : SR a t σ z) : SR k t σ' z :=
  ⟨by rw [h.1 2 (by decide) (by decide)]; exact hs.1, by rw [h.1 3 (by decide) (by decide)]; exact hs.2.1, by rw [h.1 4 (by decide) (by decide)]; exact hs.2.2.1, by rw [h.1 6 (by decide) (by decide)]; exact hs.2.2.2.1, fun p x y => by rw [h.2.1 p x y]; exact hs.2.2.2.2 p x y⟩
theorem SC_SX {k a t : Nat} {σ σ' : gSt} {z : vRow} (h : SC k a σ' σ) (hs : SX a t σ z) : SX k t σ' z :=
  ⟨by rw [h.1 5 (by decide) (by decide)]; exact hs.1, by rw [h.1 7 (by decide) (by decide)]; exact hs.2.1, by rw [h.1 8 (by decide) (by decide)]; exact hs.2.2.1, hs.2.2.2⟩
theorem CO_copy {k a n : Nat} (hk : gIsCourt k) (ha : gIsCourt a) (hd : k + 7 ≤ a ∨ a + 7 ≤ k) {σ : gSt} {z : vRow} (h : CO a n σ z) (h9 : ∀ t, t < 2 → σ (a + 1 + 3 * t) 9 = 0) : ∃ σ', F_Court_copyFrom k a σ = some σ' ∧ CO k n σ' z ∧ (∀ t, t < 2 → σ' (k + 1 + 3 * t) 9 = 0) ∧ ∀ k', (k' < k ∨ k + 7 ≤ k') → σ' k' = σ k' := by
  obtain ⟨σ', q1, q2, q3, q4, q5, q6⟩ := p_copyFrom hk ha hd σ (fun t ht => Or.inl (h9 t ht))
  have hS : ∀ t, t < 2 → SC (k + 1 + 3 * t) (a + 1 + 3 * t) σ' σ := fun t ht => by
    rcases two ht with rfl | rfl
    · exact q5
    · exact q6
  refine ⟨σ', q1, ⟨⟨by rw [q3]; exact h.1.1, by rw [q4]; exact h.1.2.1, fun t ht => SC_SR (hS t ht) (h.1.2.2 t ht)⟩, h.2.1, fun t ht => ⟨SC_SX (hS t ht) (h.2.2 t ht).1, PR_keep (h.2.2 t ht).2 (fun x x1 x2 => (hS t ht).2.2 x x1 x2) rfl rfl (fun _ _ _ => rfl)⟩⟩, fun t ht => ?_, q2⟩
  rw [(hS t ht).1 9 (by decide) (by decide)]
  exact h9 t ht
def vP (w : Nat) (c : Int32) (z : vRow) : vRow := upd (upd (upd (upd (upd z 1 0) 3 c) 40 (nI (1 - w))) 30 0) 31 0
theorem vP_oth {w j : Nat} {c : Int32} {z : vRow} (h1 : j ≠ 1) (h3 : j ≠ 3) (h4 : j ≠ 40) (h5 : j ≠ 30) (h6 : j ≠ 31) : vP w c z j = z j := by
  unfold vP upd
  rw [if_neg h6, if_neg h5, if_neg h4, if_neg h3, if_neg h1]
theorem upd_comm {z : vRow} {i j : Nat} {v w : Int32} (h : i ≠ j) : upd (upd z i v) j w = upd (upd z j w) i v := by
  funext q
  unfold upd
  by_cases g : q = j
  · rw [if_pos g, if_neg (by omega), if_pos g]
  · rw [if_neg g]
    by_cases g2 : q = i
    · rw [if_pos g2, if_pos g2]
    · rw [if_neg g2, if_neg g2, if_neg g]
theorem vPre_eq {w : Nat} {c : Int32} {z : vRow} : vPre w c z = vLost (1 - w) (vP w c z) := by
  have e36 : vP w c z (36 + (1 - w)) = z (36 + (1 - w)) := vP_oth (by omega) (by omega) (by omega) (by omega) (by omega)
  unfold vLost vPre
  rw [e36]
  unfold vLost
  have hi : 80 ≤ 80 + 6 * (1 - w) + (z (36 + (1 - w))).toNatClampNeg % 6 := by omega
  generalize 80 + 6 * (1 - w) + (z (36 + (1 - w))).toNatClampNeg % 6 = i at hi
  rw [vP_oth (by omega) (by omega) (by omega) (by omega) (by omega)]
  unfold vP
  rw [upd_comm (i := i) (j := 1) (by omega), upd_comm (i := i) (j := 3) (by omega), upd_comm (i := i) (j := 40) (by omega), upd_comm (i := i) (j := 30) (by omega), upd_comm (i := i) (j := 31) (by omega)]
/-- the row read tells of these numbers only -/
theorem RR_cong {z z' : vRow} (hz : ∀ j, j = 2 ∨ j = 9 ∨ (10 ≤ j ∧ j < 12) ∨ (14 ≤ j ∧ j < 30) ∨ (36 ≤ j ∧ j < 38) ∨ 80 ≤ j → z' j = z j) (σ : gSt) (h : RR z σ) : RR z' σ :=
  ⟨CS_cong h.1 (hz 2 (by omega)) (hz 9 (by omega)) (fun t ht j hj => hz j (by unfold cIx at hj; omega)), LR_keep h.2 rfl rfl (fun j hj => hz j (by omega))⟩
theorem p_endRally {n L w : Nat} (hw : w < 2) {σ : gSt} {z : vRow} {c : Int32} (h : CO 1 n σ z) (h9 : ∀ t, t < 2 → σ (1 + 1 + 3 * t) 9 = 0) (hl : σ 16 1 = nI L) (hL : L < 640) (hR : Rdg (σ 17) L (RR z)) (hn : n < 4000) :
    ∃ σ', F_Game_endRally (nI w) c σ = some σ' ∧ (∀ k, 18 ≤ k → σ' k = σ k) ∧ CO 8 n σ' z ∧ (∀ t, t < 2 → σ' (8 + 1 + 3 * t) 9 = 0) ∧ σ' 0 5 = nI L ∧ σ' 0 6 = nI (1 - w) ∧ σ' 0 7 = c ∧ σ' 15 = upd (σ 15) 0 0 ∧ σ' 16 1 = nI (L + 1) ∧ (∀ j, j < L → σ' 17 j = σ 17 j) ∧ Rdg (σ' 17) (L + 1) (RR (vGive w (vPre w c z))) ∧
      ((vFin w (vGive w (vPre w c z)) = vGive w (vPre w c z) ∧ CO 1 (n + 1) σ' (vGive w (vPre w c z)) ∧ ∀ t, t < 2 → σ' (1 + 1 + 3 * t) 9 = 0) ∨ (vFin w (vGive w (vPre w c z)) = vEnd w (vGive w (vPre w c z)) ∧ CX 1 σ' (vEnd w (vGive w (vPre w c z))))) := by
  obtain ⟨σ1, a1, a2, a3, a4⟩ := CO_copy gc8 gc1 (Or.inr (by decide)) h h9
  unfold F_Game_endRally
  rw [a1, gbv_some]
  simp only [gl_eq]
  have e16 : σ1 16 1 = nI L := by rw [a4 16 (by omega), hl]
  rw [e16]
  obtain ⟨σ3, hσ3⟩ : ∃ σ3, σ3 = gup (gup σ1 0 5 (nI L)) 15 0 0 := ⟨_, rfl⟩
  rw [← hσ3]
  have f3 : ∀ k, k ≠ 0 → k ≠ 15 → σ3 k = σ1 k := fun k g1 g2 => by rw [hσ3, gup_oth g2, gup_oth g1]
  have e163 : σ3 16 1 = nI L := by rw [f3 16 (by decide) (by decide), e16]
  rw [p_write 4 (nI w) 0 0 e163 hL, gbv_some]
  obtain ⟨σ4, hσ4⟩ : ∃ σ4, σ4 = gup (gup σ3 17 L (gSign 4 (nI w) 0 0)) 16 1 (nI (L + 1)) := ⟨_, rfl⟩
  rw [← hσ4]
  have f4 : ∀ k, k ≠ 16 → k ≠ 17 → σ4 k = σ3 k := fun k g1 g2 => by rw [hσ4, gup_oth g1, gup_oth g2]
  have c4 : CO 1 n σ4 (vPre w c z) := CO_keep h (fun i g1 g2 => by rw [f4 i (by omega) (by omega), f3 i (by omega) (by omega), a4 i (by omega)]) (fun j hj => vPre_oth (by omega) (by omega) (by omega) (by omega) (by omega) (by omega))
  obtain ⟨σ5, b1, b2, b3⟩ := CO_give gc1 hw c4
  rw [b1, gbv_some]
  have k5 : ∀ k, 8 ≤ k → σ5 k = σ4 k := fun k g => b3.1 k (by omega)
  have hS17 : ∀ j, j < L → σ4 17 j = σ 17 j := fun j hj => by rw [hσ4, gup_k (by decide), gup_n (by omega), f3 17 (by decide) (by decide), a4 17 (by omega)]
  have hRd : Rdg (σ4 17) (L + 1) (RR (vGive w (vPre w c z))) := by
    have r1 : Rdg (σ4 17) L (RR (vP w c z)) := (hR.cong hS17).weak (RR_cong (fun j hj => vP_oth (by omega) (by omega) (by omega) (by omega) (by omega)))
    refine r1.step (k := 4) (t := w) (a := 0) (b := 0) ?_ (by decide) hw (by decide) (by decide) (fun τ hτ => ?_)
    · rw [hσ4, gup_k (by decide), gup_s]; rfl
    · obtain ⟨r, hr1, hr2⟩ := (h.2.1.2 (1 - w) (by omega)).2
      rw [vPre_eq]
      exact fol_won hw hτ (r := r) (by omega) (by rw [vP_oth (by omega) (by omega) (by omega) (by omega) (by omega)]; exact hr2)
  have k80 : CO 8 n σ5 z := CO_keep a2 (fun i g1 g2 => by rw [k5 i (by omega), f4 i (by omega) (by omega), f3 i (by omega) (by omega)]) (fun _ _ => rfl)
  have k89 : ∀ t, t < 2 → σ5 (8 + 1 + 3 * t) 9 = 0 := fun t ht => by rw [k5 _ (by omega), f4 _ (by omega) (by omega), f3 _ (by omega) (by omega)]; exact a3 t ht
  have k0 : σ5 0 5 = nI L := by rw [b3.1 0 (by omega), f4 0 (by omega) (by omega), hσ3, gup_k (by decide), gup_s]
  have k15 : σ5 15 = upd (σ 15) 0 0 := by rw [k5 15 (by omega), f4 15 (by omega) (by omega), hσ3, gup_row, gup_oth (by decide), a4 15 (by omega)]
  have k16 : σ5 16 1 = nI (L + 1) := by rw [k5 16 (by omega), hσ4, gup_s]
  have k17 : σ5 17 = σ4 17 := k5 17 (by omega)
  have k18 : ∀ k, 18 ≤ k → σ5 k = σ k := fun k g => by rw [k5 k (by omega), f4 k (by omega) (by omega), f3 k (by omega) (by omega), a4 k (by omega)]
  have k9 : ∀ t, t < 2 → σ5 (1 + 1 + 3 * t) 9 = 0 := fun t ht => by
    have : σ5 (1 + 1 + 3 * t) 9 = σ4 (1 + 1 + 3 * t) 9 := by
      rcases two ht with rfl | rfl
      · exact (b3.2.2.2 9 (by omega)).1
      · exact (b3.2.2.2 9 (by omega)).2
    rw [this, f4 _ (by omega) (by omega), f3 _ (by omega) (by omega), a4 _ (by omega)]
    exact h9 t ht
  have fin : ∀ τ : gSt, (∀ k', (k' < 1 ∨ 8 ≤ k') → τ k' = σ5 k') → (∀ k, 18 ≤ k → (gup (gup τ 0 6 (1 - nI w)) 0 7 c) k = σ k) ∧ CO 8 n (gup (gup τ 0 6 (1 - nI w)) 0 7 c) z ∧ (∀ t, t < 2 → (gup (gup τ 0 6 (1 - nI w)) 0 7 c) (8 + 1 + 3 * t) 9 = 0) ∧ (gup (gup τ 0 6 (1 - nI w)) 0 7 c) 0 5 = nI L ∧ (gup (gup τ 0 6 (1 - nI w)) 0 7 c) 0 6 = nI (1 - w) ∧ (gup (gup τ 0 6 (1 - nI w)) 0 7 c) 0 7 = c ∧ (gup (gup τ 0 6 (1 - nI w)) 0 7 c) 15 = upd (σ 15) 0 0 ∧ (gup (gup τ 0 6 (1 - nI w)) 0 7 c) 16 1 = nI (L + 1) ∧ (∀ j, j < L → (gup (gup τ 0 6 (1 - nI w)) 0 7 c) 17 j = σ 17 j) ∧ Rdg ((gup (gup τ 0 6 (1 - nI w)) 0 7 c) 17) (L + 1) (RR (vGive w (vPre w c z))) := by
    intro τ hτ
    have o : ∀ k, k ≠ 0 → (gup (gup τ 0 6 (1 - nI w)) 0 7 c) k = τ k := fun k g => by rw [gup_oth g, gup_oth g]
    refine ⟨fun k g => ?_, ?_, fun t ht => ?_, ?_, ?_, ?_, ?_, ?_, fun j hj => ?_, ?_⟩
    · rw [o k (by omega), hτ k (by omega), k18 k g]
    · exact CO_keep k80 (fun i g1 g2 => by rw [o i (by omega), hτ i (by omega)]) (fun _ _ => rfl)
    · rw [o _ (by omega), hτ _ (by omega)]; exact k89 t ht
    · rw [gup_n (by decide), gup_n (by decide), hτ 0 (by omega)]; exact k0
    · rw [gup_n (by decide), gup_s, nI_1m hw]
    · rw [gup_s]
    · rw [o 15 (by decide), hτ 15 (by omega)]; exact k15
    · rw [o 16 (by decide), hτ 16 (by omega)]; exact k16
    · rw [o 17 (by decide), hτ 17 (by omega), k17]; exact hS17 j hj
    · rw [o 17 (by decide), hτ 17 (by omega), k17]; exact hRd
  rcases p_endIf hw b2.1 (fun t ht => (b2.2.2 t ht).1) with ⟨d1, d2⟩ | ⟨σ6, d1, d2, d3, d4⟩
  · rw [d1, gbv_some]
    obtain ⟨g1, g2, g3, g4, g5, g6, g7, g8, g9, g10⟩ := fin σ5 (fun _ _ => rfl)
    refine ⟨_, rfl, g1, g2, g3, g4, g5, g6, g7, g8, g9, g10, Or.inl ⟨d2, ?_, fun t ht => ?_⟩⟩
    · exact CO_keep b2 (fun i x y => by rw [gup_oth (by omega), gup_oth (by omega)]) (fun _ _ => rfl)
    · rw [gup_oth (by omega), gup_oth (by omega)]; exact k9 t ht
  · rw [d1, gbv_some]
    obtain ⟨g1, g2, g3, g4, g5, g6, g7, g8, g9, g10⟩ := fin σ6 d4
    refine ⟨_, rfl, g1, g2, g3, g4, g5, g6, g7, g8, g9, g10, Or.inr ⟨d2, ?_⟩⟩
    obtain ⟨x1, x2, x3⟩ := d3
    have o : ∀ k, k ≠ 0 → (gup (gup σ6 0 6 (1 - nI w)) 0 7 c) k = σ6 k := fun k g => by rw [gup_oth g, gup_oth g]
    refine ⟨by rw [o 1 (by decide)]; exact x1, by rw [o 1 (by decide)]; exact x2, fun t ht => ⟨SR_keep (x3 t ht).1 (o _ (by omega)) (o _ (by omega)) (fun _ _ => rfl), SX_keep (x3 t ht).2.1 (by rw [o _ (by omega)]) (by rw [o _ (by omega)]) (by rw [o _ (by omega)]) rfl rfl rfl, (x3 t ht).2.2⟩⟩
