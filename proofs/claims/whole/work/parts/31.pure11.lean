/-! the other changes of a row keep what holds of it; pairs; a court that holds all of a row -/
theorem Vt_keep {t : Nat} {z z' : vRow} (h26 : z' (26 + t) = z (26 + t)) (h28 : z' (28 + t) = z (28 + t)) (hp : ∀ j, 14 + 6 * t ≤ j → j ≤ 19 + 6 * t → z' j = z j) (hv : Vt t z) : Vt t z' := by
  have e : ∀ p, 1 ≤ p → p ≤ 6 → pRow t z' p = pRow t z p := fun p a b => hp _ (by omega) (by omega)
  obtain ⟨a, b, c⟩ := hv
  refine ⟨fun p q h1 h2 h3 h4 h5 => a p q h1 h2 h3 h4 (by rw [← e p h1 h2, ← e q h3 h4]; exact h5), fun g p h1 h2 => ?_, fun g => ⟨?_, fun p h1 h2 => ?_⟩⟩
  · rw [e p h1 h2, h26]; exact b (by rw [← h28]; exact g) p h1 h2
  · obtain ⟨p, h1, h2, h3⟩ := (c (by rw [← h28]; exact g)).1
    exact ⟨p, h1, h2, by rw [e p h1 h2, h26]; exact h3⟩
  · rw [e p h1 h2, h28]; exact (c (by rw [← h28]; exact g)).2 p h1 h2
theorem VV_keep {n : Nat} {z z' : vRow} (h : VV n z) (h2 : z' 2 = z 2) (hp : ∀ j, 14 ≤ j → j ≤ 29 → z' j = z j) (h36 : ∀ t, t < 2 → z' (36 + t) = z (36 + t)) : VV n z' := by
  refine ⟨by rw [h2]; exact h.1, fun t ht => ⟨Vt_keep (hp _ (by omega) (by omega)) (hp _ (by omega) (by omega)) (fun j a b => hp j (by omega) (by omega)) (h.2 t ht).1, ?_⟩⟩
  rw [h36 t ht]
  exact (h.2 t ht).2
theorem VV_take {n s : Nat} (hs : s < 2) {z : vRow} (h : VV n z) : VV (n + 1) (vTake s z) := by
  unfold vTake
  refine VV_give (by omega) (VV_keep h ?_ (fun j a b => ?_) (fun t ht => ?_)) <;> (unfold upd; rw [if_neg (by omega)])
theorem VV_serve {n s : Nat} {x : Int32} {z : vRow} (h : VV n z) : VV n (vServe s x z) :=
  VV_keep h (vServe_oth (by decide)) (fun j a b => vServe_oth (by omega)) (fun t ht => vServe_oth (by omega))
theorem VV_side {n t : Nat} (ht : t < 2) {z z' : vRow} (h : VV n z) (h2 : z' 2 = z 2) (hv : Vt t z') (hz : ∀ j, cIx (1 - t) j → z' j = z j) (h36 : z' (36 + t) = z (36 + t)) : VV n z' := by
  refine ⟨by rw [h2]; exact h.1, fun t' ht' => ?_⟩
  by_cases g : t' = t
  · subst g
    refine ⟨hv, ?_⟩
    rw [h36]; exact (h.2 _ ht').2
  · obtain rfl : t' = 1 - t := by omega
    refine ⟨Vt_cong hz (h.2 _ ht').1, ?_⟩
    rw [hz _ (by unfold cIx; omega)]
    exact (h.2 _ ht').2
/-- the row that the rally's end starts from -/
def vPre (w : Nat) (c : Int32) (z : vRow) : vRow := upd (upd (upd (upd (upd (vLost (1 - w) z) 1 0) 3 c) 40 (nI (1 - w))) 30 0) 31 0
theorem vWins_eq {w : Nat} {c : Int32} {z : vRow} : vWins w c z = vFin w (vGive w (vPre w c z)) := rfl
theorem vPre_oth {w j : Nat} {c : Int32} {z : vRow} (h1 : j ≠ 1) (h3 : j ≠ 3) (h4 : j ≠ 40) (h5 : j ≠ 30) (h6 : j ≠ 31) (h7 : j < 80) : vPre w c z j = z j := by
  unfold vPre
  have : upd (upd (upd (upd (upd (vLost (1 - w) z) 1 0) 3 c) 40 (nI (1 - w))) 30 0) 31 0 j = vLost (1 - w) z j := by
    unfold upd
    rw [if_neg h6, if_neg h5, if_neg h4, if_neg h3, if_neg h1]
  rw [this]
  exact vLost_oth (by omega)
theorem vPre_lost {w j : Nat} {c : Int32} {z : vRow} (h7 : 80 ≤ j) : vPre w c z j = vLost (1 - w) z j := by
  unfold vPre upd
  rw [if_neg (by omega), if_neg (by omega), if_neg (by omega), if_neg (by omega), if_neg (by omega)]
/-- the pairs of a team: the class's row of shirts and the model's triples -/
def PR (t : Nat) (f : Nat → Int32) (z : vRow) : Prop := ∃ m s : Nat, m ≤ s ∧ s ≤ 6 ∧ z (78 + t) = nI m ∧ z (32 + t) = nI s ∧
  (∀ i, i < m → ∃ a b : Nat, 1 ≤ a ∧ a ≤ 20 ∧ 1 ≤ b ∧ b ≤ 20 ∧ a ≠ b ∧ z (42 + 18 * t + 3 * i) = nI a ∧ z (43 + 18 * t + 3 * i) = nI b ∧ ((z (44 + 18 * t + 3 * i) = 1 ∧ f a = -1 ∧ f b = nI a) ∨ (z (44 + 18 * t + 3 * i) = 2 ∧ f a = -1 ∧ f b = -1))) ∧
  (∀ x, 1 ≤ x → x ≤ 20 → (∀ i, i < m → z (42 + 18 * t + 3 * i) ≠ nI x ∧ z (43 + 18 * t + 3 * i) ≠ nI x) → f x = 0) ∧
  ∀ i j, i < m → j < m → i ≠ j → z (42 + 18 * t + 3 * i) ≠ z (42 + 18 * t + 3 * j) ∧ z (42 + 18 * t + 3 * i) ≠ z (43 + 18 * t + 3 * j) ∧ z (43 + 18 * t + 3 * i) ≠ z (43 + 18 * t + 3 * j)
theorem PR_keep {t : Nat} {f f' : Nat → Int32} {z z' : vRow} (h : PR t f z) (hf : ∀ x, 1 ≤ x → x ≤ 20 → f' x = f x) (h1 : z' (78 + t) = z (78 + t)) (h2 : z' (32 + t) = z (32 + t)) (h3 : ∀ j, 42 + 18 * t ≤ j → j < 60 + 18 * t → z' j = z j) : PR t f' z' := by
  obtain ⟨m, s, a1, a2, a3, a4, a5, a6, a7⟩ := h
  refine ⟨m, s, a1, a2, h1.trans a3, h2.trans a4, fun i hi => ?_, fun x x1 x2 hx => ?_, fun i j hi hj hij => ?_⟩
  · obtain ⟨a, b, b1, b2, b3, b4, b5, b6, b7, b8⟩ := a5 i hi
    refine ⟨a, b, b1, b2, b3, b4, b5, ?_, ?_, ?_⟩
    · rw [h3 _ (by omega) (by omega)]; exact b6
    · rw [h3 _ (by omega) (by omega)]; exact b7
    · rw [h3 _ (by omega) (by omega), hf a b1 b2, hf b b3 b4]; exact b8
  · rw [hf x x1 x2]
    refine a6 x x1 x2 (fun i hi => ?_)
    have := hx i hi
    rw [h3 _ (by omega) (by omega), h3 _ (by omega) (by omega)] at this
    exact this
  · rw [h3 _ (by omega) (by omega), h3 _ (by omega) (by omega), h3 _ (by omega) (by omega), h3 _ (by omega) (by omega)]
    exact a7 i j hi hj hij
/-- what a side holds beside its court's row: sets, substitutions, challenges -/
def SX (k t : Nat) (σ : gSt) (z : vRow) : Prop := σ k 5 = z (12 + t) ∧ σ k 7 = z (32 + t) ∧ σ k 8 = z (34 + t) ∧ ∃ c : Nat, c ≤ 2 ∧ z (34 + t) = nI c
theorem SX_keep {k t : Nat} {σ σ' : gSt} {z z' : vRow} (h : SX k t σ z) (h5 : σ' k 5 = σ k 5) (h7 : σ' k 7 = σ k 7) (h8 : σ' k 8 = σ k 8) (z5 : z' (12 + t) = z (12 + t)) (z7 : z' (32 + t) = z (32 + t)) (z8 : z' (34 + t) = z (34 + t)) : SX k t σ' z' :=
  ⟨by rw [h5, h.1, z5], by rw [h7, h.2.1, z7], by rw [h8, h.2.2.1, z8], by rw [z8]; exact h.2.2.2⟩
def CO (k n : Nat) (σ : gSt) (z : vRow) : Prop := CS k σ z ∧ VV n z ∧ ∀ t, t < 2 → SX (k + 1 + 3 * t) t σ z ∧ PR t (σ (k + 1 + 3 * t + 2)) z
theorem CO.mono {k n m : Nat} {σ : gSt} {z : vRow} (h : CO k n σ z) (hm : n ≤ m) : CO k m σ z := ⟨h.1, h.2.1.mono hm, h.2.2⟩
/-- other cells, other numbers of the row -/
theorem CO_keep {k n : Nat} {σ σ' : gSt} {z z' : vRow} (h : CO k n σ z) (hσ : ∀ i, k ≤ i → i < k + 7 → σ' i = σ i) (hz : ∀ j, j = 2 ∨ j = 9 ∨ (10 ≤ j ∧ j < 30) ∨ (32 ≤ j ∧ j < 38) ∨ (42 ≤ j ∧ j < 80) → z' j = z j) : CO k n σ' z' := by
  obtain ⟨h1, h2, h3⟩ := h
  refine ⟨⟨?_, ?_, fun t ht => ?_⟩, VV_keep h2 (hz _ (by omega)) (fun j a b => hz j (by omega)) (fun t ht => hz _ (by omega)), fun t ht => ⟨?_, ?_⟩⟩
  · rw [hσ k (by omega) (by omega), h1.1, hz 2 (by omega)]
  · rw [hσ k (by omega) (by omega), h1.2.1, hz 9 (by omega)]
  · exact SR_keep (h1.2.2 t ht) (hσ _ (by omega) (by omega)) (hσ _ (by omega) (by omega)) (fun j hj => hz j (by unfold cIx at hj; omega))
  · have e := hσ (k + 1 + 3 * t) (by omega) (by omega)
    exact SX_keep (h3 t ht).1 (by rw [e]) (by rw [e]) (by rw [e]) (hz _ (by omega)) (hz _ (by omega)) (hz _ (by omega))
  · exact PR_keep (h3 t ht).2 (fun x _ _ => by rw [hσ _ (by omega) (by omega)]) (hz _ (by omega)) (hz _ (by omega)) (fun j a b => hz j (by omega))
theorem CO_give {k n w : Nat} (hk : gIsCourt k) (hw : w < 2) {σ : gSt} {z : vRow} (h : CO k n σ z) : ∃ σ', F_Court_givePoint k (nI w) σ = some σ' ∧ CO k (n + 1) σ' (vGive w z) ∧ KF k σ σ' := by
  obtain ⟨h1, h2, h3⟩ := h
  obtain ⟨σ', q1, q2, q3⟩ := p_givePoint hk hw h1
  refine ⟨σ', q1, ⟨q2, VV_give hw h2, fun t ht => ⟨?_, ?_⟩⟩, q3⟩
  · have e : ∀ j, (j = 5 ∨ j = 7 ∨ j = 8 ∨ j = 9) → σ' (k + 1 + 3 * t) j = σ (k + 1 + 3 * t) j := fun j hj => by
      rcases two ht with rfl | rfl
      · exact (q3.2.2.2 j hj).1
      · exact (q3.2.2.2 j hj).2
    exact SX_keep (h3 t ht).1 (e 5 (by omega)) (e 7 (by omega)) (e 8 (by omega)) (vGive_oth hw (by unfold cIx; omega) (by omega) (by omega)) (vGive_oth hw (by unfold cIx; omega) (by omega) (by omega)) (vGive_oth hw (by unfold cIx; omega) (by omega) (by omega))
  · have e : σ' (k + 1 + 3 * t + 2) = σ (k + 1 + 3 * t + 2) := by
      rcases two ht with rfl | rfl
      · exact q3.2.1
      · exact q3.2.2.1
    exact PR_keep (h3 t ht).2 (fun x _ _ => by rw [e]) (vGive_oth hw (by unfold cIx; omega) (by omega) (by omega)) (vGive_oth hw (by unfold cIx; omega) (by omega) (by omega)) (fun j a b => vGive_oth hw (by unfold cIx; omega) (by omega) (by omega))
/-- the court after a set: no server, no orders -/
def CX (k : Nat) (σ : gSt) (z : vRow) : Prop := σ k 2 = -1 ∧ σ k 3 = -1 ∧ ∀ t, t < 2 → SR (k + 1 + 3 * t) t σ z ∧ SX (k + 1 + 3 * t) t σ z ∧ z (28 + t) = -1
theorem p_endSet {k w : Nat} (hk : gIsCourt k) (hw : w < 2) {σ : gSt} {z : vRow} (h : CS k σ z) (hx : ∀ t, t < 2 → SX (k + 1 + 3 * t) t σ z) : ∃ σ', F_Court_endSet k (nI w) σ = some σ' ∧ CX k σ' (vEnd w z) ∧ (∀ k', (k' < k ∨ k + 7 ≤ k') → σ' k' = σ k') := by
  have hs1 : gIsSide (k + 1) := (gCt hk).2.2.2.2.1
  have hs4 : gIsSide (k + 4) := (gCt hk).2.2.2.2.2
  unfold F_Court_endSet
  rw [p_sideOf hw, gbr_some, gl_eq]
  obtain ⟨τ0, hτ0⟩ : ∃ τ0, τ0 = gup σ (k + 1 + 3 * w) 5 (σ (k + 1 + 3 * w) 5 + 1) := ⟨_, rfl⟩
  rw [← hτ0]
  obtain ⟨τ1, a1, a2, a3, a4, a5, a6⟩ := p_clearOrder hs1 τ0
  obtain ⟨τ2, b1, b2, b3, b4, b5, b6⟩ := p_clearOrder hs4 τ1
  rw [a1, gbv_some, b1, gbv_some]
  simp only [gl_eq]
  have eo : ∀ k', k' ≠ k → (gup (gup τ2 k 2 (-1)) k 3 (-1)) k' = τ2 k' := fun k' g => by rw [gup_oth g, gup_oth g]
  have e1 : τ2 (k + 1) = τ1 (k + 1) := b2 _ (by omega) (by omega)
  have e2 : τ2 (k + 2) = τ1 (k + 2) := b2 _ (by omega) (by omega)
  have e4 : τ1 (k + 4) = τ0 (k + 4) := a2 _ (by omega) (by omega)
  have g0 : ∀ t, t < 2 → ∀ j, j ≠ 2 → j ≠ 3 → (gup (gup τ2 k 2 (-1)) k 3 (-1)) (k + 1 + 3 * t) j = τ0 (k + 1 + 3 * t) j := fun t ht j g2 g3 => by
    rw [eo _ (by omega)]
    rcases two ht with rfl | rfl
    · show τ2 (k + 1) j = τ0 (k + 1) j
      rw [e1, a3 j g2 g3]
    · show τ2 (k + 4) j = τ0 (k + 4) j
      rw [b3 j g2 g3, e4]
  have v0 : ∀ t, t < 2 → ∀ j, j ≠ 5 → τ0 (k + 1 + 3 * t) j = σ (k + 1 + 3 * t) j := fun t ht j g => by rw [hτ0, gup_n (by omega)]
  have ve : ∀ j, j ≠ 0 → j ≠ 12 + w → ¬ (14 ≤ j ∧ j < 30) → vEnd w z j = z j := fun j q1 q2 q3 => by unfold vEnd; rw [if_neg q3, if_neg q1, if_neg q2]
  have vm : ∀ j, (14 ≤ j ∧ j < 30) → vEnd w z j = -1 := fun j q => by unfold vEnd; rw [if_pos q]
  refine ⟨_, rfl, ⟨?_, ?_, fun t ht => ⟨⟨?_, ?_, ?_, ?_, fun p x y => ?_⟩, ⟨?_, ?_, ?_, ?_⟩, vm _ (by omega)⟩⟩, fun k' g => ?_⟩
  · rw [gup_n (by omega), gup_s]
  · rw [gup_s]
  · rw [eo _ (by omega), vm _ (by omega)]
    rcases two ht with rfl | rfl
    · show τ2 (k + 1) 2 = -1
      rw [e1, a4]
    · exact b4
  · rw [eo _ (by omega), vm _ (by omega)]
    rcases two ht with rfl | rfl
    · show τ2 (k + 1) 3 = -1
      rw [e1, a5]
    · exact b5
  · rw [g0 t ht 4 (by decide) (by decide), v0 t ht 4 (by decide), (h.2.2 t ht).2.2.1, ve _ (by omega) (by omega) (by omega)]
  · rw [g0 t ht 6 (by decide) (by decide), v0 t ht 6 (by decide), (h.2.2 t ht).2.2.2.1, ve _ (by omega) (by omega) (by omega)]
  · rw [eo _ (by omega), vm _ (by omega)]
    rcases two ht with rfl | rfl
    · show τ2 (k + 2) p = -1
      rw [e2]; exact a6 p x y
    · exact b6 p x y
  · rw [g0 t ht 5 (by decide) (by decide), hτ0]
    by_cases g : t = w
    · subst g
      rw [gup_s, (hx t ht).1]
      unfold vEnd
      rw [if_neg (by omega), if_neg (by omega), if_pos rfl]
    · rw [gup_k (by omega), (hx t ht).1, ve _ (by omega) (by omega) (by omega)]
  · rw [g0 t ht 7 (by decide) (by decide), v0 t ht 7 (by decide), (hx t ht).2.1, ve _ (by omega) (by omega) (by omega)]
  · rw [g0 t ht 8 (by decide) (by decide), v0 t ht 8 (by decide), (hx t ht).2.2.1, ve _ (by omega) (by omega) (by omega)]
  · rw [ve _ (by omega) (by omega) (by omega)]; exact (hx t ht).2.2.2
  · rw [eo _ (by omega), b2 _ (by omega) (by omega), a2 _ (by omega) (by omega), hτ0, gup_oth (by omega)]
