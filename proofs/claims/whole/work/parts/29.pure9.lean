/-! what the reader does at each sign -/
theorem CS_side {k t : Nat} (ht : t < 2) {σ σ' : gSt} {z z' : vRow} (h : CS k σ z) (hS : SR (k + 1 + 3 * t) t σ' z') (hf : ∀ k', k' ≠ k + 1 + 3 * t → k' ≠ k + 1 + 3 * t + 1 → k' ≠ k + 1 + 3 * t + 2 → σ' k' = σ k') (h2 : z' 2 = z 2) (h9 : z' 9 = z 9) (hz : ∀ j, cIx (1 - t) j → z' j = z j) : CS k σ' z' := by
  refine ⟨by rw [hf k (by omega) (by omega) (by omega), h.1, h2], by rw [hf k (by omega) (by omega) (by omega), h.2.1, h9], fun t' ht' => ?_⟩
  by_cases g : t' = t
  · rw [g]; exact hS
  · obtain rfl : t' = 1 - t := by omega
    exact SR_keep (h.2.2 _ ht') (hf _ (by omega) (by omega) (by omega)) (hf _ (by omega) (by omega) (by omega)) hz
theorem CS_cong {k : Nat} {σ : gSt} {z z' : vRow} (h : CS k σ z) (h2 : z' 2 = z 2) (h9 : z' 9 = z 9) (hz : ∀ t, t < 2 → ∀ j, cIx t j → z' j = z j) : CS k σ z' :=
  ⟨h.1.trans h2.symm, h.2.1.trans h9.symm, fun t ht => SR_keep (h.2.2 t ht) rfl rfl (hz t ht)⟩
theorem vLost_oth {t j : Nat} {z : vRow} (h : j < 80 + 6 * t ∨ 86 + 6 * t ≤ j) : vLost t z j = z j := by
  have hm : (z (36 + t)).toNatClampNeg % 6 < 6 := Nat.mod_lt _ (by decide)
  unfold vLost upd
  rw [if_neg (by omega)]
theorem vLost_CS {k t : Nat} (ht : t < 2) {σ : gSt} {z : vRow} (h : CS k σ z) : CS k σ (vLost t z) :=
  CS_cong h (vLost_oth (by omega)) (vLost_oth (by omega)) (fun t' ht' j hj => vLost_oth (by unfold cIx at hj; omega))
theorem p_countLost {t r : Nat} (ht : t < 2) {σ : gSt} {z : vRow} (h : RR z σ) (hr : r < 4096) (hz : z (36 + t) = nI r) : ∃ σ', F_Reader_countLost (nI t) σ = some σ' ∧ RR (vLost t z) σ' ∧ RF σ σ' := by
  obtain ⟨hC, hL⟩ := h
  have a6 := (hC.2.2 t ht).2.2.2.1
  have hm : r % 6 < 6 := Nat.mod_lt _ (by decide)
  unfold F_Reader_countLost
  rw [p_sideOf ht, gbr_some, a6, hz, nI_rem hr, gl_eq]
  unfold F_Reader_lostBy F_Reader_rowOf
  have eL : (vLost t z) = upd z (80 + 6 * t + r % 6) (z (80 + 6 * t + r % 6) + 1) := by unfold vLost; rw [hz, nI_clamp (by omega)]
  rcases two ht with rfl | rfl
  · simp only [if_neg (show ¬ nI 0 = (1 : Int32) by decide), gbr_some]
    rw [p_vN σ (show gLn 26 = 6 from rfl) hm (by decide), gbi_some, gbi_some, p_pN _ (show gLn 26 = 6 from rfl) hm (by decide), gbv_some, (hL _ hm).1]
    refine ⟨_, rfl, ⟨?_, fun q hq => ⟨?_, ?_⟩⟩, fun k a => gup_oth (by omega)⟩
    · refine ⟨?_, ?_, fun t' ht' => SR_keep ((vLost_CS (t := 0) (by decide) hC).2.2 t' ht') (gup_oth (by omega)) (gup_oth (by omega)) (fun _ _ => rfl)⟩
      · rw [gup_oth (by omega), (vLost_CS (t := 0) (by decide) hC).1]
      · rw [gup_oth (by omega), (vLost_CS (t := 0) (by decide) hC).2.1]
    · rw [gup_row, eL]
      unfold upd
      by_cases g : q = r % 6
      · rw [if_pos g, if_pos (by omega)]
      · rw [if_neg g, if_neg (by omega)]; exact (hL q hq).1
    · rw [gup_oth (by decide), eL]
      unfold upd
      rw [if_neg (by omega)]; exact (hL q hq).2
  · simp only [if_pos (show nI 1 = (1 : Int32) by decide), gbr_some]
    rw [p_vN σ (show gLn 27 = 6 from rfl) hm (by decide), gbi_some, gbi_some, p_pN _ (show gLn 27 = 6 from rfl) hm (by decide), gbv_some, (hL _ hm).2]
    refine ⟨_, rfl, ⟨?_, fun q hq => ⟨?_, ?_⟩⟩, fun k a => gup_oth (by omega)⟩
    · refine ⟨?_, ?_, fun t' ht' => SR_keep ((vLost_CS (t := 1) (by decide) hC).2.2 t' ht') (gup_oth (by omega)) (gup_oth (by omega)) (fun _ _ => rfl)⟩
      · rw [gup_oth (by omega), (vLost_CS (t := 1) (by decide) hC).1]
      · rw [gup_oth (by omega), (vLost_CS (t := 1) (by decide) hC).2.1]
    · rw [gup_oth (by decide), eL]
      unfold upd
      rw [if_neg (by omega)]; exact (hL q hq).1
    · rw [gup_row, eL]
      unfold upd
      by_cases g : q = r % 6
      · rw [if_pos g, if_pos (by omega), show 80 + 6 * 1 = 86 from rfl]
      · rw [if_neg g, if_neg (by omega)]; exact (hL q hq).2
theorem fol_serve {t a b : Nat} (ht : t < 2) {σ : gSt} {z : vRow} (h : RR z σ) (h2 : z 2 = nI t) : ∃ σ', F_Reader_follow (nI 3) (nI t) (nI a) (nI b) σ = some σ' ∧ RR (vServe t (nI a) z) σ' ∧ RF σ σ' := by
  obtain ⟨σ', q1, q2, q3, q4⟩ := p_takeService (x := nI a) gc19 ht h.1 h2
  obtain ⟨f1, f2, f3⟩ := KF_RF q3.1
  unfold F_Reader_follow
  rw [p_sideOf ht, gbr_some, if_neg (by decide), if_neg (by decide), if_neg (by decide), if_pos (by decide), q1, gbi_some]
  exact ⟨σ', rfl, ⟨q2, LR_keep h.2 f2 f3 (fun j hj => vServe_oth (by omega))⟩, f1⟩
theorem fol_won {t r a b : Nat} (ht : t < 2) {σ : gSt} {z : vRow} (h : RR z σ) (hr : r < 4096) (hz : z (36 + (1 - t)) = nI r) : ∃ σ', F_Reader_follow (nI 4) (nI t) (nI a) (nI b) σ = some σ' ∧ RR (vGive t (vLost (1 - t) z)) σ' ∧ RF σ σ' := by
  obtain ⟨τ, q1, q2, q3⟩ := p_countLost (t := 1 - t) (by omega) h hr hz
  obtain ⟨σ', r1, r2, r3⟩ := p_givePoint gc19 ht q2.1
  obtain ⟨f1, f2, f3⟩ := KF_RF r3.1
  unfold F_Reader_follow
  rw [p_sideOf ht, gbr_some, if_neg (by decide), if_neg (by decide), if_neg (by decide), if_neg (by decide), if_pos (by decide), nI_1m ht, q1, gbv_some, r1, gbv_some]
  exact ⟨σ', rfl, ⟨r2, LR_keep q2.2 f2 f3 (fun j hj => vGive_oth ht (by unfold cIx; omega) (by omega) (by omega))⟩, q3.tr f1⟩
theorem fol_found {t s a b : Nat} (ht : t < 2) (hs : s < 2) {σ : gSt} {z : vRow} (h : RR z σ) (h2 : z 2 = nI s) : ∃ σ', F_Reader_follow (nI 5) (nI t) (nI a) (nI b) σ = some σ' ∧ RR (vTake s z) σ' ∧ RF σ σ' := by
  obtain ⟨σ', q1, q2, q3⟩ := p_takeBack gc19 hs h.1 h2
  obtain ⟨f1, f2, f3⟩ := KF_RF q3.1
  unfold F_Reader_follow
  rw [p_sideOf ht, gbr_some, if_neg (by decide), if_neg (by decide), if_neg (by decide), if_neg (by decide), if_neg (by decide), if_pos (by decide), q1, gbi_some]
  refine ⟨σ', rfl, ⟨q2, LR_keep h.2 f2 f3 (fun j hj => ?_)⟩, f1⟩
  unfold vTake
  rw [vGive_oth (by omega) (by unfold cIx; omega) (by omega) (by omega)]
  unfold upd
  rw [if_neg (by omega)]
theorem vSwap_oth {t q j : Nat} (ht : t < 2) {z : vRow} {x : Int32} (hq : 1 ≤ q ∧ q ≤ 6) (hp : pFirst (pRow t z) (if z (28 + t) = -1 then x else z (26 + t)) = nI q) (h1 : ¬ (14 + 6 * t ≤ j ∧ j ≤ 19 + 6 * t)) (h2 : j ≠ 28 + t) : vSwap t x z j = z j := by
  unfold vSwap
  by_cases g : z (28 + t) = -1
  · rw [if_pos g] at hp ⊢
    rw [hp, nI_clamp (by omega)]
    unfold upd
    rw [if_neg h2, if_neg (by omega)]
  · rw [if_neg g] at hp ⊢
    rw [hp, nI_clamp (by omega)]
    unfold upd
    rw [if_neg h2, if_neg (by omega)]
theorem vSub_oth {t q j : Nat} (ht : t < 2) {z : vRow} {x y : Int32} (hq : 1 ≤ q ∧ q ≤ 6) (hp : pFirst (pRow t z) x = nI q) (h1 : ¬ (14 + 6 * t ≤ j ∧ j ≤ 19 + 6 * t)) : vSub t x y z j = z j := by
  unfold vSub
  rw [hp, nI_clamp (by omega)]
  unfold upd
  rw [if_neg (by omega)]
theorem fol_exch {t q a b : Nat} (ht : t < 2) {σ : gSt} {z : vRow} (h : RR z σ) (hq : 1 ≤ q ∧ q ≤ 6) (hp : pFirst (pRow t z) (if z (28 + t) = -1 then nI a else z (26 + t)) = nI q) : ∃ σ', F_Reader_follow (nI 6) (nI t) (nI a) (nI b) σ = some σ' ∧ RR (vSwap t (nI a) z) σ' ∧ RF σ σ' := by
  obtain ⟨σ', q1, q2, q3, q4, q5⟩ := p_swapLibero (x := nI a) (gSideOf gc19 ht) ht (h.1.2.2 t ht) hq hp
  unfold F_Reader_follow
  rw [p_sideOf ht, gbr_some, if_neg (by decide), if_neg (by decide), if_neg (by decide), if_neg (by decide), if_neg (by decide), if_neg (by decide), if_pos (by decide), q1, gbv_some]
  refine ⟨σ', rfl, ⟨CS_side ht h.1 q2 (fun k' a b c => q3 k' a b) (vSwap_oth ht hq hp (by omega) (by omega)) (vSwap_oth ht hq hp (by omega) (by omega)) (fun j hj => vSwap_oth ht hq hp (by unfold cIx at hj; omega) (by unfold cIx at hj; omega)), LR_keep h.2 (q3 26 (by omega) (by omega)) (q3 27 (by omega) (by omega)) (fun j hj => vSwap_oth ht hq hp (by omega) (by omega))⟩, fun k hk => q3 k (by omega) (by omega)⟩
theorem fol_subst {t q a b : Nat} (ht : t < 2) {σ : gSt} {z : vRow} (h : RR z σ) (ha : 1 ≤ a ∧ a ≤ 20) (hb : 1 ≤ b ∧ b ≤ 20) (hq : 1 ≤ q ∧ q ≤ 6) (hp : pFirst (pRow t z) (nI a) = nI q) : ∃ σ', F_Reader_follow (nI 7) (nI t) (nI a) (nI b) σ = some σ' ∧ RR (vSub t (nI a) (nI b) z) σ' ∧ RF σ σ' := by
  obtain ⟨σ', q1, q2, q3, q4, q5, q6⟩ := p_swapByPair (gSideOf gc19 ht) ht (h.1.2.2 t ht) ha hb hq hp
  unfold F_Reader_follow
  rw [p_sideOf ht, gbr_some, if_neg (by decide), if_neg (by decide), if_neg (by decide), if_neg (by decide), if_neg (by decide), if_neg (by decide), if_neg (by decide), if_pos (by decide), q1, gbv_some]
  refine ⟨σ', rfl, ⟨CS_side ht h.1 q2 (fun k' a b c => q3 k' a b c) (vSub_oth ht hq hp (by omega)) (vSub_oth ht hq hp (by omega)) (fun j hj => vSub_oth ht hq hp (by unfold cIx at hj; omega)), LR_keep h.2 (q3 26 (by omega) (by omega) (by omega)) (q3 27 (by omega) (by omega) (by omega)) (fun j hj => vSub_oth ht hq hp (by omega))⟩, fun k hk => q3 k (by omega) (by omega) (by omega)⟩
