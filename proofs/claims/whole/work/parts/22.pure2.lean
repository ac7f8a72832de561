/-! rows in the layout of the reference's z; the court at k holds a row -/
abbrev vRow : Type := Nat → Int32
theorem six {P : Nat → Prop} (h1 : P 1) (h2 : P 2) (h3 : P 3) (h4 : P 4) (h5 : P 5) (h6 : P 6) : ∀ p, 1 ≤ p → p ≤ 6 → P p := by
  intro p a b
  have h : p = 1 ∨ p = 2 ∨ p = 3 ∨ p = 4 ∨ p = 5 ∨ p = 6 := by omega
  rcases h with rfl | rfl | rfl | rfl | rfl | rfl <;> assumption
theorem two {t : Nat} (h : t < 2) : t = 0 ∨ t = 1 := by omega
def SR (k t : Nat) (σ : gSt) (z : vRow) : Prop := σ k 2 = z (26 + t) ∧ σ k 3 = z (28 + t) ∧ σ k 4 = z (10 + t) ∧ σ k 6 = z (36 + t) ∧ ∀ p, 1 ≤ p → p ≤ 6 → σ (k + 1) p = z (13 + 6 * t + p)
def CR (k : Nat) (σ : gSt) (z : vRow) : Prop := σ k 2 = z 2 ∧ σ k 3 = z 9 ∧ SR (k + 1) 0 σ z ∧ SR (k + 4) 1 σ z
def vRotS (t : Nat) (z : vRow) : vRow := fun j => if 14 + 6 * t ≤ j ∧ j < 19 + 6 * t then z (j + 1) else if j = 19 + 6 * t then z (14 + 6 * t) else if j = 36 + t then z j + 1 else z j
def vRot (t : Nat) (z : vRow) : vRow := if z (28 + t) ≠ -1 ∧ z (18 + 6 * t) = z (26 + t) then upd (upd (vRotS t z) (17 + 6 * t) (z (28 + t))) (28 + t) (-1) else vRotS t z
def vGive (t : Nat) (z : vRow) : vRow := if z 2 = nI t then upd z (10 + t) (z (10 + t) + 1) else vRot t (upd (upd (upd z (10 + t) (z (10 + t) + 1)) 2 (nI t)) 9 (-1))
theorem gbv_some {ρ : Type} {q : gSt} {K : gSt → Option ρ} : gbv (some q) K = K q := rfl
theorem gbi_some {ρ : Type} {r : Int32} {q : gSt} {K : Int32 → gSt → Option ρ} : gbi (some (r, q)) K = K r q := rfl
theorem gbr_some {ρ : Type} {r : Nat} {q : gSt} {K : Nat → gSt → Option ρ} : gbr (some (r, q)) K = K r q := rfl
theorem gl_eq {α β : Type} {v : α} {K : α → β} : gl v K = K v := rfl
theorem gbx_ok {v : Int32} {q : gSt} {K : gSt → Option (Int32 × Int32 × gSt)} : gbx (some ((0 : Int32), v, q)) K = K q := rfl
theorem gbx_ex {c v : Int32} {q : gSt} {K : gSt → Option (Int32 × Int32 × gSt)} (h : c ≠ 0) : gbx (some (c, v, q)) K = some (c, 0, q) := if_neg h
theorem p_rot_step {k : Nat} (hk : gIsSide k) (σ : gSt) {x : Int32} {n p : Nat} (hp : p < 6) : F_Side_rotate_B8 k (n + 1) x (nI p) σ = F_Side_rotate_B8 k n x (nI (p + 1)) (gup σ (k + 1) p (σ (k + 1) (p + 1))) := by
  have h6 : ¬ (6 : Int32) ≤ nI p := by
    rw [show (6 : Int32) = nI 6 from rfl]
    exact nI_ge (by omega) (by decide)
  conv => lhs; unfold F_Side_rotate_B8
  rw [if_neg h6, show (nI p + (1 : Int32)) = nI (p + 1) from nI_1 p, p_shirtIn hk σ (by omega)]
  show gbv (F_Side_put k (nI p) (σ (k + 1) (p + 1)) σ) _ = _
  rw [p_put hk σ (by omega)]
  rfl
theorem p_rot_end {k : Nat} (hk : gIsSide k) (σ : gSt) {x : Int32} {n : Nat} : F_Side_rotate_B8 k (n + 1) x (nI 6) σ = (if σ k 3 = -1 then some (gup (gup σ (k + 1) 6 x) k 6 (σ k 6 + 1)) else if σ (k + 1) 4 = σ k 2 then some (gup (gup (gup (gup σ (k + 1) 6 x) k 6 (σ k 6 + 1)) (k + 1) 4 (σ k 3)) k 3 (-1)) else some (gup (gup σ (k + 1) 6 x) k 6 (σ k 6 + 1))) := by
  conv => lhs; unfold F_Side_rotate_B8
  rw [if_pos (by decide), show (6 : Int32) = nI 6 from rfl, p_put hk σ (by decide)]
  have e1 : gup σ (k + 1) 6 x k 6 = σ k 6 := gup_k (by omega)
  have e2 : gup (gup σ (k + 1) 6 x) k 6 (σ k 6 + 1) k 3 = σ k 3 := by rw [gup_n (by omega), gup_k (by omega)]
  simp only [gbv_some, gl_eq, e1]
  unfold F_Side_isLiberoIn
  rw [e2]
  by_cases h : σ k 3 = -1
  · rw [if_pos h, if_pos h, gbi_some, if_pos rfl]
  · rw [if_neg h, if_neg h, gbi_some, if_neg (by decide), show (4 : Int32) = nI 4 from rfl, p_shirtIn hk _ (by decide), gbi_some]
    have e3 : gup (gup σ (k + 1) 6 x) k 6 (σ k 6 + 1) (k + 1) 4 = σ (k + 1) 4 := by rw [gup_k (by omega), gup_n (by omega)]
    have e4 : gup (gup σ (k + 1) 6 x) k 6 (σ k 6 + 1) k 2 = σ k 2 := by rw [gup_n (by omega), gup_k (by omega)]
    rw [e3, e4, e2, p_put hk _ (by decide)]
    rfl
theorem p_rotate {k t : Nat} (hk : gIsSide k) (ht : t < 2) {σ : gSt} {z : vRow} (h : SR k t σ z) : ∃ σ', F_Side_rotate k σ = some σ' ∧ SR k t σ' (vRot t z) ∧ (∀ k', k' ≠ k → k' ≠ k + 1 → σ' k' = σ k') ∧ ∀ j, j ≠ 3 → j ≠ 6 → σ' k j = σ k j := by
  obtain ⟨h2, h3, h4, h6, hs⟩ := h
  have s1 := hs 1 (by decide) (by decide)
  have s2 := hs 2 (by decide) (by decide)
  have s3 := hs 3 (by decide) (by decide)
  have s4 := hs 4 (by decide) (by decide)
  have s5 := hs 5 (by decide) (by decide)
  have s6 := hs 6 (by decide) (by decide)
  have hF : F_Side_rotate k σ = F_Side_rotate_B8 k (94 + 1) (σ (k + 1) 1) (nI 6) (gup (gup (gup (gup (gup σ (k + 1) 1 (σ (k + 1) 2)) (k + 1) 2 (σ (k + 1) 3)) (k + 1) 3 (σ (k + 1) 4)) (k + 1) 4 (σ (k + 1) 5)) (k + 1) 5 (σ (k + 1) 6)) := by
    unfold F_Side_rotate
    rw [show (1 : Int32) = nI 1 from rfl, p_shirtIn hk σ (by decide)]
    show F_Side_rotate_B8 k (94 + 1 + 1 + 1 + 1 + 1 + 1) (σ (k + 1) 1) (nI 1) σ = _
    rw [p_rot_step hk _ (by decide), p_rot_step hk _ (by decide), p_rot_step hk _ (by decide), p_rot_step hk _ (by decide), p_rot_step hk _ (by decide)]
    simp [gup]
  have fr : ∀ (τ : gSt) (v w : Int32) (i j : Nat) (k' : Nat), k' ≠ k → k' ≠ k + 1 → gup (gup τ (k + 1) i v) k j w k' = τ k' := fun τ v w i j k' a b => by rw [gup_oth a, gup_oth b]
  have f5 : ∀ k', k' ≠ k + 1 → (gup (gup (gup (gup (gup σ (k + 1) 1 (σ (k + 1) 2)) (k + 1) 2 (σ (k + 1) 3)) (k + 1) 3 (σ (k + 1) 4)) (k + 1) 4 (σ (k + 1) 5)) (k + 1) 5 (σ (k + 1) 6)) k' = σ k' := fun k' a => by
    rw [gup_oth a, gup_oth a, gup_oth a, gup_oth a, gup_oth a]
  rw [hF, p_rot_end hk]
  generalize hτ : (gup (gup (gup (gup (gup σ (k + 1) 1 (σ (k + 1) 2)) (k + 1) 2 (σ (k + 1) 3)) (k + 1) 3 (σ (k + 1) 4)) (k + 1) 4 (σ (k + 1) 5)) (k + 1) 5 (σ (k + 1) 6)) = τ at f5
  have t1 : τ (k + 1) 1 = σ (k + 1) 2 := by rw [← hτ]; simp [gup]
  have t2 : τ (k + 1) 2 = σ (k + 1) 3 := by rw [← hτ]; simp [gup]
  have t3 : τ (k + 1) 3 = σ (k + 1) 4 := by rw [← hτ]; simp [gup]
  have t4 : τ (k + 1) 4 = σ (k + 1) 5 := by rw [← hτ]; simp [gup]
  have t5 : τ (k + 1) 5 = σ (k + 1) 6 := by rw [← hτ]; simp [gup]
  have tk : τ k = σ k := f5 k (by omega)
  rw [tk, t4]
  rcases two ht with rfl | rfl
  · by_cases g1 : σ k 3 = -1
    · rw [if_pos g1]
      refine ⟨_, rfl, ⟨?_, ?_, ?_, ?_, six ?_ ?_ ?_ ?_ ?_ ?_⟩, fun k' a b => by rw [fr _ _ _ _ _ _ a b, f5 _ b], fun j a b => ?_⟩ <;> simp_all [gup, vRot, vRotS, upd]
    · rw [if_neg g1]
      by_cases g2 : σ (k + 1) 5 = σ k 2
      · rw [if_pos g2]
        refine ⟨_, rfl, ⟨?_, ?_, ?_, ?_, six ?_ ?_ ?_ ?_ ?_ ?_⟩, fun k' a b => by rw [fr _ _ _ _ _ _ a b, fr _ _ _ _ _ _ a b, f5 _ b], fun j a b => ?_⟩ <;> simp_all [gup, vRot, vRotS, upd]
      · rw [if_neg g2]
        refine ⟨_, rfl, ⟨?_, ?_, ?_, ?_, six ?_ ?_ ?_ ?_ ?_ ?_⟩, fun k' a b => by rw [fr _ _ _ _ _ _ a b, f5 _ b], fun j a b => ?_⟩ <;> simp_all [gup, vRot, vRotS, upd]
  · by_cases g1 : σ k 3 = -1
    · rw [if_pos g1]
      refine ⟨_, rfl, ⟨?_, ?_, ?_, ?_, six ?_ ?_ ?_ ?_ ?_ ?_⟩, fun k' a b => by rw [fr _ _ _ _ _ _ a b, f5 _ b], fun j a b => ?_⟩ <;> simp_all [gup, vRot, vRotS, upd]
    · rw [if_neg g1]
      by_cases g2 : σ (k + 1) 5 = σ k 2
      · rw [if_pos g2]
        refine ⟨_, rfl, ⟨?_, ?_, ?_, ?_, six ?_ ?_ ?_ ?_ ?_ ?_⟩, fun k' a b => by rw [fr _ _ _ _ _ _ a b, fr _ _ _ _ _ _ a b, f5 _ b], fun j a b => ?_⟩ <;> simp_all [gup, vRot, vRotS, upd]
      · rw [if_neg g2]
        refine ⟨_, rfl, ⟨?_, ?_, ?_, ?_, six ?_ ?_ ?_ ?_ ?_ ?_⟩, fun k' a b => by rw [fr _ _ _ _ _ _ a b, f5 _ b], fun j a b => ?_⟩ <;> simp_all [gup, vRot, vRotS, upd]
