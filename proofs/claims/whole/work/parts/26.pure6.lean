/-! the law's model: its rows -/
def gs (σ : gSt) (k : Nat) (r : vRow) : gSt := fun i => if i = k then r else σ i
theorem gs_up {σ : gSt} {k j : Nat} {v : Int32} : gup σ k j v = gs σ k (upd (σ k) j v) := by
  funext i q
  unfold gup gs upd
  by_cases h : i = k
  · subst h
    rw [if_pos rfl]
    by_cases h2 : q = j
    · rw [if_pos ⟨rfl, h2⟩, if_pos h2]
    · rw [if_neg (fun h => h2 h.2), if_neg h2]
  · rw [if_neg (fun g => h g.1), if_neg h]
theorem gs_s {σ : gSt} {k : Nat} {r : vRow} : gs σ k r k = r := if_pos rfl
theorem gs_n {σ : gSt} {k i : Nat} {r : vRow} (h : i ≠ k) : gs σ k r i = σ i := if_neg h
theorem gs_gs {σ : gSt} {k : Nat} {r r' : vRow} : gs (gs σ k r) k r' = gs σ k r' := by
  funext i
  unfold gs
  split <;> rfl
theorem gs_c {σ : gSt} {k k' : Nat} {r r' : vRow} (h : k ≠ k') : gs (gs σ k r) k' r' = gs (gs σ k' r') k r := by
  funext i
  unfold gs
  by_cases h1 : i = k'
  · rw [if_pos h1, if_neg (by omega), if_pos h1]
  · rw [if_neg h1]
    by_cases h2 : i = k
    · rw [if_pos h2, if_pos h2]
    · rw [if_neg h2, if_neg h2, if_neg h1]
theorem gs_id {σ : gSt} {k : Nat} : gs σ k (σ k) = σ := by
  funext i
  unfold gs
  by_cases h : i = k
  · rw [if_pos h, h]
  · rw [if_neg h]
theorem gif {α : Type} {i : Int32} {j : Nat} {x y : α} (hi : i = nI j) (h : j < 92) : (if i < 0 ∨ 92 ≤ i.toNatClampNeg then x else y) = y := by
  subst hi
  exact if_neg (nI_in h (by decide))
theorem gcl {i : Int32} {j : Nat} (hi : i = nI j) (h : j < 92) : i.toNatClampNeg = j := by
  subst hi
  exact nI_clamp (by omega)
theorem m_slotN : ∀ t, t < 2 → ∀ q, q < 8 → (14 : Int32) + 6 * nI t + nI q - 1 = nI (13 + 6 * t + q) := by decide
theorem m_slot {t q : Nat} (ht : t < 2) (hq : q < 8) (σ : gSt) : F_Model_slot (nI t) (nI q) σ = some (nI (13 + 6 * t + q), σ) := by
  unfold F_Model_slot
  rw [m_slotN t ht q hq]
/-- the last place at which somebody is; 0 -/
def pLast (f : Nat → Int32) (x : Int32) : Int32 := if f 6 = x then 6 else if f 5 = x then 5 else if f 4 = x then 4 else if f 3 = x then 3 else if f 2 = x then 2 else if f 1 = x then 1 else 0
theorem m_place_step {t n p : Nat} (ht : t < 2) (σ : gSt) {x a b l3 : Int32} (hp : p < 7) : F_Model_place_B5 a b (n + 1) (nI t) x l3 (nI p) σ = F_Model_place_B5 a b n (nI t) x (if pRow t (σ 29) p = x then nI p else l3) (nI (p + 1)) σ := by
  conv => lhs; unfold F_Model_place_B5
  rw [if_neg (show ¬ (6 : Int32) < nI p by rw [show (6 : Int32) = nI 6 from rfl]; exact nI_nlt (by omega) (by decide)), m_slot ht (by omega), gbi_some, gif rfl (by omega), gcl rfl (by omega), nI_1]
  unfold pRow
  split <;> rfl
theorem m_place {t : Nat} (ht : t < 2) (σ : gSt) (x : Int32) : F_Model_place (nI t) x σ = some (pLast (pRow t (σ 29)) x, σ) := by
  unfold F_Model_place
  rw [show (1 : Int32) = nI 1 from rfl, show (100 : Nat) = 93 + 1 + 1 + 1 + 1 + 1 + 1 + 1 from rfl]
  rw [m_place_step ht σ (by decide), m_place_step ht σ (by decide), m_place_step ht σ (by decide), m_place_step ht σ (by decide), m_place_step ht σ (by decide), m_place_step ht σ (by decide)]
  conv => lhs; unfold F_Model_place_B5
  rw [if_pos (by decide)]
  rfl
/-- six unlike ones -/
def pU (f : Nat → Int32) : Prop := ∀ p q, 1 ≤ p → p ≤ 6 → 1 ≤ q → q ≤ 6 → f p = f q → p = q
theorem p_in {f : Nat → Int32} (h : pU f) (x : Int32) : (∃ q, 1 ≤ q ∧ q ≤ 6 ∧ f q = x ∧ pFirst f x = nI q ∧ pLast f x = nI q) ∨ ((∀ q, 1 ≤ q → q ≤ 6 → f q ≠ x) ∧ pFirst f x = -1 ∧ pLast f x = 0) := by
  have n12 : f 1 ≠ f 2 := fun e => absurd (h 1 2 (by decide) (by decide) (by decide) (by decide) e) (by decide)
  have n13 : f 1 ≠ f 3 := fun e => absurd (h 1 3 (by decide) (by decide) (by decide) (by decide) e) (by decide)
  have n14 : f 1 ≠ f 4 := fun e => absurd (h 1 4 (by decide) (by decide) (by decide) (by decide) e) (by decide)
  have n15 : f 1 ≠ f 5 := fun e => absurd (h 1 5 (by decide) (by decide) (by decide) (by decide) e) (by decide)
  have n16 : f 1 ≠ f 6 := fun e => absurd (h 1 6 (by decide) (by decide) (by decide) (by decide) e) (by decide)
  have n23 : f 2 ≠ f 3 := fun e => absurd (h 2 3 (by decide) (by decide) (by decide) (by decide) e) (by decide)
  have n24 : f 2 ≠ f 4 := fun e => absurd (h 2 4 (by decide) (by decide) (by decide) (by decide) e) (by decide)
  have n25 : f 2 ≠ f 5 := fun e => absurd (h 2 5 (by decide) (by decide) (by decide) (by decide) e) (by decide)
  have n26 : f 2 ≠ f 6 := fun e => absurd (h 2 6 (by decide) (by decide) (by decide) (by decide) e) (by decide)
  have n34 : f 3 ≠ f 4 := fun e => absurd (h 3 4 (by decide) (by decide) (by decide) (by decide) e) (by decide)
  have n35 : f 3 ≠ f 5 := fun e => absurd (h 3 5 (by decide) (by decide) (by decide) (by decide) e) (by decide)
  have n36 : f 3 ≠ f 6 := fun e => absurd (h 3 6 (by decide) (by decide) (by decide) (by decide) e) (by decide)
  have n45 : f 4 ≠ f 5 := fun e => absurd (h 4 5 (by decide) (by decide) (by decide) (by decide) e) (by decide)
  have n46 : f 4 ≠ f 6 := fun e => absurd (h 4 6 (by decide) (by decide) (by decide) (by decide) e) (by decide)
  have n56 : f 5 ≠ f 6 := fun e => absurd (h 5 6 (by decide) (by decide) (by decide) (by decide) e) (by decide)
  by_cases g1 : f 1 = x
  · subst g1
    refine Or.inl ⟨1, by decide, by decide, rfl, ?_, ?_⟩
    · unfold pFirst; rw [if_pos rfl]; rfl
    · unfold pLast; rw [if_neg n16.symm, if_neg n15.symm, if_neg n14.symm, if_neg n13.symm, if_neg n12.symm, if_pos rfl]; rfl
  by_cases g2 : f 2 = x
  · subst g2
    refine Or.inl ⟨2, by decide, by decide, rfl, ?_, ?_⟩
    · unfold pFirst; rw [if_neg n12, if_pos rfl]; rfl
    · unfold pLast; rw [if_neg n26.symm, if_neg n25.symm, if_neg n24.symm, if_neg n23.symm, if_pos rfl]; rfl
  by_cases g3 : f 3 = x
  · subst g3
    refine Or.inl ⟨3, by decide, by decide, rfl, ?_, ?_⟩
    · unfold pFirst; rw [if_neg n13, if_neg n23, if_pos rfl]; rfl
    · unfold pLast; rw [if_neg n36.symm, if_neg n35.symm, if_neg n34.symm, if_pos rfl]; rfl
  by_cases g4 : f 4 = x
  · subst g4
    refine Or.inl ⟨4, by decide, by decide, rfl, ?_, ?_⟩
    · unfold pFirst; rw [if_neg n14, if_neg n24, if_neg n34, if_pos rfl]; rfl
    · unfold pLast; rw [if_neg n46.symm, if_neg n45.symm, if_pos rfl]; rfl
  by_cases g5 : f 5 = x
  · subst g5
    refine Or.inl ⟨5, by decide, by decide, rfl, ?_, ?_⟩
    · unfold pFirst; rw [if_neg n15, if_neg n25, if_neg n35, if_neg n45, if_pos rfl]; rfl
    · unfold pLast; rw [if_neg n56.symm, if_pos rfl]; rfl
  by_cases g6 : f 6 = x
  · subst g6
    refine Or.inl ⟨6, by decide, by decide, rfl, ?_, ?_⟩
    · unfold pFirst; rw [if_neg n16, if_neg n26, if_neg n36, if_neg n46, if_neg n56, if_pos rfl]; rfl
    · unfold pLast; rw [if_pos rfl]; rfl
  refine Or.inr ⟨fun q a b => six (P := fun q => f q ≠ x) g1 g2 g3 g4 g5 g6 q a b, ?_, ?_⟩
  · unfold pFirst; rw [if_neg g1, if_neg g2, if_neg g3, if_neg g4, if_neg g5, if_neg g6]
  · unfold pLast; rw [if_neg g6, if_neg g5, if_neg g4, if_neg g3, if_neg g2, if_neg g1]
/-! the askings of both: teams, places, shirts -/
theorem i32_in {p a b : Int32} {n m : Nat} (ha : a.toInt = n) (hb : b.toInt = m) (h1 : ¬ p < a) (h2 : p ≤ b) : ∃ j, n ≤ j ∧ j ≤ m ∧ p = nI j := by
  have h0 : ¬ p < 0 := by
    rw [Int32.lt_iff_toInt_lt] at h1 ⊢
    rw [ha] at h1
    rw [show (0 : Int32).toInt = 0 by decide]
    omega
  obtain ⟨j, h3, rfl⟩ := nI_of2 hb h0 h2
  refine ⟨j, ?_, h3, rfl⟩
  rw [Int32.lt_iff_toInt_lt, ha] at h1
  have hj : j < 2 ^ 31 := by
    have := Int32.toInt_lt b
    omega
  rw [nI_toInt hj] at h1
  omega
theorem team_or (p : Int32) : (∃ t, t < 2 ∧ p = nI t) ∨ ((∀ σ, F_Game_checkTeam p σ = some ((1 : Int32), (0 : Int32), σ)) ∧ ∀ σ, F_Model_isTeam p σ = some ((0 : Int32), σ)) := by
  by_cases h1 : p < 0
  · refine Or.inr ⟨fun σ => ?_, fun σ => ?_⟩
    · unfold F_Game_checkTeam; rw [if_pos h1]; rfl
    · unfold F_Model_isTeam F_Model_isIn; rw [if_pos h1]; rfl
  by_cases h2 : p ≤ 1
  · obtain ⟨j, _, h3, rfl⟩ := i32_in (n := 0) (m := 1) (by decide) (by decide) h1 h2
    exact Or.inl ⟨j, by omega, rfl⟩
  · refine Or.inr ⟨fun σ => ?_, fun σ => ?_⟩
    · unfold F_Game_checkTeam; rw [if_neg h1, if_neg h2]; rfl
    · unfold F_Model_isTeam F_Model_isIn; rw [if_neg h1, if_pos (Int32.not_le.mp h2)]; rfl
theorem team_c {t : Nat} (ht : t < 2) (σ : gSt) : F_Game_checkTeam (nI t) σ = some ((0 : Int32), (0 : Int32), σ) := by
  rcases two ht with rfl | rfl <;> rfl
theorem team_m {t : Nat} (ht : t < 2) (σ : gSt) : F_Model_isTeam (nI t) σ = some ((1 : Int32), σ) := by
  rcases two ht with rfl | rfl <;> rfl
theorem shirt_or (p : Int32) : (∃ s, 1 ≤ s ∧ s ≤ 20 ∧ p = nI s) ∨ ((∀ σ, F_Game_checkShirt p σ = some ((1 : Int32), (0 : Int32), σ)) ∧ ∀ σ, F_Model_isShirt p σ = some ((0 : Int32), σ)) := by
  by_cases h1 : p < 1
  · refine Or.inr ⟨fun σ => ?_, fun σ => ?_⟩
    · unfold F_Game_checkShirt; rw [if_pos h1]; rfl
    · unfold F_Model_isShirt F_Model_isIn; rw [if_pos h1]; rfl
  by_cases h2 : p ≤ 20
  · exact Or.inl (i32_in (n := 1) (m := 20) (by decide) (by decide) h1 h2)
  · refine Or.inr ⟨fun σ => ?_, fun σ => ?_⟩
    · unfold F_Game_checkShirt; rw [if_neg h1, if_neg h2]; rfl
    · unfold F_Model_isShirt F_Model_isIn; rw [if_neg h1, if_pos (Int32.not_le.mp h2)]; rfl
theorem isIn_y {a b p : Nat} (h : a ≤ p ∧ p ≤ b) (hb : b < 2 ^ 31) (σ : gSt) : F_Model_isIn (nI p) (nI a) (nI b) σ = some ((1 : Int32), σ) := by
  unfold F_Model_isIn
  rw [if_neg (nI_nlt h.1 (by omega)), if_neg (nI_nlt h.2 hb)]
theorem shirt_c {s : Nat} (h : 1 ≤ s ∧ s ≤ 20) (σ : gSt) : F_Game_checkShirt (nI s) σ = some ((0 : Int32), (0 : Int32), σ) := by
  unfold F_Game_checkShirt
  rw [if_neg (show ¬ nI s < 1 from nI_nlt (a := s) (b := 1) h.1 (by omega)), if_pos (show nI s ≤ 20 from nI_le (a := s) (b := 20) h.2 (by decide))]
theorem shirt_m {s : Nat} (h : 1 ≤ s ∧ s ≤ 20) (σ : gSt) : F_Model_isShirt (nI s) σ = some ((1 : Int32), σ) := by
  unfold F_Model_isShirt
  rw [show (1 : Int32) = nI 1 from rfl, show (20 : Int32) = nI 20 from rfl, isIn_y h (by decide)]
  rfl
theorem place_or (p : Int32) : (∃ s, 1 ≤ s ∧ s ≤ 6 ∧ p = nI s) ∨ ((∀ σ, F_Game_checkPlace p σ = some ((1 : Int32), (0 : Int32), σ)) ∧ ∀ σ, F_Model_isIn p 1 6 σ = some ((0 : Int32), σ)) := by
  by_cases h1 : p < 1
  · refine Or.inr ⟨fun σ => ?_, fun σ => ?_⟩
    · unfold F_Game_checkPlace; rw [if_pos h1]; rfl
    · unfold F_Model_isIn; rw [if_pos h1]
  by_cases h2 : p ≤ 6
  · exact Or.inl (i32_in (n := 1) (m := 6) (by decide) (by decide) h1 h2)
  · refine Or.inr ⟨fun σ => ?_, fun σ => ?_⟩
    · unfold F_Game_checkPlace; rw [if_neg h1, if_neg h2]; rfl
    · unfold F_Model_isIn; rw [if_neg h1, if_pos (Int32.not_le.mp h2)]
theorem place_c {s : Nat} (h : 1 ≤ s ∧ s ≤ 6) (σ : gSt) : F_Game_checkPlace (nI s) σ = some ((0 : Int32), (0 : Int32), σ) := by
  unfold F_Game_checkPlace
  rw [if_neg (show ¬ nI s < 1 from nI_nlt (a := s) (b := 1) h.1 (by omega)), if_pos (show nI s ≤ 6 from nI_le (a := s) (b := 6) h.2 (by decide))]
/-! rotations, points, the ends of sets and rallies in the model's row -/
theorem gin {j : Nat} (h : j < 92) : ¬ (nI j < 0 ∨ 92 ≤ j) := fun q => q.elim (nI_pos (by omega)) (by omega)
theorem m_rot_step {t n p : Nat} (ht : t < 2) (σ : gSt) {x a : Int32} (hp : p < 6) : F_Model_rotates_B13 a (n + 1) (nI t) x (nI p) σ = F_Model_rotates_B13 a n (nI t) x (nI (p + 1)) (gs σ 29 (upd (σ 29) (13 + 6 * t + p) (σ 29 (13 + 6 * t + (p + 1))))) := by
  conv => lhs; unfold F_Model_rotates_B13
  rw [if_neg (show ¬ (6 : Int32) ≤ nI p by rw [show (6 : Int32) = nI 6 from rfl]; exact nI_ge (by omega) (by decide)), m_slot ht (by omega), gbi_some, nI_1, m_slot ht (by omega), gbi_some, gif rfl (by omega), gif rfl (by omega), gcl rfl (by omega), gcl rfl (by omega), gl_eq, gs_up]
theorem m_rot_end {t n : Nat} (ht : t < 2) (σ : gSt) {x a : Int32} : F_Model_rotates_B13 a (n + 1) (nI t) x (nI 6) σ = some (gs σ 29 (if σ 29 (28 + t) ≠ -1 ∧ σ 29 (17 + 6 * t) = σ 29 (26 + t) then upd (upd (upd (upd (σ 29) (19 + 6 * t) x) (36 + t) (σ 29 (36 + t) + 1)) (17 + 6 * t) (σ 29 (28 + t))) (28 + t) (-1) else upd (upd (σ 29) (19 + 6 * t) x) (36 + t) (σ 29 (36 + t) + 1))) := by
  have e36 : (36 : Int32) + nI t = nI (36 + t) := nI_add 36 t
  have e28 : (28 : Int32) + nI t = nI (28 + t) := nI_add 28 t
  have e26 : (26 : Int32) + nI t = nI (26 + t) := nI_add 26 t
  conv => lhs; unfold F_Model_rotates_B13
  rw [if_pos (show (6 : Int32) ≤ nI 6 by decide), show (6 : Int32) = nI 6 from rfl, show (4 : Int32) = nI 4 from rfl, e36, e28, e26]
  have s6 : ∀ σ : gSt, F_Model_slot (nI t) (nI 6) σ = some (nI (19 + 6 * t), σ) := fun σ => by rw [m_slot ht (by decide), show 13 + 6 * t + 6 = 19 + 6 * t by omega]
  have s4 : ∀ σ : gSt, F_Model_slot (nI t) (nI 4) σ = some (nI (17 + 6 * t), σ) := fun σ => by rw [m_slot ht (by decide), show 13 + 6 * t + 4 = 17 + 6 * t by omega]
  simp only [s6, s4, gbi_some, gl_eq]
  have c6 : (nI (19 + 6 * t)).toNatClampNeg = 19 + 6 * t := nI_clamp (by omega)
  have c4 : (nI (17 + 6 * t)).toNatClampNeg = 17 + 6 * t := nI_clamp (by omega)
  have c36 : (nI (36 + t)).toNatClampNeg = 36 + t := nI_clamp (by omega)
  have c28 : (nI (28 + t)).toNatClampNeg = 28 + t := nI_clamp (by omega)
  have c26 : (nI (26 + t)).toNatClampNeg = 26 + t := nI_clamp (by omega)
  have o6 : ¬ (nI (19 + 6 * t) < 0 ∨ 92 ≤ 19 + 6 * t) := gin (by omega)
  have o4 : ¬ (nI (17 + 6 * t) < 0 ∨ 92 ≤ 17 + 6 * t) := gin (by omega)
  have o36 : ¬ (nI (36 + t) < 0 ∨ 92 ≤ 36 + t) := gin (by omega)
  have o28 : ¬ (nI (28 + t) < 0 ∨ 92 ≤ 28 + t) := gin (by omega)
  have o26 : ¬ (nI (26 + t) < 0 ∨ 92 ≤ 26 + t) := gin (by omega)
  simp only [c6, c4, c36, c28, c26, if_neg o6, if_neg o4, if_neg o36, if_neg o28, if_neg o26, gs_up, gs_s, gs_gs]
  have u1 : ∀ (z : vRow) (v w : Int32), upd (upd z (19 + 6 * t) v) (36 + t) w (28 + t) = z (28 + t) := fun z v w => by unfold upd; rw [if_neg (by omega), if_neg (by omega)]
  have u2 : ∀ (z : vRow) (v w : Int32), upd (upd z (19 + 6 * t) v) (36 + t) w (17 + 6 * t) = z (17 + 6 * t) := fun z v w => by unfold upd; rw [if_neg (by omega), if_neg (by omega)]
  have u3 : ∀ (z : vRow) (v w : Int32), upd (upd z (19 + 6 * t) v) (36 + t) w (26 + t) = z (26 + t) := fun z v w => by unfold upd; rw [if_neg (by omega), if_neg (by omega)]
  have u4 : ∀ (z : vRow) (v : Int32), upd z (19 + 6 * t) v (36 + t) = z (36 + t) := fun z v => by unfold upd; rw [if_neg (by omega)]
  simp only [u1, u2, u3, u4]
  by_cases g : σ 29 (28 + t) = -1
  · rw [if_pos g, if_neg (fun h => h.1 g)]
  · rw [if_neg g]
    by_cases g2 : σ 29 (17 + 6 * t) = σ 29 (26 + t)
    · rw [if_pos g2, if_pos ⟨g, g2⟩]
    · rw [if_neg g2, if_neg (fun h => g2 h.2)]
theorem m_rotates {t : Nat} (ht : t < 2) (σ : gSt) : F_Model_rotates (nI t) σ = some (gs σ 29 (vRot t (σ 29))) := by
  unfold F_Model_rotates
  rw [show (1 : Int32) = nI 1 from rfl, m_slot ht (by decide), gbi_some, gif rfl (by omega), gcl rfl (by omega), gl_eq, show (100 : Nat) = 94 + 1 + 1 + 1 + 1 + 1 + 1 from rfl]
  obtain ⟨c5, h5, hc⟩ : ∃ c5 : vRow, F_Model_rotates_B13 (nI t) (94 + 1 + 1 + 1 + 1 + 1 + 1) (nI t) (σ 29 (13 + 6 * t + 1)) (nI 1) σ = F_Model_rotates_B13 (nI t) (94 + 1) (nI t) (σ 29 (13 + 6 * t + 1)) (nI 6) (gs σ 29 c5) ∧ ∀ j, c5 j = if 14 + 6 * t ≤ j ∧ j < 19 + 6 * t then σ 29 (j + 1) else σ 29 j := by
    rw [m_rot_step ht _ (by decide), m_rot_step ht _ (by decide), m_rot_step ht _ (by decide), m_rot_step ht _ (by decide), m_rot_step ht _ (by decide)]
    simp only [gs_s, gs_gs]
    refine ⟨_, rfl, fun j => ?_⟩
    rcases two ht with rfl | rfl
    · simp only [upd]
      grind
    · simp only [upd]
      grind
  rw [h5, m_rot_end ht]
  simp only [gs_s, gs_gs]
  have e28 : c5 (28 + t) = σ 29 (28 + t) := by rw [hc, if_neg (by omega)]
  have e26 : c5 (26 + t) = σ 29 (26 + t) := by rw [hc, if_neg (by omega)]
  have e36 : c5 (36 + t) = σ 29 (36 + t) := by rw [hc, if_neg (by omega)]
  have e17 : c5 (17 + 6 * t) = σ 29 (18 + 6 * t) := by rw [hc, if_pos (by omega), show 17 + 6 * t + 1 = 18 + 6 * t by omega]
  rw [e28, e26, e36, e17, show 13 + 6 * t + 1 = 14 + 6 * t by omega]
  generalize σ 29 = z at *
  have e : upd (upd c5 (19 + 6 * t) (z (14 + 6 * t))) (36 + t) (z (36 + t) + 1) = vRotS t z := by
    funext j
    unfold upd vRotS
    rw [hc j]
    by_cases h1 : j = 36 + t
    · rw [if_pos h1, if_neg (by omega), if_neg (by omega), if_pos h1, h1]
    · rw [if_neg h1]
      by_cases h2 : j = 19 + 6 * t
      · rw [if_pos h2, if_neg (by omega), if_pos h2]
      · rw [if_neg h2]
        by_cases h3 : 14 + 6 * t ≤ j ∧ j < 19 + 6 * t
        · rw [if_pos h3, if_pos h3]
        · rw [if_neg h3, if_neg h3, if_neg h2, if_neg h1]
  rw [e]
  rfl
/-- a loop that writes one number into a stretch -/
theorem m_put {a b : Nat} {v : Int32} (σ : gSt) (ha : a < 92) {i : Int32} (hi : i = nI a) {α : Type} {K : gSt → Option α} : (if i < 0 ∨ 92 ≤ i.toNatClampNeg then none else gl (gup σ 29 i.toNatClampNeg v) K) = K (gs σ 29 (upd (σ 29) a v)) := by
  rw [gif hi ha, gcl hi ha, gl_eq, gs_up]
theorem m_clr152 {a : Int32} : ∀ (m n p : Nat) (σ : gSt), p + m = 2 → m < n → F_Model_scores_B152 a n (nI p) σ = some (gs σ 29 (fun j => if (26 + p ≤ j ∧ j < 28) ∨ (28 + p ≤ j ∧ j < 30) then -1 else σ 29 j)) := by
  intro m
  induction m with
  | zero =>
    intro n p σ h1 h2
    obtain ⟨n, rfl⟩ : ∃ q, n = q + 1 := ⟨n - 1, by omega⟩
    unfold F_Model_scores_B152
    rw [if_pos (by rw [show (2 : Int32) = nI 2 from rfl]; exact nI_le (by omega) (by omega))]
    congr 1
    rw [show (fun j => if (26 + p ≤ j ∧ j < 28) ∨ (28 + p ≤ j ∧ j < 30) then -1 else σ 29 j) = σ 29 from funext fun j => if_neg (by omega), gs_id]
  | succ m ih =>
    intro n p σ h1 h2
    obtain ⟨n, rfl⟩ : ∃ q, n = q + 1 := ⟨n - 1, by omega⟩
    unfold F_Model_scores_B152
    rw [if_neg (by rw [show (2 : Int32) = nI 2 from rfl]; exact nI_ge (by omega) (by decide)), gif (show (26 : Int32) + nI p = nI (26 + p) from nI_add 26 p) (by omega), gcl (show (26 : Int32) + nI p = nI (26 + p) from nI_add 26 p) (by omega), gl_eq, gif (show (28 : Int32) + nI p = nI (28 + p) from nI_add 28 p) (by omega), gcl (show (28 : Int32) + nI p = nI (28 + p) from nI_add 28 p) (by omega), gl_eq, nI_1, ih n (p + 1) _ (by omega) (by omega), gs_up, gs_up]
    simp only [gs_s, gs_gs]
    congr 2
    funext j
    unfold upd
    grind
theorem m_clr128 {a : Int32} : ∀ (m n p : Nat) (σ : gSt), p + m = 12 → m < n → F_Model_scores_B128 a n (nI p) σ = some (gs σ 29 (fun j => if 14 + p ≤ j ∧ j < 30 then -1 else σ 29 j)) := by
  intro m
  induction m with
  | zero =>
    intro n p σ h1 h2
    obtain ⟨n, rfl⟩ : ∃ q, n = q + 1 := ⟨n - 1, by omega⟩
    unfold F_Model_scores_B128
    rw [if_pos (by rw [show (12 : Int32) = nI 12 from rfl]; exact nI_le (by omega) (by omega)), show (0 : Int32) = nI 0 from rfl, m_clr152 2 100 0 σ (by decide) (by decide)]
    congr 2
    funext j
    grind
  | succ m ih =>
    intro n p σ h1 h2
    obtain ⟨n, rfl⟩ : ∃ q, n = q + 1 := ⟨n - 1, by omega⟩
    unfold F_Model_scores_B128
    rw [if_neg (by rw [show (12 : Int32) = nI 12 from rfl]; exact nI_ge (by omega) (by decide)), gif (show (14 : Int32) + nI p = nI (14 + p) from nI_add 14 p) (by omega), gcl (show (14 : Int32) + nI p = nI (14 + p) from nI_add 14 p) (by omega), gl_eq, nI_1, ih n (p + 1) _ (by omega) (by omega), gs_up]
    simp only [gs_s, gs_gs]
    congr 2
    funext j
    unfold upd
    grind
/-- the set's end in the model's row -/
def vEnd (w : Nat) (z : vRow) : vRow := fun j => if 14 ≤ j ∧ j < 30 then -1 else if j = 0 then 0 else if j = 12 + w then z (12 + w) + 1 else z j
def vFin (w : Nat) (z : vRow) : vRow := if z (10 + w) < (if z 12 + z 13 = 4 then 15 else 25) then z else if z (10 + w) < z (11 - w) + 2 then z else vEnd w z
theorem m_endrow {w : Nat} (hw : w < 2) (z : vRow) : (fun j => if 14 + 0 ≤ j ∧ j < 30 then (-1 : Int32) else upd (upd z (12 + w) (z (12 + w) + 1)) 0 0 j) = vEnd w z := by
  funext j
  unfold upd vEnd
  by_cases h1 : 14 ≤ j ∧ j < 30
  · rw [if_pos (show 14 + 0 ≤ j ∧ j < 30 by omega)]
  · rw [if_neg (show ¬ (14 + 0 ≤ j ∧ j < 30) by omega)]
theorem m_end {w : Nat} (hw : w < 2) (σ : gSt) {a : Int32} : F_Model_scores_B128 a 100 (nI 0) (gs σ 29 (upd (upd (σ 29) (12 + w) (σ 29 (12 + w) + 1)) 0 0)) = some (gs σ 29 (vEnd w (σ 29))) := by
  have h := m_clr128 (a := a) 12 100 0 (gs σ 29 (upd (upd (σ 29) (12 + w) (σ 29 (12 + w) + 1)) 0 0)) rfl (by decide)
  rw [gs_s, gs_gs, m_endrow hw] at h
  exact h
theorem m_fin69 {w : Nat} (hw : w < 2) (σ : gSt) {a s0 : Int32} : F_Model_scores_B69 a (nI w) s0 σ = some (gs σ 29 (if σ 29 (10 + w) < s0 then σ 29 else if σ 29 (10 + w) < σ 29 (11 - w) + 2 then σ 29 else vEnd w (σ 29))) := by
  have e10 : (10 : Int32) + nI w = nI (10 + w) := nI_add 10 w
  have e12 : (12 : Int32) + nI w = nI (12 + w) := nI_add 12 w
  have e11 : (11 : Int32) - nI w = nI (11 - w) := by rcases two hw with rfl | rfl <;> decide
  have hE := m_end hw σ (a := a)
  unfold F_Model_scores_B69
  rw [gif e10 (by omega), gif e10 (by omega), gif e11 (by omega), gif e12 (by omega), gif e12 (by omega), gcl e10 (by omega), gcl e11 (by omega), gcl e12 (by omega), gl_eq, gl_eq, gs_up, gs_up, gs_s, gs_gs]
  by_cases g1 : σ 29 (10 + w) < s0
  · rw [if_pos g1, if_pos g1, gs_id]
  rw [if_neg g1, if_neg g1]
  by_cases g2 : σ 29 (10 + w) < σ 29 (11 - w) + 2
  · rw [if_pos g2, if_pos g2, gs_id]
  rw [if_neg g2, if_neg g2]
  exact hE
theorem m_fin {w : Nat} (hw : w < 2) (σ : gSt) {a : Int32} : F_Model_scores_B43 a (nI w) σ = some (gs σ 29 (vFin w (σ 29))) := by
  unfold F_Model_scores_B43 vFin
  by_cases g : σ 29 12 + σ 29 13 = 4
  · rw [if_pos g, m_fin69 hw, if_pos g]
  · rw [if_neg g, m_fin69 hw, if_neg g]
theorem m_scores {w : Nat} (hw : w < 2) (σ : gSt) : F_Model_scores (nI w) σ = some (gs σ 29 (vFin w (vGive w (σ 29)))) := by
  have e10 : (10 : Int32) + nI w = nI (10 + w) := nI_add 10 w
  unfold F_Model_scores
  rw [gif e10 (by omega), gif e10 (by omega), gcl e10 (by omega)]
  simp only [gl_eq, gs_up, gs_s, gs_gs]
  have e2 : upd (σ 29) (10 + w) (σ 29 (10 + w) + 1) 2 = σ 29 2 := by unfold upd; rw [if_neg (by omega)]
  rw [e2]
  unfold vGive
  by_cases g : σ 29 2 = nI w
  · rw [if_pos g, if_pos g, m_fin hw, gs_s, gs_gs]
  · rw [if_neg g, if_neg g, m_rotates hw, gbv_some, m_fin hw]
    simp only [gs_s, gs_gs]
