/-! service, exchange, substitution at any court -/
def KJ (k : Nat) (J : Nat → Prop) (σ σ' : gSt) : Prop := (∀ k', (k' < k ∨ k + 7 ≤ k') → σ' k' = σ k') ∧ σ' (k + 3) = σ (k + 3) ∧ σ' (k + 6) = σ (k + 6) ∧ ∀ j, J j → σ' (k + 1) j = σ (k + 1) j ∧ σ' (k + 4) j = σ (k + 4) j
def vServe (s : Nat) (x : Int32) (z : vRow) : vRow := if z (14 + 6 * s) = x then z else if z 9 = -1 then upd z 9 (z (10 + s)) else z
theorem vServe_oth {s : Nat} {x : Int32} {z : vRow} {j : Nat} (h : j ≠ 9) : vServe s x z j = z j := by
  unfold vServe upd
  split
  · rfl
  · split
    · exact if_neg h
    · rfl
theorem p_takeService {k s : Nat} (hk : gIsCourt k) (hs : s < 2) {σ : gSt} {z : vRow} {x : Int32} (h : CS k σ z) (h2 : z 2 = nI s) : ∃ σ', F_Court_takeService k x σ = some ((if z (14 + 6 * s) = x then 1 else 0), σ') ∧ CS k σ' (vServe s x z) ∧ KJ k (fun j => j = 5 ∨ j = 7 ∨ j = 8) σ σ' ∧ σ' (k + 1) 9 = 0 ∧ σ' (k + 4) 9 = 0 := by
  obtain ⟨c2, c9, cs⟩ := h
  have hsd := gSideOf hk hs
  have as := (cs s hs).2.2.2.2 1 (by decide) (by decide)
  have a4 := (cs s hs).2.2.1
  have last : ∀ (τ : gSt) (r : Int32), (r = 0 ∨ r = 1) → F_Court_takeService_B44 k x r τ = some (r, gup (gup τ (k + 1) 9 0) (k + 4) 9 0) := fun τ r hr => by
    unfold F_Court_takeService_B44
    simp only [gl_eq]
    rw [if_pos hr]
  have fin : ∀ (τ : gSt) (z' : vRow), (∀ k', k' ≠ k → τ k' = σ k') → τ k 2 = z 2 → τ k 3 = z' 9 → (∀ j, j ≠ 9 → z' j = z j) → CS k (gup (gup τ (k + 1) 9 0) (k + 4) 9 0) z' ∧ KJ k (fun j => j = 5 ∨ j = 7 ∨ j = 8) σ (gup (gup τ (k + 1) 9 0) (k + 4) 9 0) ∧ (gup (gup τ (k + 1) 9 0) (k + 4) 9 0) (k + 1) 9 = 0 ∧ (gup (gup τ (k + 1) 9 0) (k + 4) 9 0) (k + 4) 9 = 0 := by
    intro τ z' q1 q2 q3 q4
    refine ⟨⟨?_, ?_, fun t ht => ?_⟩, ⟨fun k' a => ?_, ?_, ?_, fun j a => ⟨?_, ?_⟩⟩, ?_, ?_⟩
    · rw [gup_k (by omega), gup_k (by omega), q2, q4 2 (by decide)]
    · rw [gup_k (by omega), gup_k (by omega), q3]
    · obtain ⟨b2, b3, b4, b6, bs⟩ := cs t ht
      have ef : ∀ j, j ≠ 9 → (gup (gup τ (k + 1) 9 0) (k + 4) 9 0) (k + 1 + 3 * t) j = σ (k + 1 + 3 * t) j := fun j hj => by
        rw [gup_n (by omega), gup_n (by omega), q1 _ (by omega)]
      refine ⟨?_, ?_, ?_, ?_, fun p b1 b5 => ?_⟩
      · rw [ef 2 (by decide), b2, q4 _ (by omega)]
      · rw [ef 3 (by decide), b3, q4 _ (by omega)]
      · rw [ef 4 (by decide), b4, q4 _ (by omega)]
      · rw [ef 6 (by decide), b6, q4 _ (by omega)]
      · rw [gup_k (by omega), gup_k (by omega), q1 _ (by omega), bs p b1 b5, q4 _ (by omega)]
    · rw [gup_oth (by omega), gup_oth (by omega), q1 _ (by omega)]
    · rw [gup_oth (by omega), gup_oth (by omega), q1 _ (by omega)]
    · rw [gup_oth (by omega), gup_oth (by omega), q1 _ (by omega)]
    · rw [gup_n (by omega), gup_n (by omega), q1 _ (by omega)]
    · rw [gup_n (by omega), gup_n (by omega), q1 _ (by omega)]
    · rw [gup_n (by omega), gup_s]
    · rw [gup_s]
  unfold F_Court_takeService
  rw [c2, h2, p_sideOf hs, gbr_some, show (1 : Int32) = nI 1 from rfl, p_shirtIn hsd σ (by decide), gbi_some, as, show 13 + 6 * s + 1 = 14 + 6 * s by omega, show nI 1 = (1 : Int32) from rfl]
  by_cases g : z (14 + 6 * s) = x
  · rw [if_pos g, if_pos g]
    unfold F_Court_takeService_B23
    rw [if_neg (by decide), last _ _ (Or.inr rfl)]
    have eV : vServe s x z = z := by unfold vServe; rw [if_pos g]
    rw [eV]
    exact ⟨_, rfl, fin σ z (fun _ _ => rfl) c2 c9 (fun _ _ => rfl)⟩
  · rw [if_neg g, if_neg g]
    unfold F_Court_takeService_B23
    rw [if_pos rfl, c9]
    by_cases g2 : z 9 = -1
    · rw [if_pos g2]
      simp only [gl_eq]
      rw [last _ _ (Or.inl rfl)]
      have eV : vServe s x z = upd z 9 (z (10 + s)) := by unfold vServe; rw [if_neg g, if_pos g2]
      refine ⟨_, rfl, fin _ _ (fun k' a => gup_oth a) ?_ ?_ (fun j hj => vServe_oth hj)⟩
      · rw [gup_n (by omega), c2]
      · rw [gup_s, a4, eV]; unfold upd; rw [if_pos rfl]
    · rw [if_neg g2, last _ _ (Or.inl rfl)]
      have eV : vServe s x z = z := by unfold vServe; rw [if_neg g, if_neg g2]
      rw [eV]
      exact ⟨_, rfl, fin σ z (fun _ _ => rfl) c2 c9 (fun _ _ => rfl)⟩
/-- a team's places as a row of six -/
def pRow (t : Nat) (z : vRow) : Nat → Int32 := fun p => z (13 + 6 * t + p)
theorem pFirst_cong {f g : Nat → Int32} (h : ∀ p, 1 ≤ p → p ≤ 6 → f p = g p) (x : Int32) : pFirst f x = pFirst g x := by
  unfold pFirst
  rw [h 1 (by decide) (by decide), h 2 (by decide) (by decide), h 3 (by decide) (by decide), h 4 (by decide) (by decide), h 5 (by decide) (by decide), h 6 (by decide) (by decide)]
theorem pFirst_SR {k t : Nat} {σ : gSt} {z : vRow} (h : SR k t σ z) (x : Int32) : pFirst (σ (k + 1)) x = pFirst (pRow t z) x := pFirst_cong (fun p a b => h.2.2.2.2 p a b) x
def vSwap (t : Nat) (x : Int32) (z : vRow) : vRow := if z (28 + t) = -1 then upd (upd z (13 + 6 * t + (pFirst (pRow t z) x).toNatClampNeg) (z (26 + t))) (28 + t) x else upd (upd z (13 + 6 * t + (pFirst (pRow t z) (z (26 + t))).toNatClampNeg) x) (28 + t) (-1)
def vSub (t : Nat) (g c : Int32) (z : vRow) : vRow := upd z (13 + 6 * t + (pFirst (pRow t z) g).toNatClampNeg) c
/-- one place and the one who went are told anew -/
theorem SR_put {k t q : Nat} {σ σ' : gSt} {z : vRow} {x w : Int32} (ht : t < 2) (h : SR k t σ z) (hq : 1 ≤ q ∧ q ≤ 6) (e1 : ∀ j, j ≠ 3 → j ≠ 9 → j ≠ 7 → σ' k j = σ k j) (e3 : σ' k 3 = w) (e2 : σ' (k + 1) = upd (σ (k + 1)) q x) : SR k t σ' (upd (upd z (13 + 6 * t + q) x) (28 + t) w) := by
  obtain ⟨h2, h3, h4, h6, hs⟩ := h
  refine ⟨?_, ?_, ?_, ?_, fun p a b => ?_⟩
  · rw [e1 2 (by decide) (by decide) (by decide), h2]; unfold upd; rw [if_neg (by omega), if_neg (by omega)]
  · rw [e3]; unfold upd; rw [if_pos rfl]
  · rw [e1 4 (by decide) (by decide) (by decide), h4]; unfold upd; rw [if_neg (by omega), if_neg (by omega)]
  · rw [e1 6 (by decide) (by decide) (by decide), h6]; unfold upd; rw [if_neg (by omega), if_neg (by omega)]
  · rw [e2]
    unfold upd
    rw [if_neg (show ¬ 13 + 6 * t + p = 28 + t by omega)]
    by_cases g : p = q
    · rw [if_pos g, if_pos (by omega)]
    · rw [if_neg g, if_neg (by omega), hs p a b]
theorem upd_self {z : vRow} {j : Nat} : upd z j (z j) = z := by
  funext i
  unfold upd
  split
  · subst_vars; rfl
  · rfl
theorem p_swapLibero {k t q : Nat} (hk : gIsSide k) (ht : t < 2) {σ : gSt} {z : vRow} {x : Int32} (h : SR k t σ z) (hq : 1 ≤ q ∧ q ≤ 6) (hp : pFirst (pRow t z) (if z (28 + t) = -1 then x else z (26 + t)) = nI q) : ∃ σ', F_Side_swapLibero k x σ = some σ' ∧ SR k t σ' (vSwap t x z) ∧ (∀ k', k' ≠ k → k' ≠ k + 1 → σ' k' = σ k') ∧ (∀ j, j ≠ 3 → j ≠ 9 → σ' k j = σ k j) ∧ σ' k 9 = 1 := by
  have h3 := h.2.1
  have h2 := h.1
  unfold F_Side_swapLibero F_Side_isLiberoIn
  rw [h3]
  by_cases g : z (28 + t) = -1
  · rw [if_pos g] at hp
    rw [if_pos g, gbi_some, if_pos rfl, p_placeOf hk, gbi_some, pFirst_SR h, hp, h2, p_put hk _ (by omega)]
    simp only [gbv_some, gl_eq]
    have eV : vSwap t x z = upd (upd z (13 + 6 * t + q) (z (26 + t))) (28 + t) x := by unfold vSwap; rw [if_pos g, hp, nI_clamp (by omega)]
    rw [eV]
    refine ⟨_, rfl, SR_put ht h hq (fun j a b c => ?_) ?_ ?_, fun k' a b => ?_, fun j a b => ?_, ?_⟩
    · rw [gup_n (by omega), gup_n (by omega), gup_k (by omega)]
    · rw [gup_n (by omega), gup_s]
    · rw [gup_oth (by omega), gup_oth (by omega), gup_row]
    · rw [gup_oth a, gup_oth a, gup_oth b]
    · rw [gup_n (by omega), gup_n (by omega), gup_k (by omega)]
    · rw [gup_s]
  · rw [if_neg g] at hp
    rw [if_neg g, gbi_some, if_neg (by decide), h2, p_placeOf hk, gbi_some, pFirst_SR h, hp, p_put hk _ (by omega)]
    simp only [gbv_some, gl_eq]
    have eV : vSwap t x z = upd (upd z (13 + 6 * t + q) x) (28 + t) (-1) := by unfold vSwap; rw [if_neg g, hp, nI_clamp (by omega)]
    rw [eV]
    refine ⟨_, rfl, SR_put ht h hq (fun j a b c => ?_) ?_ ?_, fun k' a b => ?_, fun j a b => ?_, ?_⟩
    · rw [gup_n (by omega), gup_n (by omega), gup_k (by omega)]
    · rw [gup_n (by omega), gup_s]
    · rw [gup_oth (by omega), gup_oth (by omega), gup_row]
    · rw [gup_oth a, gup_oth a, gup_oth b]
    · rw [gup_n (by omega), gup_n (by omega), gup_k (by omega)]
    · rw [gup_s]
theorem p_swapByPair {k t q a b : Nat} (hk : gIsSide k) (ht : t < 2) {σ : gSt} {z : vRow} (h : SR k t σ z) (ha : 1 ≤ a ∧ a ≤ 20) (hb : 1 ≤ b ∧ b ≤ 20) (hq : 1 ≤ q ∧ q ≤ 6) (hp : pFirst (pRow t z) (nI a) = nI q) : ∃ σ', F_Side_swapByPair k (nI a) (nI b) σ = some σ' ∧ SR k t σ' (vSub t (nI a) (nI b) z) ∧ (∀ k', k' ≠ k → k' ≠ k + 1 → k' ≠ k + 2 → σ' k' = σ k') ∧ (∀ j, j ≠ 7 → σ' k j = σ k j) ∧ σ' k 7 = σ k 7 + 1 ∧ σ' (k + 2) = upd (upd (σ (k + 2)) a (-1)) b (if σ (k + 2) a = nI b then -1 else nI a) := by
  have hl := (gSd hk).2.2.2.2.2.2.2
  have main : ∀ s0 s1 : Int32, (s0 = if σ (k + 2) a = nI b then -1 else nI a) → s1 = nI b → ∃ σ', F_Side_swapByPair_B41 k (nI a) (nI b) (nI a) (nI b) s0 s1 (gup σ (k + 2) a (-1)) = some σ' ∧ SR k t σ' (vSub t (nI a) (nI b) z) ∧ (∀ k', k' ≠ k → k' ≠ k + 1 → k' ≠ k + 2 → σ' k' = σ k') ∧ (∀ j, j ≠ 7 → σ' k j = σ k j) ∧ σ' k 7 = σ k 7 + 1 ∧ σ' (k + 2) = upd (upd (σ (k + 2)) a (-1)) b (if σ (k + 2) a = nI b then -1 else nI a) := by
    intro s0 s1 hs0 hs1
    subst hs1
    unfold F_Side_swapByPair_B41
    rw [p_pN _ hl (by omega) (by decide), gbv_some, p_placeOf hk, gbi_some]
    have er : (gup (gup σ (k + 2) a (-1)) (k + 2) b s0) (k + 1) = σ (k + 1) := by rw [gup_oth (by omega), gup_oth (by omega)]
    rw [er, pFirst_SR h, hp, p_put hk _ (by omega)]
    simp only [gbv_some, gl_eq]
    have eV : vSub t (nI a) (nI b) z = upd (upd z (13 + 6 * t + q) (nI b)) (28 + t) (z (28 + t)) := by
      have e9 : z (28 + t) = (upd z (13 + 6 * t + q) (nI b)) (28 + t) := by unfold upd; rw [if_neg (by omega)]
      rw [e9, upd_self]
      unfold vSub
      rw [hp, nI_clamp (by omega)]
    rw [eV]
    refine ⟨_, rfl, SR_put ht h hq (fun j x y w => ?_) ?_ ?_, fun k' x y w => ?_, fun j x => ?_, ?_, ?_⟩
    · rw [gup_n (by omega), gup_k (by omega), gup_k (by omega), gup_k (by omega)]
    · rw [gup_n (by omega), gup_k (by omega), gup_k (by omega), gup_k (by omega), h.2.1]
    · rw [gup_oth (by omega), gup_row, er]
    · rw [gup_oth x, gup_oth y, gup_oth w, gup_oth w]
    · rw [gup_n (by omega), gup_k (by omega), gup_k (by omega), gup_k (by omega)]
    · rw [gup_s, gup_k (by omega), gup_k (by omega), gup_k (by omega)]
    · rw [gup_oth (by omega), gup_oth (by omega), gup_row, gup_row, hs0]
  unfold F_Side_swapByPair
  rw [p_vN σ hl (by omega) (by decide), gbi_some]
  by_cases g : σ (k + 2) a = nI b
  · rw [if_pos g]
    unfold F_Side_swapByPair_B17
    rw [p_pN _ hl (by omega) (by decide), gbv_some, if_neg (by decide)]
    exact main _ _ (by rw [if_pos g]) rfl
  · rw [if_neg g]
    unfold F_Side_swapByPair_B17
    rw [p_pN _ hl (by omega) (by decide), gbv_some, if_pos rfl]
    exact main _ _ (by rw [if_neg g]) rfl
