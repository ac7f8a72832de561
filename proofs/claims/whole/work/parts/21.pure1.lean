/-! ===== the pure part: what the pictures answer ===== -/
theorem p_vI {a n j : Nat} {i : Int32} (σ : gSt) (hn : gLn a = n) (h0 : ¬ i < 0) (h1 : ¬ nI n ≤ i) (hj : i.toNatClampNeg = j) (hjn : j < n) : F_Game_valueIn a i σ = some (σ a j, σ) := by
  subst hn; subst hj
  unfold F_Game_valueIn
  rw [if_neg h0, if_neg h1, if_neg (by rintro (h | h); exact h0 h; omega)]
theorem p_pI {a n j : Nat} {i v : Int32} (σ : gSt) (hn : gLn a = n) (h0 : ¬ i < 0) (h1 : ¬ nI n ≤ i) (hj : i.toNatClampNeg = j) (hjn : j < n) : F_Game_putIn a i v σ = some (gup σ a j v) := by
  subst hn; subst hj
  unfold F_Game_putIn
  rw [if_neg h0, if_neg h1, if_neg (by rintro (h | h); exact h0 h; omega)]
  rfl
theorem p_vN {a n p : Nat} (σ : gSt) (hn : gLn a = n) (hp : p < n) (hb : n < 2 ^ 31) : F_Game_valueIn a (nI p) σ = some (σ a p, σ) :=
  p_vI σ hn (nI_pos (by omega)) (nI_ge hp hb) (nI_clamp (by omega)) hp
theorem p_pN {a n p : Nat} {v : Int32} (σ : gSt) (hn : gLn a = n) (hp : p < n) (hb : n < 2 ^ 31) : F_Game_putIn a (nI p) v σ = some (gup σ a p v) :=
  p_pI σ hn (nI_pos (by omega)) (nI_ge hp hb) (nI_clamp (by omega)) hp
theorem p_shirtIn {k : Nat} (hk : gIsSide k) (σ : gSt) {p : Nat} (hp : p < 7) : F_Side_shirtIn k (nI p) σ = some (σ (k + 1) p, σ) := by
  unfold F_Side_shirtIn
  rw [p_vN σ (gSd hk).2.2.2.2.2.2.1 hp (by decide)]
  rfl
theorem p_put {k : Nat} (hk : gIsSide k) (σ : gSt) {p : Nat} {v : Int32} (hp : p < 7) : F_Side_put k (nI p) v σ = some (gup σ (k + 1) p v) := by
  unfold F_Side_put
  rw [p_pN σ (gSd hk).2.2.2.2.2.2.1 hp (by decide)]
  rfl
/-- the first place at which somebody is; -1 -/
def pFirst (f : Nat → Int32) (x : Int32) : Int32 := if f 1 = x then 1 else if f 2 = x then 2 else if f 3 = x then 3 else if f 4 = x then 4 else if f 5 = x then 5 else if f 6 = x then 6 else -1
theorem p_placeOf_step {k : Nat} (hk : gIsSide k) (σ : gSt) {x a : Int32} {n p : Nat} (hp : p < 7) : F_Side_placeOf_B2 k a (n + 1) x (nI p) σ = if σ (k + 1) p = x then some (nI p, σ) else F_Side_placeOf_B2 k a n x (nI (p + 1)) σ := by
  have h6 : ¬ (6 : Int32) < nI p := by
    rw [show (6 : Int32) = nI 6 from rfl]
    exact nI_nlt (by omega) (by decide)
  conv => lhs; unfold F_Side_placeOf_B2
  rw [if_neg h6, p_shirtIn hk σ hp, show (nI p + (1 : Int32)) = nI (p + 1) from nI_1 p]
  rfl
theorem p_placeOf {k : Nat} (hk : gIsSide k) (σ : gSt) (x : Int32) : F_Side_placeOf k x σ = some (pFirst (σ (k + 1)) x, σ) := by
  unfold F_Side_placeOf
  rw [show (1 : Int32) = nI 1 from rfl, show (100 : Nat) = 93 + 1 + 1 + 1 + 1 + 1 + 1 + 1 from rfl]
  rw [p_placeOf_step hk σ (by decide), p_placeOf_step hk σ (by decide), p_placeOf_step hk σ (by decide), p_placeOf_step hk σ (by decide), p_placeOf_step hk σ (by decide), p_placeOf_step hk σ (by decide)]
  unfold pFirst
  have h7 : F_Side_placeOf_B2 k x (93 + 1) x (nI (1 + 1 + 1 + 1 + 1 + 1 + 1)) σ = some ((-1 : Int32), σ) := by
    conv => lhs; unfold F_Side_placeOf_B2
    rw [if_pos (by decide)]
  rw [h7]
  simp only [show nI 1 = 1 from rfl, show nI (1 + 1) = 2 from rfl, show nI (1 + 1 + 1) = 3 from rfl, show nI (1 + 1 + 1 + 1) = 4 from rfl, show nI (1 + 1 + 1 + 1 + 1) = 5 from rfl, show nI (1 + 1 + 1 + 1 + 1 + 1) = 6 from rfl]
  grind
