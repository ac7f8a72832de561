/-! pairs, both sides -/
def inP (t i : Nat) (x : Int32) (z : vRow) : Prop := z (42 + 18 * t + 3 * i) = x ∨ z (43 + 18 * t + 3 * i) = x
theorem nI_pix : ∀ t, t < 2 → ∀ i, i < 7 → ((42 : Int32) + (18 : Int32) * nI t) + (3 : Int32) * nI i = nI (42 + 18 * t + 3 * i) := by decide
def mPx (t m : Nat) (x r : Int32) (z : vRow) : Prop := (r = -1 ∧ ∀ i, i < m → ¬ inP t i x z) ∨ ∃ i, i < m ∧ inP t i x z ∧ r = nI (42 + 18 * t + 3 * i)
theorem m_pair_loop {t m : Nat} (ht : t < 2) (hm : m ≤ 6) (τ : gSt) {z : vRow} (hτ : τ 29 = z) (h78 : z (78 + t) = nI m) {a b x : Int32} :
    ∀ (d n i : Nat) (l3 : Int32), i + d = m → d < n → mPx t i x l3 z → ∃ r, F_Model_pair_B5 a b n (nI t) x l3 (nI i) τ = some (r, τ) ∧ mPx t m x r z := by
  have e78 : (78 : Int32) + nI t = nI (78 + t) := nI_add 78 t
  intro d
  induction d with
  | zero =>
    intro n i l3 h1 h2 h3
    obtain ⟨n, rfl⟩ : ∃ q, n = q + 1 := ⟨n - 1, by omega⟩
    obtain rfl : i = m := by omega
    unfold F_Model_pair_B5
    rw [gif e78 (by omega), gcl e78 (by omega), hτ, h78, if_pos (nI_le (Nat.le_refl _) (by omega))]
    exact ⟨l3, rfl, h3⟩
  | succ d ih =>
    intro n i l3 h1 h2 h3
    obtain ⟨n, rfl⟩ : ∃ q, n = q + 1 := ⟨n - 1, by omega⟩
    have ei := nI_pix t ht i (by omega)
    have ei1 : nI (42 + 18 * t + 3 * i) + 1 = nI (43 + 18 * t + 3 * i) := by rw [nI_1, show 42 + 18 * t + 3 * i + 1 = 43 + 18 * t + 3 * i by omega]
    have yes : inP t i x z → mPx t (i + 1) x (nI (42 + 18 * t + 3 * i)) z := fun g => Or.inr ⟨i, by omega, g, rfl⟩
    have no : ¬ inP t i x z → mPx t (i + 1) x l3 z := fun g => by
      rcases h3 with ⟨q1, q2⟩ | ⟨j, q1, q2, q3⟩
      · refine Or.inl ⟨q1, fun j hj => ?_⟩
        by_cases e : j = i
        · rw [e]; exact g
        · exact q2 j (by omega)
      · exact Or.inr ⟨j, by omega, q2, q3⟩
    unfold F_Model_pair_B5
    rw [gif e78 (by omega), gcl e78 (by omega), hτ, h78, if_neg (nI_ge (by omega) (by omega)), ei, gl_eq, gif rfl (by omega), gcl rfl (by omega), ei1, gif rfl (by omega), gcl rfl (by omega), nI_1]
    by_cases g1 : z (42 + 18 * t + 3 * i) = x
    · rw [if_pos g1]
      exact ih n (i + 1) _ (by omega) (by omega) (yes (Or.inl g1))
    · rw [if_neg g1]
      by_cases g2 : z (43 + 18 * t + 3 * i) = x
      · rw [if_pos g2]
        exact ih n (i + 1) _ (by omega) (by omega) (yes (Or.inr g2))
      · rw [if_neg g2]
        exact ih n (i + 1) _ (by omega) (by omega) (no (fun g => g.elim g1 g2))
theorem m_pair {t m : Nat} (ht : t < 2) (hm : m ≤ 6) (τ : gSt) {z : vRow} (hτ : τ 29 = z) (h78 : z (78 + t) = nI m) (x : Int32) : ∃ r, F_Model_pair (nI t) x τ = some (r, τ) ∧ mPx t m x r z := by
  unfold F_Model_pair
  exact m_pair_loop ht hm τ hτ h78 m 100 0 (-1) (by omega) (by omega) (Or.inl ⟨rfl, fun i hi => absurd hi (by omega)⟩)
/-- may they be changed: told of the class's pairs and of the model's triples -/
def okC (f : Nat → Int32) (g c : Nat) : Prop := (f g = 0 ∧ f c = 0) ∨ f g = nI c
def isB (r1 r2 g : Int32) (z : vRow) : Prop := r1 ≠ -1 ∧ r1 = r2 ∧ z (r1.toNatClampNeg + 2) = 1 ∧ z (r1.toNatClampNeg + 1) = g
theorem pairs_ok {t m s g c : Nat} {f : Nat → Int32} {z : vRow} {r1 r2 : Int32} (ht : t < 2) (hms : m ≤ s) (hs6 : s ≤ 6)
    (h5 : ∀ i, i < m → ∃ a b : Nat, 1 ≤ a ∧ a ≤ 20 ∧ 1 ≤ b ∧ b ≤ 20 ∧ a ≠ b ∧ z (42 + 18 * t + 3 * i) = nI a ∧ z (43 + 18 * t + 3 * i) = nI b ∧ ((z (44 + 18 * t + 3 * i) = 1 ∧ f a = -1 ∧ f b = nI a) ∨ (z (44 + 18 * t + 3 * i) = 2 ∧ f a = -1 ∧ f b = -1)))
    (h6 : ∀ x, 1 ≤ x → x ≤ 20 → (∀ i, i < m → z (42 + 18 * t + 3 * i) ≠ nI x ∧ z (43 + 18 * t + 3 * i) ≠ nI x) → f x = 0)
    (h7 : ∀ i j, i < m → j < m → i ≠ j → z (42 + 18 * t + 3 * i) ≠ z (42 + 18 * t + 3 * j) ∧ z (42 + 18 * t + 3 * i) ≠ z (43 + 18 * t + 3 * j) ∧ z (43 + 18 * t + 3 * i) ≠ z (43 + 18 * t + 3 * j))
    (hg : 1 ≤ g ∧ g ≤ 20) (hc : 1 ≤ c ∧ c ≤ 20) (hgc : g ≠ c) (e1 : mPx t m (nI g) r1 z) (e2 : mPx t m (nI c) r2 z) :
    (r1 = -1 ∧ r2 = -1 ∧ okC f g c ∧ ¬ f g = nI c ∧ (∀ i, i < m → ¬ inP t i (nI g) z) ∧ ∀ i, i < m → ¬ inP t i (nI c) z) ∨ (∃ i, i < m ∧ r1 = nI (42 + 18 * t + 3 * i) ∧ r2 = r1 ∧ z (42 + 18 * t + 3 * i) = nI c ∧ z (43 + 18 * t + 3 * i) = nI g ∧ z (44 + 18 * t + 3 * i) = 1 ∧ okC f g c ∧ f g = nI c) ∨ (¬ okC f g c ∧ ¬ (r1 = -1 ∧ r2 = -1) ∧ (r1 = -1 ∨ ∃ w : Nat, w < 90 ∧ r1 = nI w ∧ ¬ isB r1 r2 (nI g) z)) := by
  have eqN : ∀ a b : Nat, a ≤ 20 → b ≤ 20 → nI a = nI b → a = b := fun a b x y => (nI_eq (by omega) (by omega)).mp
  have cne0 : ¬ (0 : Int32) = nI c := fun e => absurd (eqN 0 c (by omega) hc.2 e) (by omega)
  have cne1 : ¬ (-1 : Int32) = nI c := fun e => nI_ne1 (by omega) e.symm
  have no0 : ∀ x : Nat, 1 ≤ x → x ≤ 20 → ∀ r, mPx t m (nI x) r z → r ≠ -1 → ¬ f x = 0 := by
    intro x x1 x2 r hr hr1 hf
    rcases hr with ⟨q1, q2⟩ | ⟨i, q1, q2, q3⟩
    · exact hr1 q1
    · obtain ⟨a, b, a1, a2, b1, b2, ab, za, zb, st⟩ := h5 i q1
      rcases q2 with q2 | q2
      · have := eqN a x a2 x2 (za.symm.trans q2)
        subst this
        rcases st with ⟨_, st, _⟩ | ⟨_, st, _⟩ <;> exact absurd (st.symm.trans hf) (by decide)
      · have := eqN b x b2 x2 (zb.symm.trans q2)
        subst this
        rcases st with ⟨_, _, st⟩ | ⟨_, _, st⟩
        · exact absurd (eqN a 0 a2 (by omega) (st.symm.trans hf)) (by omega)
        · exact absurd (st.symm.trans hf) (by decide)
  rcases e1 with ⟨p1, p2⟩ | ⟨i, p1, p2, p3⟩
  · have fg : f g = 0 := h6 g hg.1 hg.2 (fun i hi => ⟨fun e => p2 i hi (Or.inl e), fun e => p2 i hi (Or.inr e)⟩)
    have fgc : ¬ f g = nI c := by rw [fg]; exact cne0
    by_cases g2 : r2 = -1
    · have q2 : ∀ i, i < m → ¬ inP t i (nI c) z := by
        rcases e2 with ⟨_, q2⟩ | ⟨j, q1, q2, q3⟩
        · exact q2
        · exact absurd (q3.symm.trans g2) (nI_ne1 (by omega))
      have fc : f c = 0 := h6 c hc.1 hc.2 (fun i hi => ⟨fun e => q2 i hi (Or.inl e), fun e => q2 i hi (Or.inr e)⟩)
      exact Or.inl ⟨p1, g2, Or.inl ⟨fg, fc⟩, fgc, p2, q2⟩
    · have fc := no0 c hc.1 hc.2 r2 e2 g2
      exact Or.inr (Or.inr ⟨fun e => e.elim (fun e => fc e.2) fgc, fun e => g2 e.2, Or.inl p1⟩)
  · have r1n : r1 ≠ -1 := by rw [p3]; exact nI_ne1 (by omega)
    have fg := no0 g hg.1 hg.2 r1 (Or.inr ⟨i, p1, p2, p3⟩) r1n
    have cl : r1.toNatClampNeg = 42 + 18 * t + 3 * i := by rw [p3]; exact nI_clamp (by omega)
    have bad : ¬ okC f g c → ¬ isB r1 r2 (nI g) z → (r1 = -1 ∧ r2 = -1 ∧ okC f g c ∧ ¬ f g = nI c ∧ (∀ i, i < m → ¬ inP t i (nI g) z) ∧ ∀ i, i < m → ¬ inP t i (nI c) z) ∨ (∃ i, i < m ∧ r1 = nI (42 + 18 * t + 3 * i) ∧ r2 = r1 ∧ z (42 + 18 * t + 3 * i) = nI c ∧ z (43 + 18 * t + 3 * i) = nI g ∧ z (44 + 18 * t + 3 * i) = 1 ∧ okC f g c ∧ f g = nI c) ∨ (¬ okC f g c ∧ ¬ (r1 = -1 ∧ r2 = -1) ∧ (r1 = -1 ∨ ∃ w : Nat, w < 90 ∧ r1 = nI w ∧ ¬ isB r1 r2 (nI g) z)) := fun h1 h2 => Or.inr (Or.inr ⟨h1, fun e => r1n e.1, Or.inr ⟨42 + 18 * t + 3 * i, by omega, p3, h2⟩⟩)
    obtain ⟨a, b, a1, a2, b1, b2, ab, za, zb, st⟩ := h5 i p1
    rcases p2 with p2 | p2
    · have := eqN a g a2 hg.2 (za.symm.trans p2)
      subst this
      have fa : f a = -1 := st.elim (fun e => e.2.1) (fun e => e.2.1)
      refine bad (fun e => e.elim (fun e => fg e.1) (fun e => cne1 (fa.symm.trans e))) (fun e => ?_)
      have := e.2.2.2
      rw [cl, show 42 + 18 * t + 3 * i + 1 = 43 + 18 * t + 3 * i by omega, zb] at this
      exact ab (eqN b a b2 a2 this).symm
    · have := eqN b g b2 hg.2 (zb.symm.trans p2)
      subst this
      rcases st with ⟨s1, s2, s3⟩ | ⟨s1, s2, s3⟩
      · by_cases gc : a = c
        · subst gc
          refine Or.inr (Or.inl ⟨i, p1, p3, ?_, za, zb, s1, Or.inr s3, s3⟩)
          rcases e2 with ⟨q1, q2⟩ | ⟨j, q1, q2, q3⟩
          · exact absurd (Or.inl za) (q2 i p1)
          · by_cases ij : i = j
            · rw [q3, p3, ij]
            · have := h7 i j p1 q1 ij
              rcases q2 with q2 | q2
              · exact absurd (za.trans q2.symm) this.1
              · exact absurd (za.trans q2.symm) this.2.1
        · refine bad (fun e => e.elim (fun e => fg e.1) (fun e => gc (eqN a c a2 hc.2 (s3.symm.trans e)))) (fun e => ?_)
          rcases e2 with ⟨q1, q2⟩ | ⟨j, q1, q2, q3⟩
          · exact r1n (e.2.1.trans q1)
          · have : 42 + 18 * t + 3 * i = 42 + 18 * t + 3 * j := (nI_eq (by omega) (by omega)).mp (p3.symm.trans (e.2.1.trans q3))
            obtain rfl : i = j := by omega
            rcases q2 with q2 | q2
            · exact gc (eqN a c a2 hc.2 (za.symm.trans q2))
            · exact hgc (eqN b c b2 hc.2 (zb.symm.trans q2))
      · refine bad (fun e => e.elim (fun e => fg e.1) (fun e => cne1 (s3.symm.trans e))) (fun e => ?_)
        have := e.2.2.1
        rw [cl, show 42 + 18 * t + 3 * i + 2 = 44 + 18 * t + 3 * i by omega, s1] at this
        exact absurd this (by decide)
/-! may they be changed, both sides -/
theorem m_sb139 {a b d x y : Int32} {t : Nat} (τ : gSt) : F_Model_substitute_B139 a b d (nI t) x y 1 τ = some ((0 : Int32), gs τ 28 (upd (τ 28) 2 2)) := by
  unfold F_Model_substitute_B139 F_Model_substitute_B140 F_Model_substitute_B157 F_Model_substitute_B174 F_Model_substitute_B219 F_Model_substitute_B220 F_Model_substitute_B258 F_Model_substitute_B259
  rw [if_pos rfl, if_pos rfl, if_pos rfl, if_neg (by decide), if_pos rfl, m_goesN _ (by decide), gbi_some, if_pos rfl]
theorem m_sb25 {a b d x y v : Int32} (τ : gSt) : F_Model_substitute_B25 a b d v x y τ = some ((0 : Int32), gs τ 28 (upd (τ 28) 2 1)) := by
  unfold F_Model_substitute_B25 F_Model_substitute_B26 F_Model_substitute_B70 F_Model_substitute_B71 F_Model_substitute_B139 F_Model_substitute_B140 F_Model_substitute_B157 F_Model_substitute_B174 F_Model_substitute_B219 F_Model_substitute_B220 F_Model_substitute_B259
  rw [if_pos rfl, if_pos rfl, if_pos rfl, if_pos rfl, if_pos rfl, if_pos rfl, m_goesN _ (by decide), gbi_some, if_pos rfl]
theorem m_sb70 {a b d x y : Int32} {t : Nat} (τ : gSt) : F_Model_substitute_B70 a b d (nI t) x y 1 τ = some ((0 : Int32), gs τ 28 (upd (τ 28) 2 2)) := by
  unfold F_Model_substitute_B70 F_Model_substitute_B71
  rw [if_pos rfl, m_sb139]
def pS (t g c : Nat) (z : vRow) : Prop := (∃ s : Nat, s < 6 ∧ z (32 + t) = nI s) ∧ nI g ≠ z (26 + t) ∧ nI c ≠ z (26 + t) ∧ nI c ≠ z (28 + t) ∧ (∃ q : Nat, 1 ≤ q ∧ q ≤ 6 ∧ pRow t z q = nI g ∧ pFirst (pRow t z) (nI g) = nI q ∧ pLast (pRow t z) (nI g) = nI q) ∧ ∀ p, 1 ≤ p → p ≤ 6 → pRow t z p ≠ nI c
theorem sub_pre {k t g c s : Nat} {a b d : Int32} (hk : gIsSide k) (ht : t < 2) {σ : gSt} {z : vRow} (h : SR k t σ z) (hU : pU (pRow t z)) (h7 : σ k 7 = z (32 + t)) (hs : z (32 + t) = nI s) (hs6 : s ≤ 6) (z0 : z 0 = 1) (z1 : z 1 = 0) (hg : 1 ≤ g ∧ g ≤ 20) (hc : 1 ≤ c ∧ c ≤ 20) :
    (pS t g c z ∧ ((okC (σ (k + 2)) g c ∧ F_Side_canSubstitute k (nI g) (nI c) σ = some ((1 : Int32), σ)) ∨ (¬ okC (σ (k + 2)) g c ∧ F_Side_canSubstitute k (nI g) (nI c) σ = some ((0 : Int32), σ))) ∧ ∀ τ : gSt, τ 29 = z → F_Model_substitute_B26 a b d (nI t) (nI g) (nI c) 1 τ = F_Model_substitute_B140 a b d (nI t) (nI g) (nI c) 1 1 τ) ∨
    (F_Side_canSubstitute k (nI g) (nI c) σ = some ((0 : Int32), σ) ∧ ∀ τ : gSt, τ 29 = z → F_Model_substitute_B26 a b d (nI t) (nI g) (nI c) 1 τ = some ((0 : Int32), gs τ 28 (upd (τ 28) 2 2))) := by
  have hl := (gSd hk).2.2.2.2.2.2.2
  have e32 : (32 : Int32) + nI t = nI (32 + t) := nI_add 32 t
  have e26 : (26 : Int32) + nI t = nI (26 + t) := nI_add 26 t
  have e28 : (28 : Int32) + nI t = nI (28 + t) := nI_add 28 t
  have eg : F_Side_placeOf k (nI g) σ = some (pFirst (pRow t z) (nI g), σ) := by rw [p_placeOf hk, pFirst_SR h]
  have ec : F_Side_placeOf k (nI c) σ = some (pFirst (pRow t z) (nI c), σ) := by rw [p_placeOf hk, pFirst_SR h]
  have hM0 : ∀ τ : gSt, τ 29 = z → F_Model_substitute_B26 a b d (nI t) (nI g) (nI c) 1 τ = if (6 : Int32) ≤ z (32 + t) then some ((0 : Int32), gs τ 28 (upd (τ 28) 2 2)) else F_Model_substitute_B71 a b d (nI t) (nI g) (nI c) 1 1 τ := fun τ hτ => by
    unfold F_Model_substitute_B26
    rw [if_neg (by decide), hτ, if_pos z0, if_pos z1, gif e32 (by omega), gcl e32 (by omega), m_sb70]
  have hM1 : ∀ τ : gSt, τ 29 = z → F_Model_substitute_B71 a b d (nI t) (nI g) (nI c) 1 1 τ = if pLast (pRow t z) (nI g) ≤ 0 then some ((0 : Int32), gs τ 28 (upd (τ 28) 2 2)) else if nI g = z (26 + t) then some ((0 : Int32), gs τ 28 (upd (τ 28) 2 2)) else if pLast (pRow t z) (nI c) = 0 then (if nI c = z (26 + t) then some ((0 : Int32), gs τ 28 (upd (τ 28) 2 2)) else if nI c = z (28 + t) then some ((0 : Int32), gs τ 28 (upd (τ 28) 2 2)) else F_Model_substitute_B140 a b d (nI t) (nI g) (nI c) 1 1 τ) else some ((0 : Int32), gs τ 28 (upd (τ 28) 2 2)) := fun τ hτ => by
    unfold F_Model_substitute_B71
    have o26 : ¬ ((26 : Int32) + nI t < 0 ∨ 92 ≤ 26 + t) := by rw [e26]; exact gin (by omega)
    have h139 := m_sb139 (a := a) (b := b) (d := d) (x := nI g) (y := nI c) (t := t) τ
    rw [if_neg (by decide), m_place ht, gbi_some, hτ, h139]
    by_cases g1 : pLast (pRow t z) (nI g) ≤ 0
    · rw [if_pos g1, if_pos g1]
    rw [if_neg g1, if_neg g1, gif e26 (by omega), gcl e26 (by omega)]
    by_cases g2 : nI g = z (26 + t)
    · rw [if_pos g2, if_pos g2]
    rw [if_neg g2, if_neg g2, m_place ht, gbi_some, hτ]
    by_cases g3 : pLast (pRow t z) (nI c) = 0
    · rw [if_pos g3, if_pos g3, if_neg o26, gif e28 (by omega), gcl e28 (by omega), h139]
    · rw [if_neg g3, if_neg g3, h139]
  unfold F_Side_canSubstitute
  rw [h7, h.1, h.2.1, eg]
  by_cases n1 : (6 : Int32) ≤ z (32 + t)
  · exact Or.inr ⟨by rw [if_pos n1], fun τ hτ => by rw [hM0 τ hτ, if_pos n1]⟩
  have hs5 : s < 6 := by
    rcases Nat.lt_or_ge s 6 with w | w
    · exact w
    · exact absurd (by rw [hs, show (6 : Int32) = nI 6 from rfl]; exact nI_le w (by omega)) n1
  rw [if_neg n1]
  by_cases n2 : nI g = z (26 + t)
  · refine Or.inr ⟨by rw [if_pos n2], fun τ hτ => ?_⟩
    rw [hM0 τ hτ, if_neg n1, hM1 τ hτ]
    by_cases g1 : pLast (pRow t z) (nI g) ≤ 0
    · rw [if_pos g1]
    · rw [if_neg g1, if_pos n2]
  rw [if_neg n2]
  by_cases n3 : nI c = z (26 + t)
  · refine Or.inr ⟨by rw [if_pos n3], fun τ hτ => ?_⟩
    rw [hM0 τ hτ, if_neg n1, hM1 τ hτ, if_neg n2, if_pos n3]
    by_cases g1 : pLast (pRow t z) (nI g) ≤ 0
    · rw [if_pos g1]
    · rw [if_neg g1]
      split <;> rfl
  rw [if_neg n3]
  by_cases n4 : nI c = z (28 + t)
  · refine Or.inr ⟨by rw [if_pos n4], fun τ hτ => ?_⟩
    rw [hM0 τ hτ, if_neg n1, hM1 τ hτ, if_neg n2, if_neg n3, if_pos n4]
    by_cases g1 : pLast (pRow t z) (nI g) ≤ 0
    · rw [if_pos g1]
    · rw [if_neg g1]
      split <;> rfl
  rw [if_neg n4, gbi_some]
  rcases p_in hU (nI g) with ⟨q, q1, q2, q3, q4, q5⟩ | ⟨q3, q4, q5⟩
  · rw [q4, if_neg (nI_ne1 (by omega)), ec, gbi_some]
    rcases p_in hU (nI c) with ⟨r, r1, r2, r3, r4, r5⟩ | ⟨r3, r4, r5⟩
    · rw [r4, if_neg (nI_ne1 (by omega))]
      refine Or.inr ⟨rfl, fun τ hτ => ?_⟩
      rw [hM0 τ hτ, if_neg n1, hM1 τ hτ, q5, if_neg (nI_nle (by omega) (by omega)), if_neg n2, r5, if_neg (nI_ne0 (by omega) (by omega))]
    · rw [r4, if_pos rfl, p_vN σ hl (by omega) (by decide), gbi_some]
      refine Or.inl ⟨⟨⟨s, hs5, hs⟩, n2, n3, n4, ⟨q, q1, q2, q3, q4, q5⟩, r3⟩, ?_, fun τ hτ => ?_⟩
      · have hvg := p_vN σ hl (show g < 21 by omega) (by decide)
        have hvc := p_vN σ hl (show c < 21 by omega) (by decide)
        have h82 : F_Side_canSubstitute_B82 k (nI g) (nI c) (nI g) (nI c) 1 σ = some ((1 : Int32), σ) := by
          unfold F_Side_canSubstitute_B82
          rw [if_neg (by decide)]
        have h81 : F_Side_canSubstitute_B81 k (nI g) (nI c) (nI g) (nI c) σ = if σ (k + 2) g = nI c then some ((1 : Int32), σ) else some ((0 : Int32), σ) := by
          unfold F_Side_canSubstitute_B81 F_Side_canSubstitute_B82
          rw [if_pos rfl, hvg, gbi_some]
        rw [h81]
        by_cases w1 : σ (k + 2) g = 0
        · rw [if_pos w1, hvc, gbi_some, h82, h81]
          by_cases w2 : σ (k + 2) c = 0
          · rw [if_pos w2]
            exact Or.inl ⟨Or.inl ⟨w1, w2⟩, rfl⟩
          · rw [if_neg w2]
            by_cases w3 : σ (k + 2) g = nI c
            · rw [if_pos w3]
              exact Or.inl ⟨Or.inr w3, rfl⟩
            · rw [if_neg w3]
              exact Or.inr ⟨fun e => e.elim (fun e => w2 e.2) w3, rfl⟩
        · rw [if_neg w1]
          by_cases w3 : σ (k + 2) g = nI c
          · rw [if_pos w3]
            exact Or.inl ⟨Or.inr w3, rfl⟩
          · rw [if_neg w3]
            exact Or.inr ⟨fun e => e.elim (fun e => w1 e.1) w3, rfl⟩
      · rw [hM0 τ hτ, if_neg n1, hM1 τ hτ, q5, if_neg (nI_nle (by omega) (by omega)), if_neg n2, r5, if_pos rfl, if_neg n3, if_neg n4]
  · rw [q4, if_pos rfl]
    refine Or.inr ⟨rfl, fun τ hτ => ?_⟩
    rw [hM0 τ hτ, if_neg n1, hM1 τ hτ, q5, if_pos (by decide)]
