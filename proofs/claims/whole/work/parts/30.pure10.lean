/-! what holds of a row while a set goes on -/
def Vt (t : Nat) (z : vRow) : Prop := pU (pRow t z) ∧ (z (28 + t) = -1 → ∀ p, 1 ≤ p → p ≤ 6 → pRow t z p ≠ z (26 + t)) ∧ (z (28 + t) ≠ -1 → (∃ p, 1 ≤ p ∧ p ≤ 6 ∧ pRow t z p = z (26 + t)) ∧ ∀ p, 1 ≤ p → p ≤ 6 → pRow t z p ≠ z (28 + t))
theorem pRow_cong {t : Nat} {z z' : vRow} (h : ∀ j, cIx t j → z' j = z j) {p : Nat} (h1 : 1 ≤ p) (h2 : p ≤ 6) : pRow t z' p = pRow t z p := h _ (by unfold cIx; omega)
theorem Vt_cong {t : Nat} {z z' : vRow} (h : ∀ j, cIx t j → z' j = z j) (hv : Vt t z) : Vt t z' := by
  obtain ⟨a, b, c⟩ := hv
  have e28 : z' (28 + t) = z (28 + t) := h _ (by unfold cIx; omega)
  have e26 : z' (26 + t) = z (26 + t) := h _ (by unfold cIx; omega)
  refine ⟨fun p q h1 h2 h3 h4 h5 => a p q h1 h2 h3 h4 (by rw [← pRow_cong h h1 h2, ← pRow_cong h h3 h4]; exact h5), fun g p h1 h2 => ?_, fun g => ⟨?_, fun p h1 h2 => ?_⟩⟩
  · rw [pRow_cong h h1 h2, e26]; exact b (by rw [← e28]; exact g) p h1 h2
  · obtain ⟨p, h1, h2, h3⟩ := (c (by rw [← e28]; exact g)).1
    exact ⟨p, h1, h2, by rw [pRow_cong h h1 h2, e26]; exact h3⟩
  · rw [pRow_cong h h1 h2, e28]; exact (c (by rw [← e28]; exact g)).2 p h1 h2
theorem pRow_rot {t p : Nat} (ht : t < 2) {z : vRow} (h1 : 1 ≤ p) (h2 : p ≤ 6) : pRow t (vRotS t z) p = pRow t z (if p = 6 then 1 else p + 1) := by
  unfold pRow vRotS
  by_cases g : p = 6
  · rw [if_neg (by omega), if_pos (by omega), if_pos g]
    rw [show 13 + 6 * t + 1 = 14 + 6 * t by omega]
  · rw [if_pos (by omega), if_neg g]
    rw [show 13 + 6 * t + p + 1 = 13 + 6 * t + (p + 1) by omega]
theorem pU_upd {f g : Nat → Int32} {q : Nat} {x : Int32} (h : pU f) (hx : ∀ p, 1 ≤ p → p ≤ 6 → f p ≠ x) (hg : ∀ p, 1 ≤ p → p ≤ 6 → g p = if p = q then x else f p) : pU g := by
  intro a b h1 h2 h3 h4 e
  rw [hg a h1 h2, hg b h3 h4] at e
  by_cases ga : a = q
  · by_cases gb : b = q
    · omega
    · rw [if_pos ga, if_neg gb] at e
      exact absurd e.symm (hx b h3 h4)
  · by_cases gb : b = q
    · rw [if_neg ga, if_pos gb] at e
      exact absurd e (hx a h1 h2)
    · rw [if_neg ga, if_neg gb] at e
      exact h a b h1 h2 h3 h4 e
theorem Vt_rotS {t : Nat} (ht : t < 2) {z : vRow} (h : Vt t z) : Vt t (vRotS t z) := by
  obtain ⟨a, b, c⟩ := h
  have e28 : vRotS t z (28 + t) = z (28 + t) := by unfold vRotS; rw [if_neg (by omega), if_neg (by omega), if_neg (by omega)]
  have e26 : vRotS t z (26 + t) = z (26 + t) := by unfold vRotS; rw [if_neg (by omega), if_neg (by omega), if_neg (by omega)]
  refine ⟨fun p q h1 h2 h3 h4 h5 => ?_, fun g p h1 h2 => ?_, fun g => ⟨?_, fun p h1 h2 => ?_⟩⟩
  · rw [pRow_rot ht h1 h2, pRow_rot ht h3 h4] at h5
    have h6 := a _ _ (by split <;> omega) (by split <;> omega) (by split <;> omega) (by split <;> omega) h5
    split at h6 <;> split at h6 <;> omega
  · rw [pRow_rot ht h1 h2, e26]
    exact b (by rw [← e28]; exact g) _ (by split <;> omega) (by split <;> omega)
  · obtain ⟨p, h1, h2, h3⟩ := (c (by rw [← e28]; exact g)).1
    by_cases gp : p = 1
    · refine ⟨6, by omega, by omega, ?_⟩
      rw [pRow_rot ht (by omega) (by omega), if_pos rfl, e26, ← gp]; exact h3
    · refine ⟨p - 1, by omega, by omega, ?_⟩
      rw [pRow_rot ht (by omega) (by omega), if_neg (by omega), e26, show p - 1 + 1 = p by omega]; exact h3
  · rw [pRow_rot ht h1 h2, e28]
    exact (c (by rw [← e28]; exact g)).2 _ (by split <;> omega) (by split <;> omega)
/-- a place and the one who went are told anew -/
theorem pRow_upd2 {t q p : Nat} (ht : t < 2) {z : vRow} {x w : Int32} (h1 : 1 ≤ p) (h2 : p ≤ 6) : pRow t (upd (upd z (13 + 6 * t + q) x) (28 + t) w) p = if p = q then x else pRow t z p := by
  unfold pRow upd
  rw [if_neg (by omega)]
  by_cases g : p = q
  · rw [if_pos (by omega), if_pos g]
  · rw [if_neg (by omega), if_neg g]
theorem Vt_out {t q : Nat} (ht : t < 2) {z : vRow} (h : Vt t z) (hq : 1 ≤ q ∧ q ≤ 6) (hg : z (28 + t) ≠ -1) (hp : pRow t z q = z (26 + t)) : Vt t (upd (upd z (13 + 6 * t + q) (z (28 + t))) (28 + t) (-1)) := by
  obtain ⟨a, b, c⟩ := h
  obtain ⟨c1, c2⟩ := c hg
  have e26 : upd (upd z (13 + 6 * t + q) (z (28 + t))) (28 + t) (-1) (26 + t) = z (26 + t) := by unfold upd; rw [if_neg (by omega), if_neg (by omega)]
  have e28 : upd (upd z (13 + 6 * t + q) (z (28 + t))) (28 + t) (-1) (28 + t) = -1 := by unfold upd; rw [if_pos rfl]
  refine ⟨pU_upd a c2 (fun p h1 h2 => pRow_upd2 ht h1 h2), fun _ p h1 h2 => ?_, fun g => absurd e28 g⟩
  rw [pRow_upd2 ht h1 h2, e26]
  by_cases g : p = q
  · rw [if_pos g, ← hp]; exact (c2 q hq.1 hq.2).symm
  · rw [if_neg g, ← hp]; exact fun e => g (a p q h1 h2 hq.1 hq.2 e)
theorem Vt_rot {t : Nat} (ht : t < 2) {z : vRow} (h : Vt t z) : Vt t (vRot t z) := by
  unfold vRot
  by_cases g : z (28 + t) ≠ -1 ∧ z (18 + 6 * t) = z (26 + t)
  · rw [if_pos g]
    have e28 : vRotS t z (28 + t) = z (28 + t) := by unfold vRotS; rw [if_neg (by omega), if_neg (by omega), if_neg (by omega)]
    have e26 : vRotS t z (26 + t) = z (26 + t) := by unfold vRotS; rw [if_neg (by omega), if_neg (by omega), if_neg (by omega)]
    have h2 := Vt_out (q := 4) ht (Vt_rotS ht h) (by decide) (by rw [e28]; exact g.1) (by
      rw [pRow_rot ht (by decide) (by decide), if_neg (by decide), e26, ← g.2]
      unfold pRow
      rw [show 13 + 6 * t + (4 + 1) = 18 + 6 * t by omega])
    rw [e28, show 13 + 6 * t + 4 = 17 + 6 * t by omega] at h2
    exact h2
  · rw [if_neg g]; exact Vt_rotS ht h
theorem Vt_in {t q : Nat} (ht : t < 2) {z : vRow} {x : Int32} (h : Vt t z) (hq : 1 ≤ q ∧ q ≤ 6) (hg : z (28 + t) = -1) (hx : x ≠ -1) (hp : pRow t z q = x) : Vt t (upd (upd z (13 + 6 * t + q) (z (26 + t))) (28 + t) x) := by
  obtain ⟨a, b, c⟩ := h
  have b1 := b hg
  have e26 : upd (upd z (13 + 6 * t + q) (z (26 + t))) (28 + t) x (26 + t) = z (26 + t) := by unfold upd; rw [if_neg (by omega), if_neg (by omega)]
  have e28 : upd (upd z (13 + 6 * t + q) (z (26 + t))) (28 + t) x (28 + t) = x := by unfold upd; rw [if_pos rfl]
  refine ⟨pU_upd a b1 (fun p h1 h2 => pRow_upd2 ht h1 h2), fun g => absurd (e28.symm.trans g) hx, fun _ => ⟨⟨q, hq.1, hq.2, ?_⟩, fun p h1 h2 => ?_⟩⟩
  · rw [pRow_upd2 ht hq.1 hq.2, if_pos rfl, e26]
  · rw [pRow_upd2 ht h1 h2, e28, ← hp]
    by_cases g : p = q
    · rw [if_pos g]; exact (b1 q hq.1 hq.2).symm
    · rw [if_neg g]; exact fun e => g (a p q h1 h2 hq.1 hq.2 e)
theorem Vt_swap {t q : Nat} (ht : t < 2) {z : vRow} {x : Int32} (h : Vt t z) (hq : 1 ≤ q ∧ q ≤ 6) (hx : x ≠ -1) (hp : pFirst (pRow t z) (if z (28 + t) = -1 then x else z (26 + t)) = nI q) (hr : pRow t z q = if z (28 + t) = -1 then x else z (26 + t)) (hw : z (28 + t) ≠ -1 → x = z (28 + t)) : Vt t (vSwap t x z) := by
  unfold vSwap
  by_cases g : z (28 + t) = -1
  · rw [if_pos g] at hp hr ⊢
    rw [hp, nI_clamp (by omega)]
    exact Vt_in ht h hq g hx hr
  · rw [if_neg g] at hp hr ⊢
    rw [hp, nI_clamp (by omega), hw g]
    exact Vt_out ht h hq g hr
theorem Vt_sub {t q : Nat} (ht : t < 2) {z : vRow} {g c : Int32} (h : Vt t z) (hq : 1 ≤ q ∧ q ≤ 6) (hp : pFirst (pRow t z) g = nI q) (hr : pRow t z q = g) (h1 : g ≠ z (26 + t)) (h2 : c ≠ z (26 + t)) (h3 : c ≠ z (28 + t)) (h4 : ∀ p, 1 ≤ p → p ≤ 6 → pRow t z p ≠ c) : Vt t (vSub t g c z) := by
  obtain ⟨a, b, d⟩ := h
  have e : ∀ p, 1 ≤ p → p ≤ 6 → pRow t (vSub t g c z) p = if p = q then c else pRow t z p := by
    intro p x y
    unfold vSub
    rw [hp, nI_clamp (by omega)]
    unfold pRow upd
    by_cases e : p = q
    · rw [if_pos e, if_pos (by omega)]
    · rw [if_neg e, if_neg (by omega)]
  have e26 : vSub t g c z (26 + t) = z (26 + t) := vSub_oth ht hq hp (by omega)
  have e28 : vSub t g c z (28 + t) = z (28 + t) := vSub_oth ht hq hp (by omega)
  refine ⟨pU_upd a h4 e, fun w p x y => ?_, fun w => ⟨?_, fun p x y => ?_⟩⟩
  · rw [e p x y, e26]
    by_cases k : p = q
    · rw [if_pos k]; exact h2
    · rw [if_neg k]; exact b (by rw [← e28]; exact w) p x y
  · obtain ⟨p, x, y, k⟩ := (d (by rw [← e28]; exact w)).1
    refine ⟨p, x, y, ?_⟩
    have : p ≠ q := fun e9 => h1 (by rw [← hr, ← k, e9])
    rw [e p x y, e26, if_neg this]; exact k
  · rw [e p x y, e28]
    by_cases k : p = q
    · rw [if_pos k]; exact h3
    · rw [if_neg k]; exact (d (by rw [← e28]; exact w)).2 p x y
def VV (n : Nat) (z : vRow) : Prop := (∃ s, s < 2 ∧ z 2 = nI s) ∧ ∀ t, t < 2 → Vt t z ∧ ∃ r, r ≤ n ∧ z (36 + t) = nI r
theorem VV.mono {n m : Nat} {z : vRow} (h : VV n z) (hm : n ≤ m) : VV m z := ⟨h.1, fun t ht => ⟨(h.2 t ht).1, (h.2 t ht).2.imp fun r q => ⟨Nat.le_trans q.1 hm, q.2⟩⟩⟩
theorem VV_cong {n : Nat} {z z' : vRow} (h : VV n z) (h2 : z' 2 = z 2) (hz : ∀ t, t < 2 → ∀ j, cIx t j → z' j = z j) : VV n z' := by
  refine ⟨by rw [h2]; exact h.1, fun t ht => ⟨Vt_cong (hz t ht) (h.2 t ht).1, ?_⟩⟩
  rw [hz t ht (36 + t) (by unfold cIx; omega)]
  exact (h.2 t ht).2
theorem VV_give {n w : Nat} (hw : w < 2) {z : vRow} (h : VV n z) : VV (n + 1) (vGive w z) := by
  obtain ⟨h2, ht2⟩ := h
  unfold vGive
  have k10 : ∀ (z' : vRow) (v : Int32), ∀ t, t < 2 → Vt t z' → Vt t (upd z' (10 + w) v) := by
    intro z' v t ht hv
    refine ⟨fun p q a b c d e => hv.1 p q a b c d ?_, fun e p a b => ?_, fun e => ?_⟩
    · unfold pRow upd at e
      rw [if_neg (by omega), if_neg (by omega)] at e
      exact e
    · have := hv.2.1 (by unfold upd at e; rw [if_neg (by omega)] at e; exact e) p a b
      unfold pRow upd at *
      rw [if_neg (by omega), if_neg (by omega)]; exact this
    · have := hv.2.2 (by unfold upd at e; rw [if_neg (by omega)] at e; exact e)
      unfold pRow upd at *
      rw [if_neg (by omega), if_neg (by omega)]
      refine ⟨?_, fun p a b => ?_⟩
      · obtain ⟨p, a, b, c⟩ := this.1
        exact ⟨p, a, b, by rw [if_neg (by omega)]; exact c⟩
      · rw [if_neg (by omega)]; exact this.2 p a b
  by_cases g : z 2 = nI w
  · rw [if_pos g]
    refine ⟨⟨w, hw, ?_⟩, fun t ht => ⟨k10 z _ t ht (ht2 t ht).1, ?_⟩⟩
    · unfold upd; rw [if_neg (by omega), g]
    · obtain ⟨r, a, b⟩ := (ht2 t ht).2
      exact ⟨r, by omega, by unfold upd; rw [if_neg (by omega), b]⟩
  · rw [if_neg g]
    have hy : ∀ t, t < 2 → Vt t (upd (upd (upd z (10 + w) (z (10 + w) + 1)) 2 (nI w)) 9 (-1)) := fun t ht => Vt_cong (z := upd z (10 + w) (z (10 + w) + 1)) (fun j hj => by unfold cIx at hj; unfold upd; rw [if_neg (by omega), if_neg (by omega)]) (k10 z _ t ht (ht2 t ht).1)
    have ey : ∀ t, t < 2 → (upd (upd (upd z (10 + w) (z (10 + w) + 1)) 2 (nI w)) 9 (-1)) (36 + t) = z (36 + t) := fun t ht => by unfold upd; rw [if_neg (by omega), if_neg (by omega), if_neg (by omega)]
    have e2 : (upd (upd (upd z (10 + w) (z (10 + w) + 1)) 2 (nI w)) 9 (-1)) 2 = nI w := by unfold upd; rw [if_neg (by omega), if_pos rfl]
    generalize (upd (upd (upd z (10 + w) (z (10 + w) + 1)) 2 (nI w)) 9 (-1)) = y at *
    refine ⟨⟨w, hw, by rw [vRot_oth hw (by omega) (by omega) (by omega)]; exact e2⟩, fun t ht => ?_⟩
    by_cases q : t = w
    · subst q
      refine ⟨Vt_rot ht (hy t ht), ?_⟩
      obtain ⟨r, a, b⟩ := (ht2 t ht).2
      refine ⟨r + 1, by omega, ?_⟩
      have e : vRotS t y (36 + t) = nI (r + 1) := by unfold vRotS; rw [if_neg (by omega), if_neg (by omega), if_pos rfl, ey t ht, b, nI_1]
      unfold vRot
      by_cases k : y (28 + t) ≠ -1 ∧ y (18 + 6 * t) = y (26 + t)
      · rw [if_pos k]; unfold upd; rw [if_neg (by omega), if_neg (by omega), e]
      · rw [if_neg k, e]
    · obtain rfl : t = 1 - w := by omega
      refine ⟨Vt_cong (fun j hj => ?_) (hy (1 - w) ht), ?_⟩
      · unfold cIx at hj
        exact vRot_oth hw (by omega) (by omega) (by omega)
      · obtain ⟨r, a, b⟩ := (ht2 (1 - w) ht).2
        exact ⟨r, by omega, by rw [vRot_oth hw (by omega) (by omega) (by omega), ey _ ht, b]⟩
