/-! what holds after every call; the calls that ask -/
def KEPT (n : Nat) (σ : gSt) : Prop := ∃ L, L ≤ 15 + n ∧ σ 0 5 = nI L ∧ CO 8 n σ (σ 30) ∧ (∀ t, t < 2 → σ (8 + 1 + 3 * t) 9 = 0) ∧ σ 30 0 = 1 ∧ σ 30 38 = σ 29 38 ∧ σ 30 39 = σ 29 39 ∧ Rdg (σ 17) L (RR (σ 30)) ∧ ∃ s, s < 2 ∧ σ 29 40 = nI s
def BTW (σ : gSt) : Prop := σ 29 1 = 0 ∧ σ 15 0 = 0 ∧ ∀ t, t < 2 → σ (1 + 1 + 3 * t) 9 = σ 29 (30 + t)
def RLY (σ : gSt) : Prop := σ 29 1 = 1 ∧ σ 15 0 = 1 ∧ σ 15 1 = σ 29 4 ∧ σ 15 2 = σ 29 5 ∧ σ 15 4 = σ 29 7 ∧ ((σ 29 8 = 1 ∧ σ 15 3 = -1 ∧ σ 29 4 = σ 29 2) ∨ (σ 29 8 = 0 ∧ σ 15 3 = σ 29 6 ∧ σ 29 6 ≠ -1)) ∧ σ 29 41 = 0 ∧ (∀ t, t < 2 → σ (1 + 1 + 3 * t) 9 = 0) ∧ ∃ s, s < 2 ∧ σ 29 4 = nI s
def ON (n L : Nat) (σ : gSt) : Prop := σ 29 0 = 1 ∧ CO 1 n σ (σ 29) ∧ Rdg (σ 17) L (RR (σ 29)) ∧ (BTW σ ∨ RLY σ)
def ORD (z : vRow) : Prop := ∀ t, t < 2 → (z (26 + t) = -1 ∨ ∃ s, 1 ≤ s ∧ s ≤ 20 ∧ z (26 + t) = nI s) ∧ ∀ p, 1 ≤ p → p ≤ 6 → (pRow t z p = -1 ∨ ∃ s, 1 ≤ s ∧ s ≤ 20 ∧ pRow t z p = nI s)
def OFF (L : Nat) (σ : gSt) : Prop := σ 29 0 = 0 ∧ σ 29 1 = 0 ∧ σ 15 0 = 0 ∧ CX 1 σ (σ 29) ∧ ORD (σ 29) ∧ ((L = 0 ∧ σ 20 4 = 0 ∧ σ 23 4 = 0 ∧ σ 29 10 = 0 ∧ σ 29 11 = 0 ∧ ∀ j, j < 12 → σ 29 (80 + j) = 0) ∨ ∃ z, Rdg (σ 17) L (RR z) ∧ z 10 = σ 29 10 ∧ z 11 = σ 29 11 ∧ ∀ j, j < 12 → z (80 + j) = σ 29 (80 + j))
def INV (n : Nat) (σ : gSt) : Prop := σ 0 7 = σ 29 3 ∧ (σ 15 5 = σ 29 38 ∧ (σ 29 38 = 0 ∨ σ 29 38 = 1)) ∧ (σ 15 6 = σ 29 39 ∧ (σ 29 39 = 0 ∨ σ 29 39 = 1)) ∧ ((σ 29 41 = 0 ∧ σ 0 6 = -1) ∨ (σ 29 41 = 1 ∧ σ 0 6 = σ 29 40 ∧ KEPT n σ)) ∧ ∃ L, L ≤ 15 + n ∧ σ 16 1 = nI L ∧ (ON n L σ ∨ OFF L σ)
theorem INV_same {n : Nat} {σ σ' : gSt} (h : INV n σ) (h1 : ∀ k, k < 18 → σ' k = σ k) (h29 : σ' 29 = σ 29) (h30 : σ' 30 = σ 30) (hz : σ 20 4 = 0 → σ 23 4 = 0 → σ 29 10 = 0 → σ 29 11 = 0 → σ' 20 4 = 0 ∧ σ' 23 4 = 0) : INV (n + 1) σ' := by
  obtain ⟨a1, a2, a3, a4, L, a5, a6, a7⟩ := h
  refine ⟨by rw [h1 0 (by decide), h29]; exact a1, by rw [h1 15 (by decide), h29]; exact a2, by rw [h1 15 (by decide), h29]; exact a3, ?_, L, by omega, by rw [h1 16 (by decide)]; exact a6, ?_⟩
  · rcases a4 with b | ⟨b1, b2, M, c1, c2, c3, c4, c5, c6, c7, c8, c9⟩
    · exact Or.inl (by rw [h1 0 (by decide), h29]; exact b)
    · refine Or.inr ⟨by rw [h29]; exact b1, by rw [h1 0 (by decide), h29]; exact b2, M, by omega, by rw [h1 0 (by decide)]; exact c2, ?_, fun t ht => ?_, by rw [h30]; exact c5, by rw [h29, h30]; exact c6, by rw [h29, h30]; exact c7, by rw [h1 17 (by decide), h30]; exact c8, by rw [h29]; exact c9⟩
      · rw [h30]
        exact CO_keep (c3.mono (by omega)) (fun i x y => h1 i (by omega)) (fun _ _ => rfl)
      · rw [h1 _ (by omega)]; exact c4 t ht
  · rcases a7 with ⟨b1, b2, b3, b4⟩ | ⟨b1, b2, b3, b4, b5, b6⟩
    · refine Or.inl ⟨by rw [h29]; exact b1, ?_, by rw [h1 17 (by decide), h29]; exact b3, ?_⟩
      · rw [h29]
        exact CO_keep (b2.mono (by omega)) (fun i x y => h1 i (by omega)) (fun _ _ => rfl)
      · rcases b4 with ⟨c1, c2, c3⟩ | ⟨c1, c2, c3, c4, c5, c6, c7, c8, c9⟩
        · exact Or.inl ⟨by rw [h29]; exact c1, by rw [h1 15 (by decide)]; exact c2, fun t ht => by rw [h1 _ (by omega), h29]; exact c3 t ht⟩
        · exact Or.inr ⟨by rw [h29]; exact c1, by rw [h1 15 (by decide)]; exact c2, by rw [h1 15 (by decide), h29]; exact c3, by rw [h1 15 (by decide), h29]; exact c4, by rw [h1 15 (by decide), h29]; exact c5, by rw [h1 15 (by decide), h29]; exact c6, by rw [h29]; exact c7, fun t ht => by rw [h1 _ (by omega)]; exact c8 t ht, by rw [h29]; exact c9⟩
    · refine Or.inr ⟨by rw [h29]; exact b1, by rw [h29]; exact b2, by rw [h1 15 (by decide)]; exact b3, ?_, by rw [h29]; exact b5, ?_⟩
      · rw [h29]
        refine ⟨by rw [h1 1 (by decide)]; exact b4.1, by rw [h1 1 (by decide)]; exact b4.2.1, fun t ht => ?_⟩
        obtain ⟨d1, d2, d3⟩ := b4.2.2 t ht
        exact ⟨SR_keep d1 (h1 _ (by omega)) (h1 _ (by omega)) (fun _ _ => rfl), SX_keep d2 (by rw [h1 _ (by omega)]) (by rw [h1 _ (by omega)]) (by rw [h1 _ (by omega)]) rfl rfl rfl, d3⟩
      · rw [h29, h1 17 (by decide)]
        rcases b6 with ⟨d1, d2, d3, d4, d5, d6⟩ | d
        · obtain ⟨e1, e2⟩ := hz d2 d3 d4 d5
          exact Or.inl ⟨d1, e1, e2, d4, d5, d6⟩
        · exact Or.inr d
/-- only the thrown word and the law's out are written -/
theorem INV_q {n : Nat} {σ : gSt} {r r' : vRow} (h : INV n σ) : INV (n + 1) (gs (gs σ 31 r) 28 r') :=
  INV_same h (fun k hk => by rw [gs_n (by omega), gs_n (by omega)]) (by rw [gs_n (by decide), gs_n (by decide)]) (by rw [gs_n (by decide), gs_n (by decide)]) (fun a b _ _ => by rw [gs_n (by decide), gs_n (by decide), gs_n (by decide), gs_n (by decide)]; exact ⟨a, b⟩)
theorem INV_t {n : Nat} {σ : gSt} {r' : vRow} (h : INV n σ) : INV (n + 1) (gs σ 28 r') :=
  INV_same h (fun k hk => by rw [gs_n (by omega)]) (by rw [gs_n (by decide)]) (by rw [gs_n (by decide)]) (fun a b _ _ => by rw [gs_n (by decide), gs_n (by decide)]; exact ⟨a, b⟩)
theorem INV_side {n : Nat} {σ : gSt} (h : INV n σ) : ∀ t, t < 2 → SR (1 + 1 + 3 * t) t σ (σ 29) ∧ SX (1 + 1 + 3 * t) t σ (σ 29) := by
  obtain ⟨_, _, _, _, L, _, _, h7⟩ := h
  intro t ht
  rcases h7 with h7 | h7
  · exact ⟨h7.2.1.1.2.2 t ht, (h7.2.1.2.2 t ht).1⟩
  · exact ⟨(h7.2.2.2.1.2.2 t ht).1, (h7.2.2.2.1.2.2 t ht).2.1⟩
/-- the shape of a case of the law -/
def sh1 (X : Option (Int32 × gSt)) (M : gSt → Option (Int32 × gSt)) : Option (Int32 × gSt) := gbi X fun k1 σ2 => gbi (M σ2) fun b3 σ4 => gbi (F_Model_thrown σ4) fun b5 σ6 => if b5 = k1 then (if k1 = (0 : Int32) then (if (σ6 31 0) = b3 then (some ((1 : Int32), σ6)) else (some ((0 : Int32), σ6))) else (some ((1 : Int32), σ6))) else (some ((0 : Int32), σ6))
theorem sh1_bad {X : Option (Int32 × gSt)} {M : gSt → Option (Int32 × gSt)} {c b : Int32} {σ1 : gSt} (h : X = some (c, σ1)) (hc : c ≠ 0) (hm : M σ1 = some (b, gs σ1 28 (upd (σ1 28) 2 c))) : sh1 X M = some ((1 : Int32), gs σ1 28 (upd (σ1 28) 2 c)) := by
  unfold sh1 F_Model_thrown
  rw [h, gbi_some, hm, gbi_some, gbi_some, gs_s, if_pos (by unfold upd; rw [if_pos rfl]), if_neg hc]
theorem sh1_ok {X : Option (Int32 × gSt)} {M : gSt → Option (Int32 × gSt)} {v : Int32} {σ1 σ2 : gSt} (h : X = some ((0 : Int32), σ1)) (hm : M σ1 = some (v, σ2)) (h28 : σ2 28 2 = 0) (h31 : σ2 31 0 = v) : sh1 X M = some ((1 : Int32), σ2) := by
  unfold sh1 F_Model_thrown
  rw [h, gbi_some, hm, gbi_some, gbi_some, h28, if_pos rfl, if_pos rfl, if_pos h31]
def sh2 (X : Option (Int32 × gSt)) (M : gSt → Option (Int32 × gSt)) : Option (Int32 × gSt) := gbi X fun k1 σ2 => gbi (M σ2) fun b3 σ4 => gbi (F_Model_thrown σ4) fun b5 σ6 => if b5 = k1 then (if k1 = (0 : Int32) then (if b3 = (0 : Int32) then (if (σ6 31 0) = (0 : Int32) then (some ((1 : Int32), σ6)) else (some ((0 : Int32), σ6))) else (if (σ6 31 0) = (1 : Int32) then (some ((1 : Int32), σ6)) else (some ((0 : Int32), σ6)))) else (some ((1 : Int32), σ6))) else (some ((0 : Int32), σ6))
theorem sh2_bad {X : Option (Int32 × gSt)} {M : gSt → Option (Int32 × gSt)} {c b : Int32} {σ1 : gSt} (h : X = some (c, σ1)) (hc : c ≠ 0) (hm : M σ1 = some (b, gs σ1 28 (upd (σ1 28) 2 c))) : sh2 X M = some ((1 : Int32), gs σ1 28 (upd (σ1 28) 2 c)) := by
  unfold sh2 F_Model_thrown
  rw [h, gbi_some, hm, gbi_some, gbi_some, gs_s, if_pos (by unfold upd; rw [if_pos rfl]), if_neg hc]
theorem sh2_ok {X : Option (Int32 × gSt)} {M : gSt → Option (Int32 × gSt)} {v : Int32} {σ1 σ2 : gSt} (h : X = some ((0 : Int32), σ1)) (hm : M σ1 = some (v, σ2)) (h28 : σ2 28 2 = 0) (h31 : σ2 31 0 = v) (hv : v = 0 ∨ v = 1) : sh2 X M = some ((1 : Int32), σ2) := by
  unfold sh2 F_Model_thrown
  rw [h, gbi_some, hm, gbi_some, gbi_some, h28, if_pos rfl, if_pos rfl]
  rcases hv with rfl | rfl
  · rw [if_pos rfl, if_pos h31]
  · rw [if_neg (by decide), if_pos h31]
theorem gbh_ok {ρ : Type} {v : Int32} {q : gSt} {K Kx : Int32 → gSt → Option ρ} : gbh (some ((0 : Int32), v, q)) K Kx = K v q := rfl
theorem gbh_ex {ρ : Type} {c v : Int32} {q : gSt} {K Kx : Int32 → gSt → Option ρ} (h : c ≠ 0) : gbh (some (c, v, q)) K Kx = Kx c q := if_neg h
theorem e31 {σ : gSt} {v : Int32} {r r' : vRow} (hr : r 0 = v) : gs (gs σ 31 r) 28 r' 31 0 = v := by rw [gs_n (by decide), gs_s, hr]
theorem st_points {n : Nat} {σ : gSt} {v : Int32} (h : INV n σ) : ∃ σ', F_case_points v σ = some ((1 : Int32), σ') ∧ INV (n + 1) σ' := by
  show ∃ σ', sh1 (F_Law_points v σ) (F_Model_points v) = some ((1 : Int32), σ') ∧ INV (n + 1) σ'
  rcases team_or v with ⟨t, ht, rfl⟩ | ⟨c1, c2⟩
  · have e10 : (10 : Int32) + nI t = nI (10 + t) := nI_add 10 t
    have hL : F_Law_points (nI t) σ = some ((0 : Int32), gs σ 31 (upd (σ 31) 0 (σ (1 + 1 + 3 * t) 4))) := by
      unfold F_Law_points F_Game_points
      rw [team_c ht, gbx_ok, p_sideOf ht, gbr_some, gbh_ok, gl_eq, gs_up]
    have hM : ∀ τ, F_Model_points (nI t) τ = some (τ 29 (10 + t), gs τ 28 (upd (τ 28) 2 0)) := fun τ => by
      unfold F_Model_points F_Model_points_B13
      rw [team_m ht, gbi_some, if_neg (by decide), m_goes0, gbi_some, if_neg (by decide), gif e10 (by omega), gcl e10 (by omega), gs_n (by decide)]
    refine ⟨_, sh1_ok hL (hM _) ?_ ?_, INV_q h⟩
    · rw [gs_s]; unfold upd; rw [if_pos rfl]
    · rw [gs_n (by decide), gs_s, gs_n (by decide)]
      unfold upd
      rw [if_pos rfl]
      exact ((INV_side h t ht).1).2.2.1
  · have hL : F_Law_points v σ = some ((1 : Int32), σ) := by
      unfold F_Law_points F_Game_points
      rw [c1, gbx_ex (by decide), gbh_ex (by decide), if_pos rfl]
    refine ⟨_, sh1_bad (b := 0) hL (by decide) ?_, INV_t h⟩
    unfold F_Model_points F_Model_points_B13
    rw [c2, gbi_some, if_pos rfl, m_goesN _ (by decide), gbi_some, if_pos rfl]
theorem st_sets {n : Nat} {σ : gSt} {v : Int32} (h : INV n σ) : ∃ σ', F_case_sets v σ = some ((1 : Int32), σ') ∧ INV (n + 1) σ' := by
  show ∃ σ', sh1 (F_Law_sets v σ) (F_Model_sets v) = some ((1 : Int32), σ') ∧ INV (n + 1) σ'
  rcases team_or v with ⟨t, ht, rfl⟩ | ⟨c1, c2⟩
  · have e10 : (12 : Int32) + nI t = nI (12 + t) := nI_add 12 t
    have hL : F_Law_sets (nI t) σ = some ((0 : Int32), gs σ 31 (upd (σ 31) 0 (σ (1 + 1 + 3 * t) 5))) := by
      unfold F_Law_sets F_Game_sets
      rw [team_c ht, gbx_ok, p_sideOf ht, gbr_some, gbh_ok, gl_eq, gs_up]
    have hM : ∀ τ, F_Model_sets (nI t) τ = some (τ 29 (12 + t), gs τ 28 (upd (τ 28) 2 0)) := fun τ => by
      unfold F_Model_sets F_Model_sets_B13
      rw [team_m ht, gbi_some, if_neg (by decide), m_goes0, gbi_some, if_neg (by decide), gif e10 (by omega), gcl e10 (by omega), gs_n (by decide)]
    refine ⟨_, sh1_ok hL (hM _) ?_ ?_, INV_q h⟩
    · rw [gs_s]; unfold upd; rw [if_pos rfl]
    · rw [gs_n (by decide), gs_s, gs_n (by decide)]
      unfold upd
      rw [if_pos rfl]
      exact ((INV_side h t ht).2).1
  · have hL : F_Law_sets v σ = some ((1 : Int32), σ) := by
      unfold F_Law_sets F_Game_sets
      rw [c1, gbx_ex (by decide), gbh_ex (by decide), if_pos rfl]
    refine ⟨_, sh1_bad (b := 0) hL (by decide) ?_, INV_t h⟩
    unfold F_Model_sets F_Model_sets_B13
    rw [c2, gbi_some, if_pos rfl, m_goesN _ (by decide), gbi_some, if_pos rfl]
theorem m_isPlace {t q : Nat} (ht : t < 2) (hq : 1 ≤ q ∧ q ≤ 6) (τ : gSt) : F_Model_isPlace (nI t) (nI q) τ = some ((1 : Int32), τ) := by
  unfold F_Model_isPlace
  rw [team_m ht, gbi_some, if_neg (by decide), show (1 : Int32) = nI 1 from rfl, show (6 : Int32) = nI 6 from rfl, isIn_y hq (by decide), gbi_some, if_neg (by decide)]
theorem st_at {n : Nat} {σ : gSt} {v w : Int32} (h : INV n σ) : ∃ σ', F_case_at v w σ = some ((1 : Int32), σ') ∧ INV (n + 1) σ' := by
  show ∃ σ', sh1 (F_Law_at v w σ) (F_Model_at v w) = some ((1 : Int32), σ') ∧ INV (n + 1) σ'
  have bad : F_Law_at v w σ = some ((1 : Int32), σ) → (∀ τ, F_Model_isPlace v w τ = some ((0 : Int32), τ)) → ∃ σ', sh1 (F_Law_at v w σ) (F_Model_at v w) = some ((1 : Int32), σ') ∧ INV (n + 1) σ' := fun hL hP => by
    refine ⟨_, sh1_bad (b := 0) hL (by decide) ?_, INV_t h⟩
    unfold F_Model_at F_Model_at_B14
    rw [hP, gbi_some, if_pos rfl, m_goesN _ (by decide), gbi_some, if_pos rfl]
  rcases team_or v with ⟨t, ht, rfl⟩ | ⟨c1, c2⟩
  · rcases place_or w with ⟨q, q1, q2, rfl⟩ | ⟨c1, c2⟩
    · have hL : F_Law_at (nI t) (nI q) σ = some ((0 : Int32), gs σ 31 (upd (σ 31) 0 (σ (1 + 1 + 3 * t + 1) q))) := by
        unfold F_Law_at F_Game_at
        rw [team_c ht, gbx_ok, place_c ⟨q1, q2⟩, gbx_ok, p_sideOf ht, gbr_some, p_shirtIn (gSideOf gc1 ht) σ (by omega), gbi_some, gbh_ok, gl_eq, gs_up]
      have hM : ∀ τ, F_Model_at (nI t) (nI q) τ = some (τ 29 (13 + 6 * t + q), gs τ 28 (upd (τ 28) 2 0)) := fun τ => by
        unfold F_Model_at F_Model_at_B14
        rw [m_isPlace ht ⟨q1, q2⟩, gbi_some, if_neg (by decide), m_goes0, gbi_some, if_neg (by decide), m_slot ht (by omega), gbi_some, gif rfl (by omega), gcl rfl (by omega), gs_n (by decide)]
      refine ⟨_, sh1_ok hL (hM _) ?_ ?_, INV_q h⟩
      · rw [gs_s]; unfold upd; rw [if_pos rfl]
      · rw [gs_n (by decide), gs_s, gs_n (by decide)]
        unfold upd
        rw [if_pos rfl]
        exact ((INV_side h t ht).1).2.2.2.2 q q1 q2
    · refine bad ?_ (fun τ => ?_)
      · unfold F_Law_at F_Game_at
        rw [team_c ht, gbx_ok, c1, gbx_ex (by decide), gbh_ex (by decide), if_pos rfl]
      · unfold F_Model_isPlace
        rw [team_m ht, gbi_some, if_neg (by decide), c2, gbi_some, if_pos rfl]
  · refine bad ?_ (fun τ => ?_)
    · unfold F_Law_at F_Game_at
      rw [c1, gbx_ex (by decide), gbh_ex (by decide), if_pos rfl]
    · unfold F_Model_isPlace
      rw [c2, gbi_some, if_pos rfl]
