/-! the first world, and what the class answers there -/
def nS0 : gSt := fun k => match k with
  | 1 => fun j => match j with | 2 => -1 | 3 => -1 | _ => 0
  | 8 => fun j => match j with | 2 => -1 | 3 => -1 | _ => 0
  | 19 => fun j => match j with | 2 => -1 | 3 => -1 | _ => 0
  | 2 => fun j => match j with | 2 => -1 | 3 => -1 | 8 => 2 | _ => 0
  | 5 => fun j => match j with | 2 => -1 | 3 => -1 | 8 => 2 | _ => 0
  | 9 => fun j => match j with | 2 => -1 | 3 => -1 | 8 => 2 | _ => 0
  | 12 => fun j => match j with | 2 => -1 | 3 => -1 | 8 => 2 | _ => 0
  | 20 => fun j => match j with | 2 => -1 | 3 => -1 | 8 => 2 | _ => 0
  | 23 => fun j => match j with | 2 => -1 | 3 => -1 | 8 => 2 | _ => 0
  | 3 => kRow1
  | 6 => kRow1
  | 10 => kRow1
  | 13 => kRow1
  | 21 => kRow1
  | 24 => kRow1
  | 0 => fun j => match j with | 6 => -1 | _ => 0
  | _ => fun _ => 0
theorem gup_id {σ : gSt} {k j : Nat} {v : Int32} (h : σ k j = v) : gup σ k j v = σ := by
  funext k' j'
  unfold gup
  by_cases g : k' = k ∧ j' = j
  · rw [if_pos g, g.1, g.2, h]
  · rw [if_neg g]
theorem z_putIn {a j : Nat} {p v : Int32} (h1 : ¬ p < 0) (h2 : ¬ nI (gLn a) ≤ p) (h3 : ¬ (p < 0 ∨ gLn a ≤ p.toNatClampNeg)) (h4 : p.toNatClampNeg = j) (h5 : nS0 a j = v) : F_Game_putIn a p v nS0 = some nS0 := by
  unfold F_Game_putIn
  rw [if_neg h1, if_neg h2, if_neg h3, h4, gup_id h5]
  rfl
theorem z_put {k : Nat} {p v : Int32} (h : F_Game_putIn (k + 1) p v nS0 = some nS0) : F_Side_put k p v nS0 = some nS0 := by
  unfold F_Side_put
  rw [h]
  rfl
theorem z_cs {k n : Nat} {l l2 : Int32} (h : ¬ (6 : Int32) < l) (hp : F_Side_put k l (-1) nS0 = some nS0) (e : l + 1 = l2) (hk : F_Side_clearOrder_B2 k n l2 nS0 = some nS0) : F_Side_clearOrder_B2 k (n + 1) l nS0 = some nS0 := by
  show (if (6 : Int32) < l then _ else (gbv (F_Side_put k l (-1 : Int32) nS0) fun σ4 => F_Side_clearOrder_B2 k n (l + (1 : Int32)) σ4)) = _
  rw [if_neg h, hp, e]
  exact hk
theorem z_ce {k n : Nat} {l : Int32} (h : (6 : Int32) < l) (h2 : nS0 k 2 = -1) (h3 : nS0 k 3 = -1) : F_Side_clearOrder_B2 k (n + 1) l nS0 = some nS0 := by
  show (if (6 : Int32) < l then (gl (gup nS0 k 2 (-1 : Int32)) fun σ2 => gl (gup σ2 k 3 (-1 : Int32)) fun σ3 => some σ3) else _) = _
  rw [if_pos h, gup_id h2]
  show some (gup nS0 k 3 (-1 : Int32)) = _
  rw [gup_id h3]
theorem z_clearOrder {k : Nat} (h0 : k = 20 ∨ k = 23) : F_Side_clearOrder k nS0 = some nS0 := by
  unfold F_Side_clearOrder
  have hp : ∀ j : Nat, 1 ≤ j → j ≤ 6 → F_Side_put k (nI j) (-1) nS0 = some nS0 := by
    intro j j1 j2
    have key : ∀ j, j < 7 → 1 ≤ j → (¬ nI j < 0 ∧ ¬ nI 7 ≤ nI j ∧ ¬ (nI j < 0 ∨ 7 ≤ (nI j).toNatClampNeg) ∧ (nI j).toNatClampNeg = j) ∧ kRow1 j = -1 := by decide
    obtain ⟨⟨q1, q2, q3, q4⟩, q5⟩ := key j (by omega) j1
    rcases h0 with rfl | rfl
    · exact z_put (z_putIn (a := 21) (j := j) q1 q2 q3 q4 q5)
    · exact z_put (z_putIn (a := 24) (j := j) q1 q2 q3 q4 q5)
  have h2 : nS0 k 2 = -1 := by rcases h0 with rfl | rfl <;> rfl
  have h3 : nS0 k 3 = -1 := by rcases h0 with rfl | rfl <;> rfl
  exact z_cs (n := 99) (by decide) (hp 1 (by decide) (by decide)) (l2 := 2) (by decide) (z_cs (n := 98) (by decide) (hp 2 (by decide) (by decide)) (l2 := 3) (by decide) (z_cs (n := 97) (by decide) (hp 3 (by decide) (by decide)) (l2 := 4) (by decide) (z_cs (n := 96) (by decide) (hp 4 (by decide) (by decide)) (l2 := 5) (by decide) (z_cs (n := 95) (by decide) (hp 5 (by decide) (by decide)) (l2 := 6) (by decide) (z_cs (n := 94) (by decide) (hp 6 (by decide) (by decide)) (l2 := 7) (by decide) (z_ce (n := 93) (by decide) h2 h3))))))
theorem z_rs {n : Nat} {l l2 : Int32} (h : ¬ (6 : Int32) ≤ l) (h1 : F_Game_putIn 26 l 0 nS0 = some nS0) (h2 : F_Game_putIn 27 l 0 nS0 = some nS0) (e : l + 1 = l2) (hk : F_Reader_clear_B22 n l2 nS0 = some nS0) : F_Reader_clear_B22 (n + 1) l nS0 = some nS0 := by
  show (if (6 : Int32) ≤ l then _ else (gbv (F_Game_putIn 26 l (0 : Int32) nS0) fun σ2 => gbv (F_Game_putIn 27 l (0 : Int32) σ2) fun σ3 => F_Reader_clear_B22 n (l + (1 : Int32)) σ3)) = _
  rw [if_neg h, h1]
  show (gbv (F_Game_putIn 27 l (0 : Int32) nS0) fun σ3 => F_Reader_clear_B22 n (l + (1 : Int32)) σ3) = _
  rw [h2, e]
  exact hk
theorem z_re {n : Nat} {l : Int32} (h : (6 : Int32) ≤ l) : F_Reader_clear_B22 (n + 1) l nS0 = some nS0 := by
  show (if (6 : Int32) ≤ l then some nS0 else _) = _
  exact if_pos h
theorem z_p26 (j : Nat) (hj : j < 6) : F_Game_putIn 26 (nI j) 0 nS0 = some nS0 ∧ F_Game_putIn 27 (nI j) 0 nS0 = some nS0 := by
  have key : ∀ j, j < 6 → (¬ nI j < 0 ∧ ¬ nI 6 ≤ nI j ∧ ¬ (nI j < 0 ∨ 6 ≤ (nI j).toNatClampNeg) ∧ (nI j).toNatClampNeg = j) := by decide
  obtain ⟨q1, q2, q3, q4⟩ := key j hj
  exact ⟨z_putIn (a := 26) (j := j) q1 q2 q3 q4 rfl, z_putIn (a := 27) (j := j) q1 q2 q3 q4 rfl⟩
theorem z_clear : F_Reader_clear nS0 = some nS0 := by
  unfold F_Reader_clear
  rw [z_clearOrder (Or.inl rfl)]
  show (gbv (F_Side_clearOrder 23 nS0) fun σ2 => F_Reader_clear_B22 100 (0 : Int32) σ2) = _
  rw [z_clearOrder (Or.inr rfl)]
  exact z_rs (n := 99) (by decide) (z_p26 0 (by decide)).1 (z_p26 0 (by decide)).2 (l2 := 1) (by decide) (z_rs (n := 98) (by decide) (z_p26 1 (by decide)).1 (z_p26 1 (by decide)).2 (l2 := 2) (by decide) (z_rs (n := 97) (by decide) (z_p26 2 (by decide)).1 (z_p26 2 (by decide)).2 (l2 := 3) (by decide) (z_rs (n := 96) (by decide) (z_p26 3 (by decide)).1 (z_p26 3 (by decide)).2 (l2 := 4) (by decide) (z_rs (n := 95) (by decide) (z_p26 4 (by decide)).1 (z_p26 4 (by decide)).2 (l2 := 5) (by decide) (z_rs (n := 94) (by decide) (z_p26 5 (by decide)).1 (z_p26 5 (by decide)).2 (l2 := 6) (by decide) (z_re (n := 93) (by decide)))))))
theorem z_rb {n : Nat} {l : Int32} (h : nS0 16 1 ≤ l) : F_Reader_read_B6 (n + 1) l nS0 = some nS0 := by
  show (if nS0 16 1 ≤ l then some nS0 else _) = _
  exact if_pos h
theorem z_read : F_Reader_read nS0 = some nS0 := by
  unfold F_Reader_read
  rw [z_clear]
  exact z_rb (n := 999) (by decide)
theorem zf_about_0 : F_Game_about (0 : Int32) nS0 = some ((0 : Int32), (0 : Int32), nS0) := rfl
theorem zf_about_1 : F_Game_about (1 : Int32) nS0 = some ((0 : Int32), (0 : Int32), nS0) := rfl
theorem zf_about_2 : F_Game_about (2 : Int32) nS0 = some ((0 : Int32), (-1 : Int32), nS0) := rfl
theorem zf_about_3 : F_Game_about (3 : Int32) nS0 = some ((0 : Int32), (0 : Int32), nS0) := rfl
theorem zf_about_4 : F_Game_about (4 : Int32) nS0 = some ((0 : Int32), (-1 : Int32), nS0) := rfl
theorem zf_at_0_1 : F_Game_at (0 : Int32) (1 : Int32) nS0 = some ((0 : Int32), (-1 : Int32), nS0) := rfl
theorem zf_at_0_2 : F_Game_at (0 : Int32) (2 : Int32) nS0 = some ((0 : Int32), (-1 : Int32), nS0) := rfl
theorem zf_at_0_3 : F_Game_at (0 : Int32) (3 : Int32) nS0 = some ((0 : Int32), (-1 : Int32), nS0) := rfl
theorem zf_at_0_4 : F_Game_at (0 : Int32) (4 : Int32) nS0 = some ((0 : Int32), (-1 : Int32), nS0) := rfl
theorem zf_at_0_5 : F_Game_at (0 : Int32) (5 : Int32) nS0 = some ((0 : Int32), (-1 : Int32), nS0) := rfl
theorem zf_at_0_6 : F_Game_at (0 : Int32) (6 : Int32) nS0 = some ((0 : Int32), (-1 : Int32), nS0) := rfl
theorem zf_at_1_1 : F_Game_at (1 : Int32) (1 : Int32) nS0 = some ((0 : Int32), (-1 : Int32), nS0) := rfl
theorem zf_at_1_2 : F_Game_at (1 : Int32) (2 : Int32) nS0 = some ((0 : Int32), (-1 : Int32), nS0) := rfl
theorem zf_at_1_3 : F_Game_at (1 : Int32) (3 : Int32) nS0 = some ((0 : Int32), (-1 : Int32), nS0) := rfl
theorem zf_at_1_4 : F_Game_at (1 : Int32) (4 : Int32) nS0 = some ((0 : Int32), (-1 : Int32), nS0) := rfl
theorem zf_at_1_5 : F_Game_at (1 : Int32) (5 : Int32) nS0 = some ((0 : Int32), (-1 : Int32), nS0) := rfl
theorem zf_at_1_6 : F_Game_at (1 : Int32) (6 : Int32) nS0 = some ((0 : Int32), (-1 : Int32), nS0) := rfl
theorem zf_points_0 : F_Game_points (0 : Int32) nS0 = some ((0 : Int32), (0 : Int32), nS0) := rfl
theorem zf_sets_0 : F_Game_sets (0 : Int32) nS0 = some ((0 : Int32), (0 : Int32), nS0) := rfl
theorem zf_of_0_0 : F_Game_of (0 : Int32) (0 : Int32) nS0 = some ((0 : Int32), (0 : Int32), nS0) := rfl
theorem zf_of_0_1 : F_Game_of (0 : Int32) (1 : Int32) nS0 = some ((0 : Int32), (2 : Int32), nS0) := rfl
theorem zf_points_1 : F_Game_points (1 : Int32) nS0 = some ((0 : Int32), (0 : Int32), nS0) := rfl
theorem zf_sets_1 : F_Game_sets (1 : Int32) nS0 = some ((0 : Int32), (0 : Int32), nS0) := rfl
theorem zf_of_1_0 : F_Game_of (1 : Int32) (0 : Int32) nS0 = some ((0 : Int32), (0 : Int32), nS0) := rfl
theorem zf_of_1_1 : F_Game_of (1 : Int32) (1 : Int32) nS0 = some ((0 : Int32), (2 : Int32), nS0) := rfl
theorem zf_atAnew_0_1 : F_Game_atAnew (0 : Int32) (1 : Int32) nS0 = some ((0 : Int32), (-1 : Int32), nS0) := rfl
theorem zf_atAnew_0_2 : F_Game_atAnew (0 : Int32) (2 : Int32) nS0 = some ((0 : Int32), (-1 : Int32), nS0) := rfl
theorem zf_atAnew_0_3 : F_Game_atAnew (0 : Int32) (3 : Int32) nS0 = some ((0 : Int32), (-1 : Int32), nS0) := rfl
theorem zf_atAnew_0_4 : F_Game_atAnew (0 : Int32) (4 : Int32) nS0 = some ((0 : Int32), (-1 : Int32), nS0) := rfl
theorem zf_atAnew_0_5 : F_Game_atAnew (0 : Int32) (5 : Int32) nS0 = some ((0 : Int32), (-1 : Int32), nS0) := rfl
theorem zf_atAnew_0_6 : F_Game_atAnew (0 : Int32) (6 : Int32) nS0 = some ((0 : Int32), (-1 : Int32), nS0) := rfl
theorem zf_lost_0_0 : F_Game_lost (0 : Int32) (0 : Int32) nS0 = some ((0 : Int32), (0 : Int32), nS0) := by
  rw [show F_Game_lost (0 : Int32) (0 : Int32) nS0 = gbv (F_Reader_read nS0) (fun σ4 => gbi (F_Reader_lostBy (0 : Int32) (0 : Int32) σ4) fun r6 σ5 => some ((0 : Int32), r6, σ5)) from rfl, z_read]
  rfl
theorem zf_lost_0_1 : F_Game_lost (0 : Int32) (1 : Int32) nS0 = some ((0 : Int32), (0 : Int32), nS0) := by
  rw [show F_Game_lost (0 : Int32) (1 : Int32) nS0 = gbv (F_Reader_read nS0) (fun σ4 => gbi (F_Reader_lostBy (0 : Int32) (1 : Int32) σ4) fun r6 σ5 => some ((0 : Int32), r6, σ5)) from rfl, z_read]
  rfl
theorem zf_lost_0_2 : F_Game_lost (0 : Int32) (2 : Int32) nS0 = some ((0 : Int32), (0 : Int32), nS0) := by
  rw [show F_Game_lost (0 : Int32) (2 : Int32) nS0 = gbv (F_Reader_read nS0) (fun σ4 => gbi (F_Reader_lostBy (0 : Int32) (2 : Int32) σ4) fun r6 σ5 => some ((0 : Int32), r6, σ5)) from rfl, z_read]
  rfl
theorem zf_lost_0_3 : F_Game_lost (0 : Int32) (3 : Int32) nS0 = some ((0 : Int32), (0 : Int32), nS0) := by
  rw [show F_Game_lost (0 : Int32) (3 : Int32) nS0 = gbv (F_Reader_read nS0) (fun σ4 => gbi (F_Reader_lostBy (0 : Int32) (3 : Int32) σ4) fun r6 σ5 => some ((0 : Int32), r6, σ5)) from rfl, z_read]
  rfl
theorem zf_lost_0_4 : F_Game_lost (0 : Int32) (4 : Int32) nS0 = some ((0 : Int32), (0 : Int32), nS0) := by
  rw [show F_Game_lost (0 : Int32) (4 : Int32) nS0 = gbv (F_Reader_read nS0) (fun σ4 => gbi (F_Reader_lostBy (0 : Int32) (4 : Int32) σ4) fun r6 σ5 => some ((0 : Int32), r6, σ5)) from rfl, z_read]
  rfl
theorem zf_lost_0_5 : F_Game_lost (0 : Int32) (5 : Int32) nS0 = some ((0 : Int32), (0 : Int32), nS0) := by
  rw [show F_Game_lost (0 : Int32) (5 : Int32) nS0 = gbv (F_Reader_read nS0) (fun σ4 => gbi (F_Reader_lostBy (0 : Int32) (5 : Int32) σ4) fun r6 σ5 => some ((0 : Int32), r6, σ5)) from rfl, z_read]
  rfl
theorem zf_atAnew_1_1 : F_Game_atAnew (1 : Int32) (1 : Int32) nS0 = some ((0 : Int32), (-1 : Int32), nS0) := rfl
theorem zf_atAnew_1_2 : F_Game_atAnew (1 : Int32) (2 : Int32) nS0 = some ((0 : Int32), (-1 : Int32), nS0) := rfl
theorem zf_atAnew_1_3 : F_Game_atAnew (1 : Int32) (3 : Int32) nS0 = some ((0 : Int32), (-1 : Int32), nS0) := rfl
theorem zf_atAnew_1_4 : F_Game_atAnew (1 : Int32) (4 : Int32) nS0 = some ((0 : Int32), (-1 : Int32), nS0) := rfl
theorem zf_atAnew_1_5 : F_Game_atAnew (1 : Int32) (5 : Int32) nS0 = some ((0 : Int32), (-1 : Int32), nS0) := rfl
theorem zf_atAnew_1_6 : F_Game_atAnew (1 : Int32) (6 : Int32) nS0 = some ((0 : Int32), (-1 : Int32), nS0) := rfl
theorem zf_pointsAnew_1 : F_Game_pointsAnew (1 : Int32) nS0 = some ((0 : Int32), (0 : Int32), nS0) := by
  rw [show F_Game_pointsAnew (1 : Int32) nS0 = gbv (F_Reader_read nS0) (fun σ2 => gbr (F_Court_sideOf 19 (1 : Int32) σ2) fun o4 σ3 => some ((0 : Int32), (σ3 o4 4), σ3)) from rfl, z_read]
  rfl
theorem zf_lost_1_0 : F_Game_lost (1 : Int32) (0 : Int32) nS0 = some ((0 : Int32), (0 : Int32), nS0) := by
  rw [show F_Game_lost (1 : Int32) (0 : Int32) nS0 = gbv (F_Reader_read nS0) (fun σ4 => gbi (F_Reader_lostBy (1 : Int32) (0 : Int32) σ4) fun r6 σ5 => some ((0 : Int32), r6, σ5)) from rfl, z_read]
  rfl
theorem zf_lost_1_1 : F_Game_lost (1 : Int32) (1 : Int32) nS0 = some ((0 : Int32), (0 : Int32), nS0) := by
  rw [show F_Game_lost (1 : Int32) (1 : Int32) nS0 = gbv (F_Reader_read nS0) (fun σ4 => gbi (F_Reader_lostBy (1 : Int32) (1 : Int32) σ4) fun r6 σ5 => some ((0 : Int32), r6, σ5)) from rfl, z_read]
  rfl
theorem zf_lost_1_2 : F_Game_lost (1 : Int32) (2 : Int32) nS0 = some ((0 : Int32), (0 : Int32), nS0) := by
  rw [show F_Game_lost (1 : Int32) (2 : Int32) nS0 = gbv (F_Reader_read nS0) (fun σ4 => gbi (F_Reader_lostBy (1 : Int32) (2 : Int32) σ4) fun r6 σ5 => some ((0 : Int32), r6, σ5)) from rfl, z_read]
  rfl
theorem zf_lost_1_3 : F_Game_lost (1 : Int32) (3 : Int32) nS0 = some ((0 : Int32), (0 : Int32), nS0) := by
  rw [show F_Game_lost (1 : Int32) (3 : Int32) nS0 = gbv (F_Reader_read nS0) (fun σ4 => gbi (F_Reader_lostBy (1 : Int32) (3 : Int32) σ4) fun r6 σ5 => some ((0 : Int32), r6, σ5)) from rfl, z_read]
  rfl
theorem zf_lost_1_4 : F_Game_lost (1 : Int32) (4 : Int32) nS0 = some ((0 : Int32), (0 : Int32), nS0) := by
  rw [show F_Game_lost (1 : Int32) (4 : Int32) nS0 = gbv (F_Reader_read nS0) (fun σ4 => gbi (F_Reader_lostBy (1 : Int32) (4 : Int32) σ4) fun r6 σ5 => some ((0 : Int32), r6, σ5)) from rfl, z_read]
  rfl
theorem zf_lost_1_5 : F_Game_lost (1 : Int32) (5 : Int32) nS0 = some ((0 : Int32), (0 : Int32), nS0) := by
  rw [show F_Game_lost (1 : Int32) (5 : Int32) nS0 = gbv (F_Reader_read nS0) (fun σ4 => gbi (F_Reader_lostBy (1 : Int32) (5 : Int32) σ4) fun r6 σ5 => some ((0 : Int32), r6, σ5)) from rfl, z_read]
  rfl
theorem zx_line_m1_1_1 : F_Game_line (-1 : Int32) (1 : Int32) (1 : Int32) nS0 = some ((1 : Int32), (0 : Int32), nS0) := rfl
theorem zx_line_0_0_1 : F_Game_line (0 : Int32) (0 : Int32) (1 : Int32) nS0 = some ((1 : Int32), (0 : Int32), nS0) := rfl
theorem zx_line_0_1_0 : F_Game_line (0 : Int32) (1 : Int32) (0 : Int32) nS0 = some ((1 : Int32), (0 : Int32), nS0) := rfl
theorem zx_libero_m1_1 : F_Game_libero (-1 : Int32) (1 : Int32) nS0 = some ((1 : Int32), (0 : Int32), nS0) := rfl
theorem zx_libero_0_0 : F_Game_libero (0 : Int32) (0 : Int32) nS0 = some ((1 : Int32), (0 : Int32), nS0) := rfl
theorem zx_begin_m1 : F_Game_begin (-1 : Int32) nS0 = some ((1 : Int32), (0 : Int32), nS0) := rfl
theorem zx_serve_0 : F_Game_serve (0 : Int32) nS0 = some ((1 : Int32), (0 : Int32), nS0) := rfl
theorem zx_touch_m1_1_9_0 : F_Game_touch (-1 : Int32) (1 : Int32) (9 : Int32) (0 : Int32) nS0 = some ((1 : Int32), (0 : Int32), nS0) := rfl
theorem zx_touch_0_0_9_0 : F_Game_touch (0 : Int32) (0 : Int32) (9 : Int32) (0 : Int32) nS0 = some ((1 : Int32), (0 : Int32), nS0) := rfl
theorem zx_touch_0_1_m1_0 : F_Game_touch (0 : Int32) (1 : Int32) (-1 : Int32) (0 : Int32) nS0 = some ((2 : Int32), (0 : Int32), nS0) := rfl
theorem zx_fall_m2 : F_Game_fall (-2 : Int32) nS0 = some ((1 : Int32), (0 : Int32), nS0) := rfl
theorem zx_net_m1_1 : F_Game_net (-1 : Int32) (1 : Int32) nS0 = some ((1 : Int32), (0 : Int32), nS0) := rfl
theorem zx_exchange_m1_1 : F_Game_exchange (-1 : Int32) (1 : Int32) nS0 = some ((1 : Int32), (0 : Int32), nS0) := rfl
theorem zx_exchange_0_0 : F_Game_exchange (0 : Int32) (0 : Int32) nS0 = some ((1 : Int32), (0 : Int32), nS0) := rfl
theorem zx_substitute_m1_1_2 : F_Game_substitute (-1 : Int32) (1 : Int32) (2 : Int32) nS0 = some ((1 : Int32), (0 : Int32), nS0) := rfl
theorem zx_substitute_0_0_2 : F_Game_substitute (0 : Int32) (0 : Int32) (2 : Int32) nS0 = some ((1 : Int32), (0 : Int32), nS0) := rfl
theorem zx_substitute_0_1_0 : F_Game_substitute (0 : Int32) (1 : Int32) (0 : Int32) nS0 = some ((1 : Int32), (0 : Int32), nS0) := rfl
theorem zx_challenge_m1 : F_Game_challenge (-1 : Int32) nS0 = some ((1 : Int32), (0 : Int32), nS0) := rfl
theorem zx_points_m1 : F_Game_points (-1 : Int32) nS0 = some ((1 : Int32), (0 : Int32), nS0) := rfl
theorem zx_pointsAnew_m1 : F_Game_pointsAnew (-1 : Int32) nS0 = some ((1 : Int32), (0 : Int32), nS0) := rfl
theorem zx_at_0_0 : F_Game_at (0 : Int32) (0 : Int32) nS0 = some ((1 : Int32), (0 : Int32), nS0) := rfl
theorem zx_at_m1_1 : F_Game_at (-1 : Int32) (1 : Int32) nS0 = some ((1 : Int32), (0 : Int32), nS0) := rfl
theorem zx_atAnew_0_0 : F_Game_atAnew (0 : Int32) (0 : Int32) nS0 = some ((1 : Int32), (0 : Int32), nS0) := rfl
theorem zx_about_m1 : F_Game_about (-1 : Int32) nS0 = some ((2 : Int32), (0 : Int32), nS0) := rfl
theorem zx_of_m1_9 : F_Game_of (-1 : Int32) (9 : Int32) nS0 = some ((1 : Int32), (0 : Int32), nS0) := rfl
theorem zx_of_0_m1 : F_Game_of (0 : Int32) (-1 : Int32) nS0 = some ((2 : Int32), (0 : Int32), nS0) := rfl
theorem zx_lost_m1_9 : F_Game_lost (-1 : Int32) (9 : Int32) nS0 = some ((1 : Int32), (0 : Int32), nS0) := rfl
theorem zx_lost_0_m1 : F_Game_lost (0 : Int32) (-1 : Int32) nS0 = some ((2 : Int32), (0 : Int32), nS0) := rfl
theorem zx_sets_m1 : F_Game_sets (-1 : Int32) nS0 = some ((1 : Int32), (0 : Int32), nS0) := rfl
theorem zx_serve_1 : F_Game_serve (1 : Int32) nS0 = some ((3 : Int32), (0 : Int32), nS0) := rfl
theorem zx_find : F_Game_find  nS0 = some ((3 : Int32), (0 : Int32), nS0) := rfl
theorem zx_exchange_0_1 : F_Game_exchange (0 : Int32) (1 : Int32) nS0 = some ((3 : Int32), (0 : Int32), nS0) := rfl
theorem zx_substitute_0_1_2 : F_Game_substitute (0 : Int32) (1 : Int32) (2 : Int32) nS0 = some ((3 : Int32), (0 : Int32), nS0) := rfl
theorem zx_touch_0_1_0_0 : F_Game_touch (0 : Int32) (1 : Int32) (0 : Int32) (0 : Int32) nS0 = some ((3 : Int32), (0 : Int32), nS0) := rfl
theorem zx_fall_m1 : F_Game_fall (-1 : Int32) nS0 = some ((3 : Int32), (0 : Int32), nS0) := rfl
theorem zx_net_0_1 : F_Game_net (0 : Int32) (1 : Int32) nS0 = some ((3 : Int32), (0 : Int32), nS0) := rfl
theorem zx_line_3_1_1 : F_Game_line (3 : Int32) (1 : Int32) (1 : Int32) nS0 = some ((1 : Int32), (0 : Int32), nS0) := rfl
theorem zx_line_1_8_1 : F_Game_line (1 : Int32) (8 : Int32) (1 : Int32) nS0 = some ((1 : Int32), (0 : Int32), nS0) := rfl
theorem zx_line_1_1_22 : F_Game_line (1 : Int32) (1 : Int32) (22 : Int32) nS0 = some ((1 : Int32), (0 : Int32), nS0) := rfl
theorem zx_libero_3_1 : F_Game_libero (3 : Int32) (1 : Int32) nS0 = some ((1 : Int32), (0 : Int32), nS0) := rfl
theorem zx_libero_1_22 : F_Game_libero (1 : Int32) (22 : Int32) nS0 = some ((1 : Int32), (0 : Int32), nS0) := rfl
theorem zx_begin_3 : F_Game_begin (3 : Int32) nS0 = some ((1 : Int32), (0 : Int32), nS0) := rfl
theorem zx_serve_22 : F_Game_serve (22 : Int32) nS0 = some ((1 : Int32), (0 : Int32), nS0) := rfl
theorem zx_touch_3_1_9_0 : F_Game_touch (3 : Int32) (1 : Int32) (9 : Int32) (0 : Int32) nS0 = some ((1 : Int32), (0 : Int32), nS0) := rfl
theorem zx_touch_1_22_9_0 : F_Game_touch (1 : Int32) (22 : Int32) (9 : Int32) (0 : Int32) nS0 = some ((1 : Int32), (0 : Int32), nS0) := rfl
theorem zx_touch_1_2_3_0 : F_Game_touch (1 : Int32) (2 : Int32) (3 : Int32) (0 : Int32) nS0 = some ((2 : Int32), (0 : Int32), nS0) := rfl
theorem zx_fall_2 : F_Game_fall (2 : Int32) nS0 = some ((1 : Int32), (0 : Int32), nS0) := rfl
theorem zx_net_3_1 : F_Game_net (3 : Int32) (1 : Int32) nS0 = some ((1 : Int32), (0 : Int32), nS0) := rfl
theorem zx_exchange_3_1 : F_Game_exchange (3 : Int32) (1 : Int32) nS0 = some ((1 : Int32), (0 : Int32), nS0) := rfl
theorem zx_exchange_1_22 : F_Game_exchange (1 : Int32) (22 : Int32) nS0 = some ((1 : Int32), (0 : Int32), nS0) := rfl
theorem zx_substitute_3_1_2 : F_Game_substitute (3 : Int32) (1 : Int32) (2 : Int32) nS0 = some ((1 : Int32), (0 : Int32), nS0) := rfl
theorem zx_substitute_1_22_2 : F_Game_substitute (1 : Int32) (22 : Int32) (2 : Int32) nS0 = some ((1 : Int32), (0 : Int32), nS0) := rfl
theorem zx_substitute_1_1_22 : F_Game_substitute (1 : Int32) (1 : Int32) (22 : Int32) nS0 = some ((1 : Int32), (0 : Int32), nS0) := rfl
theorem zx_challenge_3 : F_Game_challenge (3 : Int32) nS0 = some ((1 : Int32), (0 : Int32), nS0) := rfl
theorem zx_points_3 : F_Game_points (3 : Int32) nS0 = some ((1 : Int32), (0 : Int32), nS0) := rfl
theorem zx_pointsAnew_3 : F_Game_pointsAnew (3 : Int32) nS0 = some ((1 : Int32), (0 : Int32), nS0) := rfl
theorem zx_at_1_8 : F_Game_at (1 : Int32) (8 : Int32) nS0 = some ((1 : Int32), (0 : Int32), nS0) := rfl
theorem zx_at_3_1 : F_Game_at (3 : Int32) (1 : Int32) nS0 = some ((1 : Int32), (0 : Int32), nS0) := rfl
theorem zx_atAnew_1_8 : F_Game_atAnew (1 : Int32) (8 : Int32) nS0 = some ((1 : Int32), (0 : Int32), nS0) := rfl
theorem zx_about_5 : F_Game_about (5 : Int32) nS0 = some ((2 : Int32), (0 : Int32), nS0) := rfl
theorem zx_of_3_9 : F_Game_of (3 : Int32) (9 : Int32) nS0 = some ((1 : Int32), (0 : Int32), nS0) := rfl
theorem zx_of_1_3 : F_Game_of (1 : Int32) (3 : Int32) nS0 = some ((2 : Int32), (0 : Int32), nS0) := rfl
theorem zx_lost_3_9 : F_Game_lost (3 : Int32) (9 : Int32) nS0 = some ((1 : Int32), (0 : Int32), nS0) := rfl
theorem zx_lost_1_6 : F_Game_lost (1 : Int32) (6 : Int32) nS0 = some ((2 : Int32), (0 : Int32), nS0) := rfl
theorem zx_sets_3 : F_Game_sets (3 : Int32) nS0 = some ((1 : Int32), (0 : Int32), nS0) := rfl
theorem zx_serve_2 : F_Game_serve (2 : Int32) nS0 = some ((3 : Int32), (0 : Int32), nS0) := rfl
theorem zx_exchange_1_1 : F_Game_exchange (1 : Int32) (1 : Int32) nS0 = some ((3 : Int32), (0 : Int32), nS0) := rfl
theorem zx_substitute_1_1_2 : F_Game_substitute (1 : Int32) (1 : Int32) (2 : Int32) nS0 = some ((3 : Int32), (0 : Int32), nS0) := rfl
theorem zx_touch_1_2_0_0 : F_Game_touch (1 : Int32) (2 : Int32) (0 : Int32) (0 : Int32) nS0 = some ((3 : Int32), (0 : Int32), nS0) := rfl
theorem zx_fall_0 : F_Game_fall (0 : Int32) nS0 = some ((3 : Int32), (0 : Int32), nS0) := rfl
theorem zx_net_1_1 : F_Game_net (1 : Int32) (1 : Int32) nS0 = some ((3 : Int32), (0 : Int32), nS0) := rfl
theorem zx_line_9_1_1 : F_Game_line (9 : Int32) (1 : Int32) (1 : Int32) nS0 = some ((1 : Int32), (0 : Int32), nS0) := rfl
theorem zx_line_1_14_1 : F_Game_line (1 : Int32) (14 : Int32) (1 : Int32) nS0 = some ((1 : Int32), (0 : Int32), nS0) := rfl
theorem zx_line_1_1_28 : F_Game_line (1 : Int32) (1 : Int32) (28 : Int32) nS0 = some ((1 : Int32), (0 : Int32), nS0) := rfl
theorem zx_libero_9_1 : F_Game_libero (9 : Int32) (1 : Int32) nS0 = some ((1 : Int32), (0 : Int32), nS0) := rfl
theorem zx_libero_1_28 : F_Game_libero (1 : Int32) (28 : Int32) nS0 = some ((1 : Int32), (0 : Int32), nS0) := rfl
theorem zx_begin_9 : F_Game_begin (9 : Int32) nS0 = some ((1 : Int32), (0 : Int32), nS0) := rfl
theorem zx_serve_28 : F_Game_serve (28 : Int32) nS0 = some ((1 : Int32), (0 : Int32), nS0) := rfl
theorem zx_touch_9_1_9_0 : F_Game_touch (9 : Int32) (1 : Int32) (9 : Int32) (0 : Int32) nS0 = some ((1 : Int32), (0 : Int32), nS0) := rfl
theorem zx_touch_1_28_9_0 : F_Game_touch (1 : Int32) (28 : Int32) (9 : Int32) (0 : Int32) nS0 = some ((1 : Int32), (0 : Int32), nS0) := rfl
theorem zx_touch_1_8_3_0 : F_Game_touch (1 : Int32) (8 : Int32) (3 : Int32) (0 : Int32) nS0 = some ((2 : Int32), (0 : Int32), nS0) := rfl
theorem zx_net_9_1 : F_Game_net (9 : Int32) (1 : Int32) nS0 = some ((1 : Int32), (0 : Int32), nS0) := rfl
theorem zx_exchange_9_1 : F_Game_exchange (9 : Int32) (1 : Int32) nS0 = some ((1 : Int32), (0 : Int32), nS0) := rfl
theorem zx_exchange_1_28 : F_Game_exchange (1 : Int32) (28 : Int32) nS0 = some ((1 : Int32), (0 : Int32), nS0) := rfl
theorem zx_substitute_9_1_2 : F_Game_substitute (9 : Int32) (1 : Int32) (2 : Int32) nS0 = some ((1 : Int32), (0 : Int32), nS0) := rfl
theorem zx_substitute_1_28_2 : F_Game_substitute (1 : Int32) (28 : Int32) (2 : Int32) nS0 = some ((1 : Int32), (0 : Int32), nS0) := rfl
theorem zx_substitute_1_1_28 : F_Game_substitute (1 : Int32) (1 : Int32) (28 : Int32) nS0 = some ((1 : Int32), (0 : Int32), nS0) := rfl
theorem zx_challenge_9 : F_Game_challenge (9 : Int32) nS0 = some ((1 : Int32), (0 : Int32), nS0) := rfl
theorem zx_points_9 : F_Game_points (9 : Int32) nS0 = some ((1 : Int32), (0 : Int32), nS0) := rfl
theorem zx_pointsAnew_9 : F_Game_pointsAnew (9 : Int32) nS0 = some ((1 : Int32), (0 : Int32), nS0) := rfl
theorem zx_at_1_14 : F_Game_at (1 : Int32) (14 : Int32) nS0 = some ((1 : Int32), (0 : Int32), nS0) := rfl
theorem zx_at_9_1 : F_Game_at (9 : Int32) (1 : Int32) nS0 = some ((1 : Int32), (0 : Int32), nS0) := rfl
theorem zx_atAnew_1_14 : F_Game_atAnew (1 : Int32) (14 : Int32) nS0 = some ((1 : Int32), (0 : Int32), nS0) := rfl
theorem zx_of_9_9 : F_Game_of (9 : Int32) (9 : Int32) nS0 = some ((1 : Int32), (0 : Int32), nS0) := rfl
theorem zx_of_1_9 : F_Game_of (1 : Int32) (9 : Int32) nS0 = some ((2 : Int32), (0 : Int32), nS0) := rfl
theorem zx_lost_9_9 : F_Game_lost (9 : Int32) (9 : Int32) nS0 = some ((1 : Int32), (0 : Int32), nS0) := rfl
theorem zx_sets_9 : F_Game_sets (9 : Int32) nS0 = some ((1 : Int32), (0 : Int32), nS0) := rfl
theorem zx_serve_8 : F_Game_serve (8 : Int32) nS0 = some ((3 : Int32), (0 : Int32), nS0) := rfl
theorem zx_touch_1_8_0_0 : F_Game_touch (1 : Int32) (8 : Int32) (0 : Int32) (0 : Int32) nS0 = some ((3 : Int32), (0 : Int32), nS0) := rfl
theorem zx_challenge_0 : F_Game_challenge (0 : Int32) nS0 = some ((3 : Int32), (0 : Int32), nS0) := rfl
