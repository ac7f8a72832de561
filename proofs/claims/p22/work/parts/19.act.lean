def nAns (q : Int32) : Int32 := if q = 1 then -1671 else if q = 2 then -1672 else -1673
set_option maxHeartbeats 4000000 in
set_option maxRecDepth 100000 in
theorem a_line (l : Launch) (hl : l.stackTraces = false) (D : va_G) (cI cJ : ClassId) (ad : Nat → Nat) (σ : gSt) (p2 p3 p4 p5 : Int32) {q v : Int32} (hF : F_Game_line p2 p3 p4 σ = some (q, v, σ)) (hq : q = 1 ∨ q = 2 ∨ q = 3) : nMh l D cI cJ ad yL_act cL_act 7 (some .int) [(0, 317, 318, 76), (0, 317, 324, 78), (0, 317, 330, 80)] { frames := 8, cells := 1, slots := 6, locals := 127 } [.ref (ad 0), .int (0 : Int32), .int p2, .int p3, .int p4, .int p5] σ (nAns q) 1 6 1 := by
  refine nStartH (Qc := fun sz => nQi D cI cJ ad σ (nAns q) 1 sz) (L0 := [(0, .ref (ad 0)), (1, .int (0 : Int32)), (2, .int p2), (3, .int p3), (4, .int p4), (5, .int p5)]) RL (by decide) rfl rfl (Nat.le_of_ble_eq_true rfl) ?_
  intro p e s m args below meth c C hr htab
  refine n_iload_n C 1 dL_act_0 rfl rfl ?_
  refine n_if_ne_t (tgt := 15) C dL_act_1 (by decide) (by decide) ?_
  refine n_aload_n C 0 dL_act_4 rfl rfl ?_
  refine n_iload_n C 2 dL_act_5 rfl rfl ?_
  refine n_iload_n C 3 dL_act_6 rfl rfl ?_
  refine n_iload C 4 dL_act_7 rfl ?_
  refine n_callx (As := [.int p2, .int p3, .int p4]) (n := 3) C (c_Game_line l hl D cI cJ ad p2 p3 p4) hF (by rcases hq with rfl | rfl | rfl <;> decide) ⟨rfl, rfl⟩ gcl5 rfl lwv_line (hR := ⟨Nat.le_of_ble_eq_true rfl, Nat.le_of_ble_eq_true rfl⟩) rfl rfl (Nat.le_of_ble_eq_true rfl) dL_act_9 ⟨Nat.le_of_ble_eq_true rfl, Nat.le_of_ble_eq_true rfl⟩ ?_
  rcases hq with rfl | rfl | rfl
  · rw [show gEx (1 : Int32) = "java/lang/IndexOutOfBoundsException" from rfl, show nAns (1 : Int32) = (-1671 : Int32) from rfl]
    refine n_catch C htab [] [⟨0, 317, 324, 78⟩, ⟨0, 317, 330, 80⟩] ⟨0, 317, 318, 76⟩ rfl [] (fun z hz => nomatch hz) (by decide) (by decide) lq10 lq11 (fun q => ?_)
    refine n_astore (L' := [(6, .ref q), (0, .ref (ad 0)), (1, .int (0 : Int32)), (2, .int p2), (3, .int p3), (4, .int p4), (5, .int p5)]) C dL_act_318 (by decide) rfl ?_
    refine n_sipush (v := (-1671 : Int32)) C dL_act_320 (by decide) ?_
    exact n_reti C hr dL_act_323 (Nat.le_of_ble_eq_true rfl) (Nat.le_of_ble_eq_true rfl) (Nat.le_of_ble_eq_true rfl)
  · rw [show gEx (2 : Int32) = "java/lang/IllegalArgumentException" from rfl, show nAns (2 : Int32) = (-1672 : Int32) from rfl]
    refine n_catch C htab [⟨0, 317, 318, 76⟩] [⟨0, 317, 330, 80⟩] ⟨0, 317, 324, 78⟩ rfl [] (fun z hz => by
        simp only [List.mem_cons, List.not_mem_nil, or_false] at hz
        subst hz
        exact ⟨by decide, "java/lang/IndexOutOfBoundsException", lq10, by decide +kernel⟩) (by decide) (by decide) lq12 lq13 (fun q => ?_)
    refine n_astore (L' := [(6, .ref q), (0, .ref (ad 0)), (1, .int (0 : Int32)), (2, .int p2), (3, .int p3), (4, .int p4), (5, .int p5)]) C dL_act_324 (by decide) rfl ?_
    refine n_sipush (v := (-1672 : Int32)) C dL_act_326 (by decide) ?_
    exact n_reti C hr dL_act_329 (Nat.le_of_ble_eq_true rfl) (Nat.le_of_ble_eq_true rfl) (Nat.le_of_ble_eq_true rfl)
  · rw [show gEx (3 : Int32) = "java/lang/IllegalStateException" from rfl, show nAns (3 : Int32) = (-1673 : Int32) from rfl]
    refine n_catch C htab [⟨0, 317, 318, 76⟩, ⟨0, 317, 324, 78⟩] [] ⟨0, 317, 330, 80⟩ rfl [] (fun z hz => by
        simp only [List.mem_cons, List.not_mem_nil, or_false] at hz
        rcases hz with rfl | rfl
        · exact ⟨by decide, "java/lang/IndexOutOfBoundsException", lq10, by decide +kernel⟩
        · exact ⟨by decide, "java/lang/IllegalArgumentException", lq12, by decide +kernel⟩) (by decide) (by decide) lq14 lq15 (fun q => ?_)
    refine n_astore (L' := [(6, .ref q), (0, .ref (ad 0)), (1, .int (0 : Int32)), (2, .int p2), (3, .int p3), (4, .int p4), (5, .int p5)]) C dL_act_330 (by decide) rfl ?_
    refine n_sipush (v := (-1673 : Int32)) C dL_act_332 (by decide) ?_
    exact n_reti C hr dL_act_335 (Nat.le_of_ble_eq_true rfl) (Nat.le_of_ble_eq_true rfl) (Nat.le_of_ble_eq_true rfl)
set_option maxHeartbeats 4000000 in
set_option maxRecDepth 100000 in
theorem a_libero (l : Launch) (hl : l.stackTraces = false) (D : va_G) (cI cJ : ClassId) (ad : Nat → Nat) (σ : gSt) (p2 p3 p4 p5 : Int32) {q v : Int32} (hF : F_Game_libero p2 p3 σ = some (q, v, σ)) (hq : q = 1 ∨ q = 2 ∨ q = 3) : nMh l D cI cJ ad yL_act cL_act 7 (some .int) [(0, 317, 318, 76), (0, 317, 324, 78), (0, 317, 330, 80)] { frames := 8, cells := 1, slots := 6, locals := 126 } [.ref (ad 0), .int (1 : Int32), .int p2, .int p3, .int p4, .int p5] σ (nAns q) 1 6 1 := by
  refine nStartH (Qc := fun sz => nQi D cI cJ ad σ (nAns q) 1 sz) (L0 := [(0, .ref (ad 0)), (1, .int (1 : Int32)), (2, .int p2), (3, .int p3), (4, .int p4), (5, .int p5)]) RL (by decide) rfl rfl (Nat.le_of_ble_eq_true rfl) ?_
  intro p e s m args below meth c C hr htab
  refine n_iload_n C 1 dL_act_0 rfl rfl ?_
  refine n_if_ne_f (tgt := 15) C dL_act_1 (by decide) (by decide) ?_
  refine n_iload_n C 1 dL_act_15 rfl rfl ?_
  refine n_iconst (v := (1 : Int32)) C dL_act_16 (by decide) ?_
  refine n_icmp_ne_t (tgt := 29) C dL_act_17 (by decide) (by decide) ?_
  refine n_aload_n C 0 dL_act_20 rfl rfl ?_
  refine n_iload_n C 2 dL_act_21 rfl rfl ?_
  refine n_iload_n C 3 dL_act_22 rfl rfl ?_
  refine n_callx (As := [.int p2, .int p3]) (n := 2) C (c_Game_libero l hl D cI cJ ad p2 p3) hF (by rcases hq with rfl | rfl | rfl <;> decide) ⟨rfl, rfl⟩ gcl5 rfl lwv_libero (hR := ⟨Nat.le_of_ble_eq_true rfl, Nat.le_of_ble_eq_true rfl⟩) rfl rfl (Nat.le_of_ble_eq_true rfl) dL_act_23 ⟨Nat.le_of_ble_eq_true rfl, Nat.le_of_ble_eq_true rfl⟩ ?_
  rcases hq with rfl | rfl | rfl
  · rw [show gEx (1 : Int32) = "java/lang/IndexOutOfBoundsException" from rfl, show nAns (1 : Int32) = (-1671 : Int32) from rfl]
    refine n_catch C htab [] [⟨0, 317, 324, 78⟩, ⟨0, 317, 330, 80⟩] ⟨0, 317, 318, 76⟩ rfl [] (fun z hz => nomatch hz) (by decide) (by decide) lq10 lq11 (fun q => ?_)
    refine n_astore (L' := [(6, .ref q), (0, .ref (ad 0)), (1, .int (1 : Int32)), (2, .int p2), (3, .int p3), (4, .int p4), (5, .int p5)]) C dL_act_318 (by decide) rfl ?_
    refine n_sipush (v := (-1671 : Int32)) C dL_act_320 (by decide) ?_
    exact n_reti C hr dL_act_323 (Nat.le_of_ble_eq_true rfl) (Nat.le_of_ble_eq_true rfl) (Nat.le_of_ble_eq_true rfl)
  · rw [show gEx (2 : Int32) = "java/lang/IllegalArgumentException" from rfl, show nAns (2 : Int32) = (-1672 : Int32) from rfl]
    refine n_catch C htab [⟨0, 317, 318, 76⟩] [⟨0, 317, 330, 80⟩] ⟨0, 317, 324, 78⟩ rfl [] (fun z hz => by
        simp only [List.mem_cons, List.not_mem_nil, or_false] at hz
        subst hz
        exact ⟨by decide, "java/lang/IndexOutOfBoundsException", lq10, by decide +kernel⟩) (by decide) (by decide) lq12 lq13 (fun q => ?_)
    refine n_astore (L' := [(6, .ref q), (0, .ref (ad 0)), (1, .int (1 : Int32)), (2, .int p2), (3, .int p3), (4, .int p4), (5, .int p5)]) C dL_act_324 (by decide) rfl ?_
    refine n_sipush (v := (-1672 : Int32)) C dL_act_326 (by decide) ?_
    exact n_reti C hr dL_act_329 (Nat.le_of_ble_eq_true rfl) (Nat.le_of_ble_eq_true rfl) (Nat.le_of_ble_eq_true rfl)
  · rw [show gEx (3 : Int32) = "java/lang/IllegalStateException" from rfl, show nAns (3 : Int32) = (-1673 : Int32) from rfl]
    refine n_catch C htab [⟨0, 317, 318, 76⟩, ⟨0, 317, 324, 78⟩] [] ⟨0, 317, 330, 80⟩ rfl [] (fun z hz => by
        simp only [List.mem_cons, List.not_mem_nil, or_false] at hz
        rcases hz with rfl | rfl
        · exact ⟨by decide, "java/lang/IndexOutOfBoundsException", lq10, by decide +kernel⟩
        · exact ⟨by decide, "java/lang/IllegalArgumentException", lq12, by decide +kernel⟩) (by decide) (by decide) lq14 lq15 (fun q => ?_)
    refine n_astore (L' := [(6, .ref q), (0, .ref (ad 0)), (1, .int (1 : Int32)), (2, .int p2), (3, .int p3), (4, .int p4), (5, .int p5)]) C dL_act_330 (by decide) rfl ?_
    refine n_sipush (v := (-1673 : Int32)) C dL_act_332 (by decide) ?_
    exact n_reti C hr dL_act_335 (Nat.le_of_ble_eq_true rfl) (Nat.le_of_ble_eq_true rfl) (Nat.le_of_ble_eq_true rfl)
set_option maxHeartbeats 4000000 in
set_option maxRecDepth 100000 in
theorem a_begin (l : Launch) (hl : l.stackTraces = false) (D : va_G) (cI cJ : ClassId) (ad : Nat → Nat) (σ : gSt) (p2 p3 p4 p5 : Int32) {q v : Int32} (hF : F_Game_begin p2 σ = some (q, v, σ)) (hq : q = 1 ∨ q = 2 ∨ q = 3) : nMh l D cI cJ ad yL_act cL_act 7 (some .int) [(0, 317, 318, 76), (0, 317, 324, 78), (0, 317, 330, 80)] { frames := 8, cells := 1, slots := 6, locals := 123 } [.ref (ad 0), .int (2 : Int32), .int p2, .int p3, .int p4, .int p5] σ (nAns q) 1 6 1 := by
  refine nStartH (Qc := fun sz => nQi D cI cJ ad σ (nAns q) 1 sz) (L0 := [(0, .ref (ad 0)), (1, .int (2 : Int32)), (2, .int p2), (3, .int p3), (4, .int p4), (5, .int p5)]) RL (by decide) rfl rfl (Nat.le_of_ble_eq_true rfl) ?_
  intro p e s m args below meth c C hr htab
  refine n_iload_n C 1 dL_act_0 rfl rfl ?_
  refine n_if_ne_f (tgt := 15) C dL_act_1 (by decide) (by decide) ?_
  refine n_iload_n C 1 dL_act_15 rfl rfl ?_
  refine n_iconst (v := (1 : Int32)) C dL_act_16 (by decide) ?_
  refine n_icmp_ne_f (tgt := 29) C dL_act_17 (by decide) (by decide) ?_
  refine n_iload_n C 1 dL_act_29 rfl rfl ?_
  refine n_iconst (v := (2 : Int32)) C dL_act_30 (by decide) ?_
  refine n_icmp_ne_t (tgt := 42) C dL_act_31 (by decide) (by decide) ?_
  refine n_aload_n C 0 dL_act_34 rfl rfl ?_
  refine n_iload_n C 2 dL_act_35 rfl rfl ?_
  refine n_callx (As := [.int p2]) (n := 1) C (c_Game_begin l hl D cI cJ ad p2) hF (by rcases hq with rfl | rfl | rfl <;> decide) ⟨rfl, rfl⟩ gcl5 rfl lwv_begin (hR := ⟨Nat.le_of_ble_eq_true rfl, Nat.le_of_ble_eq_true rfl⟩) rfl rfl (Nat.le_of_ble_eq_true rfl) dL_act_36 ⟨Nat.le_of_ble_eq_true rfl, Nat.le_of_ble_eq_true rfl⟩ ?_
  rcases hq with rfl | rfl | rfl
  · rw [show gEx (1 : Int32) = "java/lang/IndexOutOfBoundsException" from rfl, show nAns (1 : Int32) = (-1671 : Int32) from rfl]
    refine n_catch C htab [] [⟨0, 317, 324, 78⟩, ⟨0, 317, 330, 80⟩] ⟨0, 317, 318, 76⟩ rfl [] (fun z hz => nomatch hz) (by decide) (by decide) lq10 lq11 (fun q => ?_)
    refine n_astore (L' := [(6, .ref q), (0, .ref (ad 0)), (1, .int (2 : Int32)), (2, .int p2), (3, .int p3), (4, .int p4), (5, .int p5)]) C dL_act_318 (by decide) rfl ?_
    refine n_sipush (v := (-1671 : Int32)) C dL_act_320 (by decide) ?_
    exact n_reti C hr dL_act_323 (Nat.le_of_ble_eq_true rfl) (Nat.le_of_ble_eq_true rfl) (Nat.le_of_ble_eq_true rfl)
  · rw [show gEx (2 : Int32) = "java/lang/IllegalArgumentException" from rfl, show nAns (2 : Int32) = (-1672 : Int32) from rfl]
    refine n_catch C htab [⟨0, 317, 318, 76⟩] [⟨0, 317, 330, 80⟩] ⟨0, 317, 324, 78⟩ rfl [] (fun z hz => by
        simp only [List.mem_cons, List.not_mem_nil, or_false] at hz
        subst hz
        exact ⟨by decide, "java/lang/IndexOutOfBoundsException", lq10, by decide +kernel⟩) (by decide) (by decide) lq12 lq13 (fun q => ?_)
    refine n_astore (L' := [(6, .ref q), (0, .ref (ad 0)), (1, .int (2 : Int32)), (2, .int p2), (3, .int p3), (4, .int p4), (5, .int p5)]) C dL_act_324 (by decide) rfl ?_
    refine n_sipush (v := (-1672 : Int32)) C dL_act_326 (by decide) ?_
    exact n_reti C hr dL_act_329 (Nat.le_of_ble_eq_true rfl) (Nat.le_of_ble_eq_true rfl) (Nat.le_of_ble_eq_true rfl)
  · rw [show gEx (3 : Int32) = "java/lang/IllegalStateException" from rfl, show nAns (3 : Int32) = (-1673 : Int32) from rfl]
    refine n_catch C htab [⟨0, 317, 318, 76⟩, ⟨0, 317, 324, 78⟩] [] ⟨0, 317, 330, 80⟩ rfl [] (fun z hz => by
        simp only [List.mem_cons, List.not_mem_nil, or_false] at hz
        rcases hz with rfl | rfl
        · exact ⟨by decide, "java/lang/IndexOutOfBoundsException", lq10, by decide +kernel⟩
        · exact ⟨by decide, "java/lang/IllegalArgumentException", lq12, by decide +kernel⟩) (by decide) (by decide) lq14 lq15 (fun q => ?_)
    refine n_astore (L' := [(6, .ref q), (0, .ref (ad 0)), (1, .int (2 : Int32)), (2, .int p2), (3, .int p3), (4, .int p4), (5, .int p5)]) C dL_act_330 (by decide) rfl ?_
    refine n_sipush (v := (-1673 : Int32)) C dL_act_332 (by decide) ?_
    exact n_reti C hr dL_act_335 (Nat.le_of_ble_eq_true rfl) (Nat.le_of_ble_eq_true rfl) (Nat.le_of_ble_eq_true rfl)
set_option maxHeartbeats 4000000 in
set_option maxRecDepth 100000 in
theorem a_serve (l : Launch) (hl : l.stackTraces = false) (D : va_G) (cI cJ : ClassId) (ad : Nat → Nat) (σ : gSt) (p2 p3 p4 p5 : Int32) {q v : Int32} (hF : F_Game_serve p2 σ = some (q, v, σ)) (hq : q = 1 ∨ q = 2 ∨ q = 3) : nMh l D cI cJ ad yL_act cL_act 7 (some .int) [(0, 317, 318, 76), (0, 317, 324, 78), (0, 317, 330, 80)] { frames := 8, cells := 1, slots := 6, locals := 124 } [.ref (ad 0), .int (3 : Int32), .int p2, .int p3, .int p4, .int p5] σ (nAns q) 1 6 1 := by
  refine nStartH (Qc := fun sz => nQi D cI cJ ad σ (nAns q) 1 sz) (L0 := [(0, .ref (ad 0)), (1, .int (3 : Int32)), (2, .int p2), (3, .int p3), (4, .int p4), (5, .int p5)]) RL (by decide) rfl rfl (Nat.le_of_ble_eq_true rfl) ?_
  intro p e s m args below meth c C hr htab
  refine n_iload_n C 1 dL_act_0 rfl rfl ?_
  refine n_if_ne_f (tgt := 15) C dL_act_1 (by decide) (by decide) ?_
  refine n_iload_n C 1 dL_act_15 rfl rfl ?_
  refine n_iconst (v := (1 : Int32)) C dL_act_16 (by decide) ?_
  refine n_icmp_ne_f (tgt := 29) C dL_act_17 (by decide) (by decide) ?_
  refine n_iload_n C 1 dL_act_29 rfl rfl ?_
  refine n_iconst (v := (2 : Int32)) C dL_act_30 (by decide) ?_
  refine n_icmp_ne_f (tgt := 42) C dL_act_31 (by decide) (by decide) ?_
  refine n_iload_n C 1 dL_act_42 rfl rfl ?_
  refine n_iconst (v := (3 : Int32)) C dL_act_43 (by decide) ?_
  refine n_icmp_ne_t (tgt := 63) C dL_act_44 (by decide) (by decide) ?_
  refine n_aload_n C 0 dL_act_47 rfl rfl ?_
  refine n_iload_n C 2 dL_act_48 rfl rfl ?_
  refine n_callx (As := [.int p2]) (n := 1) C (c_Game_serve l hl D cI cJ ad p2) hF (by rcases hq with rfl | rfl | rfl <;> decide) ⟨rfl, rfl⟩ gcl5 rfl lwv_serve (hR := ⟨Nat.le_of_ble_eq_true rfl, Nat.le_of_ble_eq_true rfl⟩) rfl rfl (Nat.le_of_ble_eq_true rfl) dL_act_49 ⟨Nat.le_of_ble_eq_true rfl, Nat.le_of_ble_eq_true rfl⟩ ?_
  rcases hq with rfl | rfl | rfl
  · rw [show gEx (1 : Int32) = "java/lang/IndexOutOfBoundsException" from rfl, show nAns (1 : Int32) = (-1671 : Int32) from rfl]
    refine n_catch C htab [] [⟨0, 317, 324, 78⟩, ⟨0, 317, 330, 80⟩] ⟨0, 317, 318, 76⟩ rfl [] (fun z hz => nomatch hz) (by decide) (by decide) lq10 lq11 (fun q => ?_)
    refine n_astore (L' := [(6, .ref q), (0, .ref (ad 0)), (1, .int (3 : Int32)), (2, .int p2), (3, .int p3), (4, .int p4), (5, .int p5)]) C dL_act_318 (by decide) rfl ?_
    refine n_sipush (v := (-1671 : Int32)) C dL_act_320 (by decide) ?_
    exact n_reti C hr dL_act_323 (Nat.le_of_ble_eq_true rfl) (Nat.le_of_ble_eq_true rfl) (Nat.le_of_ble_eq_true rfl)
  · rw [show gEx (2 : Int32) = "java/lang/IllegalArgumentException" from rfl, show nAns (2 : Int32) = (-1672 : Int32) from rfl]
    refine n_catch C htab [⟨0, 317, 318, 76⟩] [⟨0, 317, 330, 80⟩] ⟨0, 317, 324, 78⟩ rfl [] (fun z hz => by
        simp only [List.mem_cons, List.not_mem_nil, or_false] at hz
        subst hz
        exact ⟨by decide, "java/lang/IndexOutOfBoundsException", lq10, by decide +kernel⟩) (by decide) (by decide) lq12 lq13 (fun q => ?_)
    refine n_astore (L' := [(6, .ref q), (0, .ref (ad 0)), (1, .int (3 : Int32)), (2, .int p2), (3, .int p3), (4, .int p4), (5, .int p5)]) C dL_act_324 (by decide) rfl ?_
    refine n_sipush (v := (-1672 : Int32)) C dL_act_326 (by decide) ?_
    exact n_reti C hr dL_act_329 (Nat.le_of_ble_eq_true rfl) (Nat.le_of_ble_eq_true rfl) (Nat.le_of_ble_eq_true rfl)
  · rw [show gEx (3 : Int32) = "java/lang/IllegalStateException" from rfl, show nAns (3 : Int32) = (-1673 : Int32) from rfl]
    refine n_catch C htab [⟨0, 317, 318, 76⟩, ⟨0, 317, 324, 78⟩] [] ⟨0, 317, 330, 80⟩ rfl [] (fun z hz => by
        simp only [List.mem_cons, List.not_mem_nil, or_false] at hz
        rcases hz with rfl | rfl
        · exact ⟨by decide, "java/lang/IndexOutOfBoundsException", lq10, by decide +kernel⟩
        · exact ⟨by decide, "java/lang/IllegalArgumentException", lq12, by decide +kernel⟩) (by decide) (by decide) lq14 lq15 (fun q => ?_)
    refine n_astore (L' := [(6, .ref q), (0, .ref (ad 0)), (1, .int (3 : Int32)), (2, .int p2), (3, .int p3), (4, .int p4), (5, .int p5)]) C dL_act_330 (by decide) rfl ?_
    refine n_sipush (v := (-1673 : Int32)) C dL_act_332 (by decide) ?_
    exact n_reti C hr dL_act_335 (Nat.le_of_ble_eq_true rfl) (Nat.le_of_ble_eq_true rfl) (Nat.le_of_ble_eq_true rfl)
set_option maxHeartbeats 4000000 in
set_option maxRecDepth 100000 in
theorem a_touch (l : Launch) (hl : l.stackTraces = false) (D : va_G) (cI cJ : ClassId) (ad : Nat → Nat) (σ : gSt) (p2 p3 p4 : Int32) {q v : Int32} (hF : F_Game_touch p2 p3 p4 (0 : Int32) σ = some (q, v, σ)) (hq : q = 1 ∨ q = 2 ∨ q = 3) : nMh l D cI cJ ad yL_act cL_act 7 (some .int) [(0, 317, 318, 76), (0, 317, 324, 78), (0, 317, 330, 80)] { frames := 8, cells := 1, slots := 6, locals := 155 } [.ref (ad 0), .int (4 : Int32), .int p2, .int p3, .int p4, .int (0 : Int32)] σ (nAns q) 1 6 1 := by
  refine nStartH (Qc := fun sz => nQi D cI cJ ad σ (nAns q) 1 sz) (L0 := [(0, .ref (ad 0)), (1, .int (4 : Int32)), (2, .int p2), (3, .int p3), (4, .int p4), (5, .int (0 : Int32))]) RL (by decide) rfl rfl (Nat.le_of_ble_eq_true rfl) ?_
  intro p e s m args below meth c C hr htab
  refine n_iload_n C 1 dL_act_0 rfl rfl ?_
  refine n_if_ne_f (tgt := 15) C dL_act_1 (by decide) (by decide) ?_
  refine n_iload_n C 1 dL_act_15 rfl rfl ?_
  refine n_iconst (v := (1 : Int32)) C dL_act_16 (by decide) ?_
  refine n_icmp_ne_f (tgt := 29) C dL_act_17 (by decide) (by decide) ?_
  refine n_iload_n C 1 dL_act_29 rfl rfl ?_
  refine n_iconst (v := (2 : Int32)) C dL_act_30 (by decide) ?_
  refine n_icmp_ne_f (tgt := 42) C dL_act_31 (by decide) (by decide) ?_
  refine n_iload_n C 1 dL_act_42 rfl rfl ?_
  refine n_iconst (v := (3 : Int32)) C dL_act_43 (by decide) ?_
  refine n_icmp_ne_f (tgt := 63) C dL_act_44 (by decide) (by decide) ?_
  refine n_iload_n C 1 dL_act_63 rfl rfl ?_
  refine n_iconst (v := (4 : Int32)) C dL_act_64 (by decide) ?_
  refine n_icmp_ne_t (tgt := 90) C dL_act_65 (by decide) (by decide) ?_
  refine n_aload_n C 0 dL_act_68 rfl rfl ?_
  refine n_iload_n C 2 dL_act_69 rfl rfl ?_
  refine n_iload_n C 3 dL_act_70 rfl rfl ?_
  refine n_iload C 4 dL_act_71 rfl ?_
  refine n_iload C 5 dL_act_73 rfl ?_
  refine n_iconst (v := (1 : Int32)) C dL_act_75 (by decide) ?_
  refine n_icmp_ne_f (tgt := 83) C dL_act_76 (by decide) (by decide) ?_
  refine n_iconst (v := (0 : Int32)) C dL_act_83 (by decide) ?_
  refine n_callx (As := [.int p2, .int p3, .int p4, .int (0 : Int32)]) (n := 4) C (c_Game_touch l hl D cI cJ ad p2 p3 p4 (0 : Int32)) hF (by rcases hq with rfl | rfl | rfl <;> decide) ⟨rfl, rfl⟩ gcl5 rfl lwv_touch (hR := ⟨Nat.le_of_ble_eq_true rfl, Nat.le_of_ble_eq_true rfl⟩) rfl rfl (Nat.le_of_ble_eq_true rfl) dL_act_84 ⟨Nat.le_of_ble_eq_true rfl, Nat.le_of_ble_eq_true rfl⟩ ?_
  rcases hq with rfl | rfl | rfl
  · rw [show gEx (1 : Int32) = "java/lang/IndexOutOfBoundsException" from rfl, show nAns (1 : Int32) = (-1671 : Int32) from rfl]
    refine n_catch C htab [] [⟨0, 317, 324, 78⟩, ⟨0, 317, 330, 80⟩] ⟨0, 317, 318, 76⟩ rfl [] (fun z hz => nomatch hz) (by decide) (by decide) lq10 lq11 (fun q => ?_)
    refine n_astore (L' := [(6, .ref q), (0, .ref (ad 0)), (1, .int (4 : Int32)), (2, .int p2), (3, .int p3), (4, .int p4), (5, .int (0 : Int32))]) C dL_act_318 (by decide) rfl ?_
    refine n_sipush (v := (-1671 : Int32)) C dL_act_320 (by decide) ?_
    exact n_reti C hr dL_act_323 (Nat.le_of_ble_eq_true rfl) (Nat.le_of_ble_eq_true rfl) (Nat.le_of_ble_eq_true rfl)
  · rw [show gEx (2 : Int32) = "java/lang/IllegalArgumentException" from rfl, show nAns (2 : Int32) = (-1672 : Int32) from rfl]
    refine n_catch C htab [⟨0, 317, 318, 76⟩] [⟨0, 317, 330, 80⟩] ⟨0, 317, 324, 78⟩ rfl [] (fun z hz => by
        simp only [List.mem_cons, List.not_mem_nil, or_false] at hz
        subst hz
        exact ⟨by decide, "java/lang/IndexOutOfBoundsException", lq10, by decide +kernel⟩) (by decide) (by decide) lq12 lq13 (fun q => ?_)
    refine n_astore (L' := [(6, .ref q), (0, .ref (ad 0)), (1, .int (4 : Int32)), (2, .int p2), (3, .int p3), (4, .int p4), (5, .int (0 : Int32))]) C dL_act_324 (by decide) rfl ?_
    refine n_sipush (v := (-1672 : Int32)) C dL_act_326 (by decide) ?_
    exact n_reti C hr dL_act_329 (Nat.le_of_ble_eq_true rfl) (Nat.le_of_ble_eq_true rfl) (Nat.le_of_ble_eq_true rfl)
  · rw [show gEx (3 : Int32) = "java/lang/IllegalStateException" from rfl, show nAns (3 : Int32) = (-1673 : Int32) from rfl]
    refine n_catch C htab [⟨0, 317, 318, 76⟩, ⟨0, 317, 324, 78⟩] [] ⟨0, 317, 330, 80⟩ rfl [] (fun z hz => by
        simp only [List.mem_cons, List.not_mem_nil, or_false] at hz
        rcases hz with rfl | rfl
        · exact ⟨by decide, "java/lang/IndexOutOfBoundsException", lq10, by decide +kernel⟩
        · exact ⟨by decide, "java/lang/IllegalArgumentException", lq12, by decide +kernel⟩) (by decide) (by decide) lq14 lq15 (fun q => ?_)
    refine n_astore (L' := [(6, .ref q), (0, .ref (ad 0)), (1, .int (4 : Int32)), (2, .int p2), (3, .int p3), (4, .int p4), (5, .int (0 : Int32))]) C dL_act_330 (by decide) rfl ?_
    refine n_sipush (v := (-1673 : Int32)) C dL_act_332 (by decide) ?_
    exact n_reti C hr dL_act_335 (Nat.le_of_ble_eq_true rfl) (Nat.le_of_ble_eq_true rfl) (Nat.le_of_ble_eq_true rfl)
set_option maxHeartbeats 4000000 in
set_option maxRecDepth 100000 in
theorem a_fall (l : Launch) (hl : l.stackTraces = false) (D : va_G) (cI cJ : ClassId) (ad : Nat → Nat) (σ : gSt) (p2 p3 p4 p5 : Int32) {q v : Int32} (hF : F_Game_fall p2 σ = some (q, v, σ)) (hq : q = 1 ∨ q = 2 ∨ q = 3) : nMh l D cI cJ ad yL_act cL_act 7 (some .int) [(0, 317, 318, 76), (0, 317, 324, 78), (0, 317, 330, 80)] { frames := 8, cells := 1, slots := 6, locals := 151 } [.ref (ad 0), .int (5 : Int32), .int p2, .int p3, .int p4, .int p5] σ (nAns q) 1 6 1 := by
  refine nStartH (Qc := fun sz => nQi D cI cJ ad σ (nAns q) 1 sz) (L0 := [(0, .ref (ad 0)), (1, .int (5 : Int32)), (2, .int p2), (3, .int p3), (4, .int p4), (5, .int p5)]) RL (by decide) rfl rfl (Nat.le_of_ble_eq_true rfl) ?_
  intro p e s m args below meth c C hr htab
  refine n_iload_n C 1 dL_act_0 rfl rfl ?_
  refine n_if_ne_f (tgt := 15) C dL_act_1 (by decide) (by decide) ?_
  refine n_iload_n C 1 dL_act_15 rfl rfl ?_
  refine n_iconst (v := (1 : Int32)) C dL_act_16 (by decide) ?_
  refine n_icmp_ne_f (tgt := 29) C dL_act_17 (by decide) (by decide) ?_
  refine n_iload_n C 1 dL_act_29 rfl rfl ?_
  refine n_iconst (v := (2 : Int32)) C dL_act_30 (by decide) ?_
  refine n_icmp_ne_f (tgt := 42) C dL_act_31 (by decide) (by decide) ?_
  refine n_iload_n C 1 dL_act_42 rfl rfl ?_
  refine n_iconst (v := (3 : Int32)) C dL_act_43 (by decide) ?_
  refine n_icmp_ne_f (tgt := 63) C dL_act_44 (by decide) (by decide) ?_
  refine n_iload_n C 1 dL_act_63 rfl rfl ?_
  refine n_iconst (v := (4 : Int32)) C dL_act_64 (by decide) ?_
  refine n_icmp_ne_f (tgt := 90) C dL_act_65 (by decide) (by decide) ?_
  refine n_iload_n C 1 dL_act_90 rfl rfl ?_
  refine n_iconst (v := (5 : Int32)) C dL_act_91 (by decide) ?_
  refine n_icmp_ne_t (tgt := 103) C dL_act_92 (by decide) (by decide) ?_
  refine n_aload_n C 0 dL_act_95 rfl rfl ?_
  refine n_iload_n C 2 dL_act_96 rfl rfl ?_
  refine n_callx (As := [.int p2]) (n := 1) C (c_Game_fall l hl D cI cJ ad p2) hF (by rcases hq with rfl | rfl | rfl <;> decide) ⟨rfl, rfl⟩ gcl5 rfl lwv_fall (hR := ⟨Nat.le_of_ble_eq_true rfl, Nat.le_of_ble_eq_true rfl⟩) rfl rfl (Nat.le_of_ble_eq_true rfl) dL_act_97 ⟨Nat.le_of_ble_eq_true rfl, Nat.le_of_ble_eq_true rfl⟩ ?_
  rcases hq with rfl | rfl | rfl
  · rw [show gEx (1 : Int32) = "java/lang/IndexOutOfBoundsException" from rfl, show nAns (1 : Int32) = (-1671 : Int32) from rfl]
    refine n_catch C htab [] [⟨0, 317, 324, 78⟩, ⟨0, 317, 330, 80⟩] ⟨0, 317, 318, 76⟩ rfl [] (fun z hz => nomatch hz) (by decide) (by decide) lq10 lq11 (fun q => ?_)
    refine n_astore (L' := [(6, .ref q), (0, .ref (ad 0)), (1, .int (5 : Int32)), (2, .int p2), (3, .int p3), (4, .int p4), (5, .int p5)]) C dL_act_318 (by decide) rfl ?_
    refine n_sipush (v := (-1671 : Int32)) C dL_act_320 (by decide) ?_
    exact n_reti C hr dL_act_323 (Nat.le_of_ble_eq_true rfl) (Nat.le_of_ble_eq_true rfl) (Nat.le_of_ble_eq_true rfl)
  · rw [show gEx (2 : Int32) = "java/lang/IllegalArgumentException" from rfl, show nAns (2 : Int32) = (-1672 : Int32) from rfl]
    refine n_catch C htab [⟨0, 317, 318, 76⟩] [⟨0, 317, 330, 80⟩] ⟨0, 317, 324, 78⟩ rfl [] (fun z hz => by
        simp only [List.mem_cons, List.not_mem_nil, or_false] at hz
        subst hz
        exact ⟨by decide, "java/lang/IndexOutOfBoundsException", lq10, by decide +kernel⟩) (by decide) (by decide) lq12 lq13 (fun q => ?_)
    refine n_astore (L' := [(6, .ref q), (0, .ref (ad 0)), (1, .int (5 : Int32)), (2, .int p2), (3, .int p3), (4, .int p4), (5, .int p5)]) C dL_act_324 (by decide) rfl ?_
    refine n_sipush (v := (-1672 : Int32)) C dL_act_326 (by decide) ?_
    exact n_reti C hr dL_act_329 (Nat.le_of_ble_eq_true rfl) (Nat.le_of_ble_eq_true rfl) (Nat.le_of_ble_eq_true rfl)
  · rw [show gEx (3 : Int32) = "java/lang/IllegalStateException" from rfl, show nAns (3 : Int32) = (-1673 : Int32) from rfl]
    refine n_catch C htab [⟨0, 317, 318, 76⟩, ⟨0, 317, 324, 78⟩] [] ⟨0, 317, 330, 80⟩ rfl [] (fun z hz => by
        simp only [List.mem_cons, List.not_mem_nil, or_false] at hz
        rcases hz with rfl | rfl
        · exact ⟨by decide, "java/lang/IndexOutOfBoundsException", lq10, by decide +kernel⟩
        · exact ⟨by decide, "java/lang/IllegalArgumentException", lq12, by decide +kernel⟩) (by decide) (by decide) lq14 lq15 (fun q => ?_)
    refine n_astore (L' := [(6, .ref q), (0, .ref (ad 0)), (1, .int (5 : Int32)), (2, .int p2), (3, .int p3), (4, .int p4), (5, .int p5)]) C dL_act_330 (by decide) rfl ?_
    refine n_sipush (v := (-1673 : Int32)) C dL_act_332 (by decide) ?_
    exact n_reti C hr dL_act_335 (Nat.le_of_ble_eq_true rfl) (Nat.le_of_ble_eq_true rfl) (Nat.le_of_ble_eq_true rfl)
set_option maxHeartbeats 4000000 in
set_option maxRecDepth 100000 in
theorem a_net (l : Launch) (hl : l.stackTraces = false) (D : va_G) (cI cJ : ClassId) (ad : Nat → Nat) (σ : gSt) (p2 p4 p5 : Int32) {q v : Int32} (hF : F_Game_net p2 (1 : Int32) σ = some (q, v, σ)) (hq : q = 1 ∨ q = 2 ∨ q = 3) : nMh l D cI cJ ad yL_act cL_act 7 (some .int) [(0, 317, 318, 76), (0, 317, 324, 78), (0, 317, 330, 80)] { frames := 8, cells := 1, slots := 6, locals := 151 } [.ref (ad 0), .int (6 : Int32), .int p2, .int (1 : Int32), .int p4, .int p5] σ (nAns q) 1 6 1 := by
  refine nStartH (Qc := fun sz => nQi D cI cJ ad σ (nAns q) 1 sz) (L0 := [(0, .ref (ad 0)), (1, .int (6 : Int32)), (2, .int p2), (3, .int (1 : Int32)), (4, .int p4), (5, .int p5)]) RL (by decide) rfl rfl (Nat.le_of_ble_eq_true rfl) ?_
  intro p e s m args below meth c C hr htab
  refine n_iload_n C 1 dL_act_0 rfl rfl ?_
  refine n_if_ne_f (tgt := 15) C dL_act_1 (by decide) (by decide) ?_
  refine n_iload_n C 1 dL_act_15 rfl rfl ?_
  refine n_iconst (v := (1 : Int32)) C dL_act_16 (by decide) ?_
  refine n_icmp_ne_f (tgt := 29) C dL_act_17 (by decide) (by decide) ?_
  refine n_iload_n C 1 dL_act_29 rfl rfl ?_
  refine n_iconst (v := (2 : Int32)) C dL_act_30 (by decide) ?_
  refine n_icmp_ne_f (tgt := 42) C dL_act_31 (by decide) (by decide) ?_
  refine n_iload_n C 1 dL_act_42 rfl rfl ?_
  refine n_iconst (v := (3 : Int32)) C dL_act_43 (by decide) ?_
  refine n_icmp_ne_f (tgt := 63) C dL_act_44 (by decide) (by decide) ?_
  refine n_iload_n C 1 dL_act_63 rfl rfl ?_
  refine n_iconst (v := (4 : Int32)) C dL_act_64 (by decide) ?_
  refine n_icmp_ne_f (tgt := 90) C dL_act_65 (by decide) (by decide) ?_
  refine n_iload_n C 1 dL_act_90 rfl rfl ?_
  refine n_iconst (v := (5 : Int32)) C dL_act_91 (by decide) ?_
  refine n_icmp_ne_f (tgt := 103) C dL_act_92 (by decide) (by decide) ?_
  refine n_iload_n C 1 dL_act_103 rfl rfl ?_
  refine n_bipush (v := (6 : Int32)) C dL_act_104 (by decide) ?_
  refine n_icmp_ne_t (tgt := 135) C dL_act_106 (by decide) (by decide) ?_
  refine n_aload_n C 0 dL_act_109 rfl rfl ?_
  refine n_iload_n C 2 dL_act_110 rfl rfl ?_
  refine n_iload_n C 3 dL_act_111 rfl rfl ?_
  refine n_iconst (v := (1 : Int32)) C dL_act_112 (by decide) ?_
  refine n_icmp_ne_t (tgt := 120) C dL_act_113 (by decide) (by decide) ?_
  refine n_iconst (v := (1 : Int32)) C dL_act_116 (by decide) ?_
  refine n_goto (tgt := 121) C dL_act_117 (by decide) ?_
  refine n_callx (As := [.int p2, .int (1 : Int32)]) (n := 2) C (c_Game_net l hl D cI cJ ad p2 (1 : Int32)) hF (by rcases hq with rfl | rfl | rfl <;> decide) ⟨rfl, rfl⟩ gcl5 rfl lwv_net (hR := ⟨Nat.le_of_ble_eq_true rfl, Nat.le_of_ble_eq_true rfl⟩) rfl rfl (Nat.le_of_ble_eq_true rfl) dL_act_121 ⟨Nat.le_of_ble_eq_true rfl, Nat.le_of_ble_eq_true rfl⟩ ?_
  rcases hq with rfl | rfl | rfl
  · rw [show gEx (1 : Int32) = "java/lang/IndexOutOfBoundsException" from rfl, show nAns (1 : Int32) = (-1671 : Int32) from rfl]
    refine n_catch C htab [] [⟨0, 317, 324, 78⟩, ⟨0, 317, 330, 80⟩] ⟨0, 317, 318, 76⟩ rfl [] (fun z hz => nomatch hz) (by decide) (by decide) lq10 lq11 (fun q => ?_)
    refine n_astore (L' := [(6, .ref q), (0, .ref (ad 0)), (1, .int (6 : Int32)), (2, .int p2), (3, .int (1 : Int32)), (4, .int p4), (5, .int p5)]) C dL_act_318 (by decide) rfl ?_
    refine n_sipush (v := (-1671 : Int32)) C dL_act_320 (by decide) ?_
    exact n_reti C hr dL_act_323 (Nat.le_of_ble_eq_true rfl) (Nat.le_of_ble_eq_true rfl) (Nat.le_of_ble_eq_true rfl)
  · rw [show gEx (2 : Int32) = "java/lang/IllegalArgumentException" from rfl, show nAns (2 : Int32) = (-1672 : Int32) from rfl]
    refine n_catch C htab [⟨0, 317, 318, 76⟩] [⟨0, 317, 330, 80⟩] ⟨0, 317, 324, 78⟩ rfl [] (fun z hz => by
        simp only [List.mem_cons, List.not_mem_nil, or_false] at hz
        subst hz
        exact ⟨by decide, "java/lang/IndexOutOfBoundsException", lq10, by decide +kernel⟩) (by decide) (by decide) lq12 lq13 (fun q => ?_)
    refine n_astore (L' := [(6, .ref q), (0, .ref (ad 0)), (1, .int (6 : Int32)), (2, .int p2), (3, .int (1 : Int32)), (4, .int p4), (5, .int p5)]) C dL_act_324 (by decide) rfl ?_
    refine n_sipush (v := (-1672 : Int32)) C dL_act_326 (by decide) ?_
    exact n_reti C hr dL_act_329 (Nat.le_of_ble_eq_true rfl) (Nat.le_of_ble_eq_true rfl) (Nat.le_of_ble_eq_true rfl)
  · rw [show gEx (3 : Int32) = "java/lang/IllegalStateException" from rfl, show nAns (3 : Int32) = (-1673 : Int32) from rfl]
    refine n_catch C htab [⟨0, 317, 318, 76⟩, ⟨0, 317, 324, 78⟩] [] ⟨0, 317, 330, 80⟩ rfl [] (fun z hz => by
        simp only [List.mem_cons, List.not_mem_nil, or_false] at hz
        rcases hz with rfl | rfl
        · exact ⟨by decide, "java/lang/IndexOutOfBoundsException", lq10, by decide +kernel⟩
        · exact ⟨by decide, "java/lang/IllegalArgumentException", lq12, by decide +kernel⟩) (by decide) (by decide) lq14 lq15 (fun q => ?_)
    refine n_astore (L' := [(6, .ref q), (0, .ref (ad 0)), (1, .int (6 : Int32)), (2, .int p2), (3, .int (1 : Int32)), (4, .int p4), (5, .int p5)]) C dL_act_330 (by decide) rfl ?_
    refine n_sipush (v := (-1673 : Int32)) C dL_act_332 (by decide) ?_
    exact n_reti C hr dL_act_335 (Nat.le_of_ble_eq_true rfl) (Nat.le_of_ble_eq_true rfl) (Nat.le_of_ble_eq_true rfl)
set_option maxHeartbeats 4000000 in
set_option maxRecDepth 100000 in
theorem a_find (l : Launch) (hl : l.stackTraces = false) (D : va_G) (cI cJ : ClassId) (ad : Nat → Nat) (σ : gSt) (p2 p3 p4 p5 : Int32) {q v : Int32} (hF : F_Game_find  σ = some (q, v, σ)) (hq : q = 1 ∨ q = 2 ∨ q = 3) : nMh l D cI cJ ad yL_act cL_act 7 (some .int) [(0, 317, 318, 76), (0, 317, 324, 78), (0, 317, 330, 80)] { frames := 7, cells := 1, slots := 6, locals := 131 } [.ref (ad 0), .int (7 : Int32), .int p2, .int p3, .int p4, .int p5] σ (nAns q) 1 6 1 := by
  refine nStartH (Qc := fun sz => nQi D cI cJ ad σ (nAns q) 1 sz) (L0 := [(0, .ref (ad 0)), (1, .int (7 : Int32)), (2, .int p2), (3, .int p3), (4, .int p4), (5, .int p5)]) RL (by decide) rfl rfl (Nat.le_of_ble_eq_true rfl) ?_
  intro p e s m args below meth c C hr htab
  refine n_iload_n C 1 dL_act_0 rfl rfl ?_
  refine n_if_ne_f (tgt := 15) C dL_act_1 (by decide) (by decide) ?_
  refine n_iload_n C 1 dL_act_15 rfl rfl ?_
  refine n_iconst (v := (1 : Int32)) C dL_act_16 (by decide) ?_
  refine n_icmp_ne_f (tgt := 29) C dL_act_17 (by decide) (by decide) ?_
  refine n_iload_n C 1 dL_act_29 rfl rfl ?_
  refine n_iconst (v := (2 : Int32)) C dL_act_30 (by decide) ?_
  refine n_icmp_ne_f (tgt := 42) C dL_act_31 (by decide) (by decide) ?_
  refine n_iload_n C 1 dL_act_42 rfl rfl ?_
  refine n_iconst (v := (3 : Int32)) C dL_act_43 (by decide) ?_
  refine n_icmp_ne_f (tgt := 63) C dL_act_44 (by decide) (by decide) ?_
  refine n_iload_n C 1 dL_act_63 rfl rfl ?_
  refine n_iconst (v := (4 : Int32)) C dL_act_64 (by decide) ?_
  refine n_icmp_ne_f (tgt := 90) C dL_act_65 (by decide) (by decide) ?_
  refine n_iload_n C 1 dL_act_90 rfl rfl ?_
  refine n_iconst (v := (5 : Int32)) C dL_act_91 (by decide) ?_
  refine n_icmp_ne_f (tgt := 103) C dL_act_92 (by decide) (by decide) ?_
  refine n_iload_n C 1 dL_act_103 rfl rfl ?_
  refine n_bipush (v := (6 : Int32)) C dL_act_104 (by decide) ?_
  refine n_icmp_ne_f (tgt := 135) C dL_act_106 (by decide) (by decide) ?_
  refine n_iload_n C 1 dL_act_135 rfl rfl ?_
  refine n_bipush (v := (7 : Int32)) C dL_act_136 (by decide) ?_
  refine n_icmp_ne_t (tgt := 148) C dL_act_138 (by decide) (by decide) ?_
  refine n_aload_n C 0 dL_act_141 rfl rfl ?_
  refine n_callx (As := []) (n := 0) C (c_Game_find l hl D cI cJ ad) hF (by rcases hq with rfl | rfl | rfl <;> decide) ⟨rfl, rfl⟩ gcl5 rfl lwv_find (hR := ⟨Nat.le_of_ble_eq_true rfl, Nat.le_of_ble_eq_true rfl⟩) rfl rfl (Nat.le_of_ble_eq_true rfl) dL_act_142 ⟨Nat.le_of_ble_eq_true rfl, Nat.le_of_ble_eq_true rfl⟩ ?_
  rcases hq with rfl | rfl | rfl
  · rw [show gEx (1 : Int32) = "java/lang/IndexOutOfBoundsException" from rfl, show nAns (1 : Int32) = (-1671 : Int32) from rfl]
    refine n_catch C htab [] [⟨0, 317, 324, 78⟩, ⟨0, 317, 330, 80⟩] ⟨0, 317, 318, 76⟩ rfl [] (fun z hz => nomatch hz) (by decide) (by decide) lq10 lq11 (fun q => ?_)
    refine n_astore (L' := [(6, .ref q), (0, .ref (ad 0)), (1, .int (7 : Int32)), (2, .int p2), (3, .int p3), (4, .int p4), (5, .int p5)]) C dL_act_318 (by decide) rfl ?_
    refine n_sipush (v := (-1671 : Int32)) C dL_act_320 (by decide) ?_
    exact n_reti C hr dL_act_323 (Nat.le_of_ble_eq_true rfl) (Nat.le_of_ble_eq_true rfl) (Nat.le_of_ble_eq_true rfl)
  · rw [show gEx (2 : Int32) = "java/lang/IllegalArgumentException" from rfl, show nAns (2 : Int32) = (-1672 : Int32) from rfl]
    refine n_catch C htab [⟨0, 317, 318, 76⟩] [⟨0, 317, 330, 80⟩] ⟨0, 317, 324, 78⟩ rfl [] (fun z hz => by
        simp only [List.mem_cons, List.not_mem_nil, or_false] at hz
        subst hz
        exact ⟨by decide, "java/lang/IndexOutOfBoundsException", lq10, by decide +kernel⟩) (by decide) (by decide) lq12 lq13 (fun q => ?_)
    refine n_astore (L' := [(6, .ref q), (0, .ref (ad 0)), (1, .int (7 : Int32)), (2, .int p2), (3, .int p3), (4, .int p4), (5, .int p5)]) C dL_act_324 (by decide) rfl ?_
    refine n_sipush (v := (-1672 : Int32)) C dL_act_326 (by decide) ?_
    exact n_reti C hr dL_act_329 (Nat.le_of_ble_eq_true rfl) (Nat.le_of_ble_eq_true rfl) (Nat.le_of_ble_eq_true rfl)
  · rw [show gEx (3 : Int32) = "java/lang/IllegalStateException" from rfl, show nAns (3 : Int32) = (-1673 : Int32) from rfl]
    refine n_catch C htab [⟨0, 317, 318, 76⟩, ⟨0, 317, 324, 78⟩] [] ⟨0, 317, 330, 80⟩ rfl [] (fun z hz => by
        simp only [List.mem_cons, List.not_mem_nil, or_false] at hz
        rcases hz with rfl | rfl
        · exact ⟨by decide, "java/lang/IndexOutOfBoundsException", lq10, by decide +kernel⟩
        · exact ⟨by decide, "java/lang/IllegalArgumentException", lq12, by decide +kernel⟩) (by decide) (by decide) lq14 lq15 (fun q => ?_)
    refine n_astore (L' := [(6, .ref q), (0, .ref (ad 0)), (1, .int (7 : Int32)), (2, .int p2), (3, .int p3), (4, .int p4), (5, .int p5)]) C dL_act_330 (by decide) rfl ?_
    refine n_sipush (v := (-1673 : Int32)) C dL_act_332 (by decide) ?_
    exact n_reti C hr dL_act_335 (Nat.le_of_ble_eq_true rfl) (Nat.le_of_ble_eq_true rfl) (Nat.le_of_ble_eq_true rfl)
set_option maxHeartbeats 4000000 in
set_option maxRecDepth 100000 in
theorem a_exchange (l : Launch) (hl : l.stackTraces = false) (D : va_G) (cI cJ : ClassId) (ad : Nat → Nat) (σ : gSt) (p2 p3 p4 p5 : Int32) {q v : Int32} (hF : F_Game_exchange p2 p3 σ = some (q, v, σ)) (hq : q = 1 ∨ q = 2 ∨ q = 3) : nMh l D cI cJ ad yL_act cL_act 7 (some .int) [(0, 317, 318, 76), (0, 317, 324, 78), (0, 317, 330, 80)] { frames := 8, cells := 1, slots := 6, locals := 130 } [.ref (ad 0), .int (8 : Int32), .int p2, .int p3, .int p4, .int p5] σ (nAns q) 1 6 1 := by
  refine nStartH (Qc := fun sz => nQi D cI cJ ad σ (nAns q) 1 sz) (L0 := [(0, .ref (ad 0)), (1, .int (8 : Int32)), (2, .int p2), (3, .int p3), (4, .int p4), (5, .int p5)]) RL (by decide) rfl rfl (Nat.le_of_ble_eq_true rfl) ?_
  intro p e s m args below meth c C hr htab
  refine n_iload_n C 1 dL_act_0 rfl rfl ?_
  refine n_if_ne_f (tgt := 15) C dL_act_1 (by decide) (by decide) ?_
  refine n_iload_n C 1 dL_act_15 rfl rfl ?_
  refine n_iconst (v := (1 : Int32)) C dL_act_16 (by decide) ?_
  refine n_icmp_ne_f (tgt := 29) C dL_act_17 (by decide) (by decide) ?_
  refine n_iload_n C 1 dL_act_29 rfl rfl ?_
  refine n_iconst (v := (2 : Int32)) C dL_act_30 (by decide) ?_
  refine n_icmp_ne_f (tgt := 42) C dL_act_31 (by decide) (by decide) ?_
  refine n_iload_n C 1 dL_act_42 rfl rfl ?_
  refine n_iconst (v := (3 : Int32)) C dL_act_43 (by decide) ?_
  refine n_icmp_ne_f (tgt := 63) C dL_act_44 (by decide) (by decide) ?_
  refine n_iload_n C 1 dL_act_63 rfl rfl ?_
  refine n_iconst (v := (4 : Int32)) C dL_act_64 (by decide) ?_
  refine n_icmp_ne_f (tgt := 90) C dL_act_65 (by decide) (by decide) ?_
  refine n_iload_n C 1 dL_act_90 rfl rfl ?_
  refine n_iconst (v := (5 : Int32)) C dL_act_91 (by decide) ?_
  refine n_icmp_ne_f (tgt := 103) C dL_act_92 (by decide) (by decide) ?_
  refine n_iload_n C 1 dL_act_103 rfl rfl ?_
  refine n_bipush (v := (6 : Int32)) C dL_act_104 (by decide) ?_
  refine n_icmp_ne_f (tgt := 135) C dL_act_106 (by decide) (by decide) ?_
  refine n_iload_n C 1 dL_act_135 rfl rfl ?_
  refine n_bipush (v := (7 : Int32)) C dL_act_136 (by decide) ?_
  refine n_icmp_ne_f (tgt := 148) C dL_act_138 (by decide) (by decide) ?_
  refine n_iload_n C 1 dL_act_148 rfl rfl ?_
  refine n_bipush (v := (8 : Int32)) C dL_act_149 (by decide) ?_
  refine n_icmp_ne_t (tgt := 171) C dL_act_151 (by decide) (by decide) ?_
  refine n_aload_n C 0 dL_act_154 rfl rfl ?_
  refine n_iload_n C 2 dL_act_155 rfl rfl ?_
  refine n_iload_n C 3 dL_act_156 rfl rfl ?_
  refine n_callx (As := [.int p2, .int p3]) (n := 2) C (c_Game_exchange l hl D cI cJ ad p2 p3) hF (by rcases hq with rfl | rfl | rfl <;> decide) ⟨rfl, rfl⟩ gcl5 rfl lwv_exchange (hR := ⟨Nat.le_of_ble_eq_true rfl, Nat.le_of_ble_eq_true rfl⟩) rfl rfl (Nat.le_of_ble_eq_true rfl) dL_act_157 ⟨Nat.le_of_ble_eq_true rfl, Nat.le_of_ble_eq_true rfl⟩ ?_
  rcases hq with rfl | rfl | rfl
  · rw [show gEx (1 : Int32) = "java/lang/IndexOutOfBoundsException" from rfl, show nAns (1 : Int32) = (-1671 : Int32) from rfl]
    refine n_catch C htab [] [⟨0, 317, 324, 78⟩, ⟨0, 317, 330, 80⟩] ⟨0, 317, 318, 76⟩ rfl [] (fun z hz => nomatch hz) (by decide) (by decide) lq10 lq11 (fun q => ?_)
    refine n_astore (L' := [(6, .ref q), (0, .ref (ad 0)), (1, .int (8 : Int32)), (2, .int p2), (3, .int p3), (4, .int p4), (5, .int p5)]) C dL_act_318 (by decide) rfl ?_
    refine n_sipush (v := (-1671 : Int32)) C dL_act_320 (by decide) ?_
    exact n_reti C hr dL_act_323 (Nat.le_of_ble_eq_true rfl) (Nat.le_of_ble_eq_true rfl) (Nat.le_of_ble_eq_true rfl)
  · rw [show gEx (2 : Int32) = "java/lang/IllegalArgumentException" from rfl, show nAns (2 : Int32) = (-1672 : Int32) from rfl]
    refine n_catch C htab [⟨0, 317, 318, 76⟩] [⟨0, 317, 330, 80⟩] ⟨0, 317, 324, 78⟩ rfl [] (fun z hz => by
        simp only [List.mem_cons, List.not_mem_nil, or_false] at hz
        subst hz
        exact ⟨by decide, "java/lang/IndexOutOfBoundsException", lq10, by decide +kernel⟩) (by decide) (by decide) lq12 lq13 (fun q => ?_)
    refine n_astore (L' := [(6, .ref q), (0, .ref (ad 0)), (1, .int (8 : Int32)), (2, .int p2), (3, .int p3), (4, .int p4), (5, .int p5)]) C dL_act_324 (by decide) rfl ?_
    refine n_sipush (v := (-1672 : Int32)) C dL_act_326 (by decide) ?_
    exact n_reti C hr dL_act_329 (Nat.le_of_ble_eq_true rfl) (Nat.le_of_ble_eq_true rfl) (Nat.le_of_ble_eq_true rfl)
  · rw [show gEx (3 : Int32) = "java/lang/IllegalStateException" from rfl, show nAns (3 : Int32) = (-1673 : Int32) from rfl]
    refine n_catch C htab [⟨0, 317, 318, 76⟩, ⟨0, 317, 324, 78⟩] [] ⟨0, 317, 330, 80⟩ rfl [] (fun z hz => by
        simp only [List.mem_cons, List.not_mem_nil, or_false] at hz
        rcases hz with rfl | rfl
        · exact ⟨by decide, "java/lang/IndexOutOfBoundsException", lq10, by decide +kernel⟩
        · exact ⟨by decide, "java/lang/IllegalArgumentException", lq12, by decide +kernel⟩) (by decide) (by decide) lq14 lq15 (fun q => ?_)
    refine n_astore (L' := [(6, .ref q), (0, .ref (ad 0)), (1, .int (8 : Int32)), (2, .int p2), (3, .int p3), (4, .int p4), (5, .int p5)]) C dL_act_330 (by decide) rfl ?_
    refine n_sipush (v := (-1673 : Int32)) C dL_act_332 (by decide) ?_
    exact n_reti C hr dL_act_335 (Nat.le_of_ble_eq_true rfl) (Nat.le_of_ble_eq_true rfl) (Nat.le_of_ble_eq_true rfl)
set_option maxHeartbeats 4000000 in
set_option maxRecDepth 100000 in
theorem a_substitute (l : Launch) (hl : l.stackTraces = false) (D : va_G) (cI cJ : ClassId) (ad : Nat → Nat) (σ : gSt) (p2 p3 p4 p5 : Int32) {q v : Int32} (hF : F_Game_substitute p2 p3 p4 σ = some (q, v, σ)) (hq : q = 1 ∨ q = 2 ∨ q = 3) : nMh l D cI cJ ad yL_act cL_act 7 (some .int) [(0, 317, 318, 76), (0, 317, 324, 78), (0, 317, 330, 80)] { frames := 8, cells := 1, slots := 6, locals := 126 } [.ref (ad 0), .int (9 : Int32), .int p2, .int p3, .int p4, .int p5] σ (nAns q) 1 6 1 := by
  refine nStartH (Qc := fun sz => nQi D cI cJ ad σ (nAns q) 1 sz) (L0 := [(0, .ref (ad 0)), (1, .int (9 : Int32)), (2, .int p2), (3, .int p3), (4, .int p4), (5, .int p5)]) RL (by decide) rfl rfl (Nat.le_of_ble_eq_true rfl) ?_
  intro p e s m args below meth c C hr htab
  refine n_iload_n C 1 dL_act_0 rfl rfl ?_
  refine n_if_ne_f (tgt := 15) C dL_act_1 (by decide) (by decide) ?_
  refine n_iload_n C 1 dL_act_15 rfl rfl ?_
  refine n_iconst (v := (1 : Int32)) C dL_act_16 (by decide) ?_
  refine n_icmp_ne_f (tgt := 29) C dL_act_17 (by decide) (by decide) ?_
  refine n_iload_n C 1 dL_act_29 rfl rfl ?_
  refine n_iconst (v := (2 : Int32)) C dL_act_30 (by decide) ?_
  refine n_icmp_ne_f (tgt := 42) C dL_act_31 (by decide) (by decide) ?_
  refine n_iload_n C 1 dL_act_42 rfl rfl ?_
  refine n_iconst (v := (3 : Int32)) C dL_act_43 (by decide) ?_
  refine n_icmp_ne_f (tgt := 63) C dL_act_44 (by decide) (by decide) ?_
  refine n_iload_n C 1 dL_act_63 rfl rfl ?_
  refine n_iconst (v := (4 : Int32)) C dL_act_64 (by decide) ?_
  refine n_icmp_ne_f (tgt := 90) C dL_act_65 (by decide) (by decide) ?_
  refine n_iload_n C 1 dL_act_90 rfl rfl ?_
  refine n_iconst (v := (5 : Int32)) C dL_act_91 (by decide) ?_
  refine n_icmp_ne_f (tgt := 103) C dL_act_92 (by decide) (by decide) ?_
  refine n_iload_n C 1 dL_act_103 rfl rfl ?_
  refine n_bipush (v := (6 : Int32)) C dL_act_104 (by decide) ?_
  refine n_icmp_ne_f (tgt := 135) C dL_act_106 (by decide) (by decide) ?_
  refine n_iload_n C 1 dL_act_135 rfl rfl ?_
  refine n_bipush (v := (7 : Int32)) C dL_act_136 (by decide) ?_
  refine n_icmp_ne_f (tgt := 148) C dL_act_138 (by decide) (by decide) ?_
  refine n_iload_n C 1 dL_act_148 rfl rfl ?_
  refine n_bipush (v := (8 : Int32)) C dL_act_149 (by decide) ?_
  refine n_icmp_ne_f (tgt := 171) C dL_act_151 (by decide) (by decide) ?_
  refine n_iload_n C 1 dL_act_171 rfl rfl ?_
  refine n_bipush (v := (9 : Int32)) C dL_act_172 (by decide) ?_
  refine n_icmp_ne_t (tgt := 188) C dL_act_174 (by decide) (by decide) ?_
  refine n_aload_n C 0 dL_act_177 rfl rfl ?_
  refine n_iload_n C 2 dL_act_178 rfl rfl ?_
  refine n_iload_n C 3 dL_act_179 rfl rfl ?_
  refine n_iload C 4 dL_act_180 rfl ?_
  refine n_callx (As := [.int p2, .int p3, .int p4]) (n := 3) C (c_Game_substitute l hl D cI cJ ad p2 p3 p4) hF (by rcases hq with rfl | rfl | rfl <;> decide) ⟨rfl, rfl⟩ gcl5 rfl lwv_substitute (hR := ⟨Nat.le_of_ble_eq_true rfl, Nat.le_of_ble_eq_true rfl⟩) rfl rfl (Nat.le_of_ble_eq_true rfl) dL_act_182 ⟨Nat.le_of_ble_eq_true rfl, Nat.le_of_ble_eq_true rfl⟩ ?_
  rcases hq with rfl | rfl | rfl
  · rw [show gEx (1 : Int32) = "java/lang/IndexOutOfBoundsException" from rfl, show nAns (1 : Int32) = (-1671 : Int32) from rfl]
    refine n_catch C htab [] [⟨0, 317, 324, 78⟩, ⟨0, 317, 330, 80⟩] ⟨0, 317, 318, 76⟩ rfl [] (fun z hz => nomatch hz) (by decide) (by decide) lq10 lq11 (fun q => ?_)
    refine n_astore (L' := [(6, .ref q), (0, .ref (ad 0)), (1, .int (9 : Int32)), (2, .int p2), (3, .int p3), (4, .int p4), (5, .int p5)]) C dL_act_318 (by decide) rfl ?_
    refine n_sipush (v := (-1671 : Int32)) C dL_act_320 (by decide) ?_
    exact n_reti C hr dL_act_323 (Nat.le_of_ble_eq_true rfl) (Nat.le_of_ble_eq_true rfl) (Nat.le_of_ble_eq_true rfl)
  · rw [show gEx (2 : Int32) = "java/lang/IllegalArgumentException" from rfl, show nAns (2 : Int32) = (-1672 : Int32) from rfl]
    refine n_catch C htab [⟨0, 317, 318, 76⟩] [⟨0, 317, 330, 80⟩] ⟨0, 317, 324, 78⟩ rfl [] (fun z hz => by
        simp only [List.mem_cons, List.not_mem_nil, or_false] at hz
        subst hz
        exact ⟨by decide, "java/lang/IndexOutOfBoundsException", lq10, by decide +kernel⟩) (by decide) (by decide) lq12 lq13 (fun q => ?_)
    refine n_astore (L' := [(6, .ref q), (0, .ref (ad 0)), (1, .int (9 : Int32)), (2, .int p2), (3, .int p3), (4, .int p4), (5, .int p5)]) C dL_act_324 (by decide) rfl ?_
    refine n_sipush (v := (-1672 : Int32)) C dL_act_326 (by decide) ?_
    exact n_reti C hr dL_act_329 (Nat.le_of_ble_eq_true rfl) (Nat.le_of_ble_eq_true rfl) (Nat.le_of_ble_eq_true rfl)
  · rw [show gEx (3 : Int32) = "java/lang/IllegalStateException" from rfl, show nAns (3 : Int32) = (-1673 : Int32) from rfl]
    refine n_catch C htab [⟨0, 317, 318, 76⟩, ⟨0, 317, 324, 78⟩] [] ⟨0, 317, 330, 80⟩ rfl [] (fun z hz => by
        simp only [List.mem_cons, List.not_mem_nil, or_false] at hz
        rcases hz with rfl | rfl
        · exact ⟨by decide, "java/lang/IndexOutOfBoundsException", lq10, by decide +kernel⟩
        · exact ⟨by decide, "java/lang/IllegalArgumentException", lq12, by decide +kernel⟩) (by decide) (by decide) lq14 lq15 (fun q => ?_)
    refine n_astore (L' := [(6, .ref q), (0, .ref (ad 0)), (1, .int (9 : Int32)), (2, .int p2), (3, .int p3), (4, .int p4), (5, .int p5)]) C dL_act_330 (by decide) rfl ?_
    refine n_sipush (v := (-1673 : Int32)) C dL_act_332 (by decide) ?_
    exact n_reti C hr dL_act_335 (Nat.le_of_ble_eq_true rfl) (Nat.le_of_ble_eq_true rfl) (Nat.le_of_ble_eq_true rfl)
set_option maxHeartbeats 4000000 in
set_option maxRecDepth 100000 in
theorem a_challenge (l : Launch) (hl : l.stackTraces = false) (D : va_G) (cI cJ : ClassId) (ad : Nat → Nat) (σ : gSt) (p2 p3 p4 p5 : Int32) {q v : Int32} (hF : F_Game_challenge p2 σ = some (q, v, σ)) (hq : q = 1 ∨ q = 2 ∨ q = 3) : nMh l D cI cJ ad yL_act cL_act 7 (some .int) [(0, 317, 318, 76), (0, 317, 324, 78), (0, 317, 330, 80)] { frames := 8, cells := 1, slots := 6, locals := 152 } [.ref (ad 0), .int (10 : Int32), .int p2, .int p3, .int p4, .int p5] σ (nAns q) 1 6 1 := by
  refine nStartH (Qc := fun sz => nQi D cI cJ ad σ (nAns q) 1 sz) (L0 := [(0, .ref (ad 0)), (1, .int (10 : Int32)), (2, .int p2), (3, .int p3), (4, .int p4), (5, .int p5)]) RL (by decide) rfl rfl (Nat.le_of_ble_eq_true rfl) ?_
  intro p e s m args below meth c C hr htab
  refine n_iload_n C 1 dL_act_0 rfl rfl ?_
  refine n_if_ne_f (tgt := 15) C dL_act_1 (by decide) (by decide) ?_
  refine n_iload_n C 1 dL_act_15 rfl rfl ?_
  refine n_iconst (v := (1 : Int32)) C dL_act_16 (by decide) ?_
  refine n_icmp_ne_f (tgt := 29) C dL_act_17 (by decide) (by decide) ?_
  refine n_iload_n C 1 dL_act_29 rfl rfl ?_
  refine n_iconst (v := (2 : Int32)) C dL_act_30 (by decide) ?_
  refine n_icmp_ne_f (tgt := 42) C dL_act_31 (by decide) (by decide) ?_
  refine n_iload_n C 1 dL_act_42 rfl rfl ?_
  refine n_iconst (v := (3 : Int32)) C dL_act_43 (by decide) ?_
  refine n_icmp_ne_f (tgt := 63) C dL_act_44 (by decide) (by decide) ?_
  refine n_iload_n C 1 dL_act_63 rfl rfl ?_
  refine n_iconst (v := (4 : Int32)) C dL_act_64 (by decide) ?_
  refine n_icmp_ne_f (tgt := 90) C dL_act_65 (by decide) (by decide) ?_
  refine n_iload_n C 1 dL_act_90 rfl rfl ?_
  refine n_iconst (v := (5 : Int32)) C dL_act_91 (by decide) ?_
  refine n_icmp_ne_f (tgt := 103) C dL_act_92 (by decide) (by decide) ?_
  refine n_iload_n C 1 dL_act_103 rfl rfl ?_
  refine n_bipush (v := (6 : Int32)) C dL_act_104 (by decide) ?_
  refine n_icmp_ne_f (tgt := 135) C dL_act_106 (by decide) (by decide) ?_
  refine n_iload_n C 1 dL_act_135 rfl rfl ?_
  refine n_bipush (v := (7 : Int32)) C dL_act_136 (by decide) ?_
  refine n_icmp_ne_f (tgt := 148) C dL_act_138 (by decide) (by decide) ?_
  refine n_iload_n C 1 dL_act_148 rfl rfl ?_
  refine n_bipush (v := (8 : Int32)) C dL_act_149 (by decide) ?_
  refine n_icmp_ne_f (tgt := 171) C dL_act_151 (by decide) (by decide) ?_
  refine n_iload_n C 1 dL_act_171 rfl rfl ?_
  refine n_bipush (v := (9 : Int32)) C dL_act_172 (by decide) ?_
  refine n_icmp_ne_f (tgt := 188) C dL_act_174 (by decide) (by decide) ?_
  refine n_iload_n C 1 dL_act_188 rfl rfl ?_
  refine n_bipush (v := (10 : Int32)) C dL_act_189 (by decide) ?_
  refine n_icmp_ne_t (tgt := 210) C dL_act_191 (by decide) (by decide) ?_
  refine n_aload_n C 0 dL_act_194 rfl rfl ?_
  refine n_iload_n C 2 dL_act_195 rfl rfl ?_
  refine n_callx (As := [.int p2]) (n := 1) C (c_Game_challenge l hl D cI cJ ad p2) hF (by rcases hq with rfl | rfl | rfl <;> decide) ⟨rfl, rfl⟩ gcl5 rfl lwv_challenge (hR := ⟨Nat.le_of_ble_eq_true rfl, Nat.le_of_ble_eq_true rfl⟩) rfl rfl (Nat.le_of_ble_eq_true rfl) dL_act_196 ⟨Nat.le_of_ble_eq_true rfl, Nat.le_of_ble_eq_true rfl⟩ ?_
  rcases hq with rfl | rfl | rfl
  · rw [show gEx (1 : Int32) = "java/lang/IndexOutOfBoundsException" from rfl, show nAns (1 : Int32) = (-1671 : Int32) from rfl]
    refine n_catch C htab [] [⟨0, 317, 324, 78⟩, ⟨0, 317, 330, 80⟩] ⟨0, 317, 318, 76⟩ rfl [] (fun z hz => nomatch hz) (by decide) (by decide) lq10 lq11 (fun q => ?_)
    refine n_astore (L' := [(6, .ref q), (0, .ref (ad 0)), (1, .int (10 : Int32)), (2, .int p2), (3, .int p3), (4, .int p4), (5, .int p5)]) C dL_act_318 (by decide) rfl ?_
    refine n_sipush (v := (-1671 : Int32)) C dL_act_320 (by decide) ?_
    exact n_reti C hr dL_act_323 (Nat.le_of_ble_eq_true rfl) (Nat.le_of_ble_eq_true rfl) (Nat.le_of_ble_eq_true rfl)
  · rw [show gEx (2 : Int32) = "java/lang/IllegalArgumentException" from rfl, show nAns (2 : Int32) = (-1672 : Int32) from rfl]
    refine n_catch C htab [⟨0, 317, 318, 76⟩] [⟨0, 317, 330, 80⟩] ⟨0, 317, 324, 78⟩ rfl [] (fun z hz => by
        simp only [List.mem_cons, List.not_mem_nil, or_false] at hz
        subst hz
        exact ⟨by decide, "java/lang/IndexOutOfBoundsException", lq10, by decide +kernel⟩) (by decide) (by decide) lq12 lq13 (fun q => ?_)
    refine n_astore (L' := [(6, .ref q), (0, .ref (ad 0)), (1, .int (10 : Int32)), (2, .int p2), (3, .int p3), (4, .int p4), (5, .int p5)]) C dL_act_324 (by decide) rfl ?_
    refine n_sipush (v := (-1672 : Int32)) C dL_act_326 (by decide) ?_
    exact n_reti C hr dL_act_329 (Nat.le_of_ble_eq_true rfl) (Nat.le_of_ble_eq_true rfl) (Nat.le_of_ble_eq_true rfl)
  · rw [show gEx (3 : Int32) = "java/lang/IllegalStateException" from rfl, show nAns (3 : Int32) = (-1673 : Int32) from rfl]
    refine n_catch C htab [⟨0, 317, 318, 76⟩, ⟨0, 317, 324, 78⟩] [] ⟨0, 317, 330, 80⟩ rfl [] (fun z hz => by
        simp only [List.mem_cons, List.not_mem_nil, or_false] at hz
        rcases hz with rfl | rfl
        · exact ⟨by decide, "java/lang/IndexOutOfBoundsException", lq10, by decide +kernel⟩
        · exact ⟨by decide, "java/lang/IllegalArgumentException", lq12, by decide +kernel⟩) (by decide) (by decide) lq14 lq15 (fun q => ?_)
    refine n_astore (L' := [(6, .ref q), (0, .ref (ad 0)), (1, .int (10 : Int32)), (2, .int p2), (3, .int p3), (4, .int p4), (5, .int p5)]) C dL_act_330 (by decide) rfl ?_
    refine n_sipush (v := (-1673 : Int32)) C dL_act_332 (by decide) ?_
    exact n_reti C hr dL_act_335 (Nat.le_of_ble_eq_true rfl) (Nat.le_of_ble_eq_true rfl) (Nat.le_of_ble_eq_true rfl)
set_option maxHeartbeats 4000000 in
set_option maxRecDepth 100000 in
theorem a_points (l : Launch) (hl : l.stackTraces = false) (D : va_G) (cI cJ : ClassId) (ad : Nat → Nat) (σ : gSt) (p2 p3 p4 p5 : Int32) {q v : Int32} (hF : F_Game_points p2 σ = some (q, v, σ)) (hq : q = 1 ∨ q = 2 ∨ q = 3) : nMh l D cI cJ ad yL_act cL_act 7 (some .int) [(0, 317, 318, 76), (0, 317, 324, 78), (0, 317, 330, 80)] { frames := 8, cells := 1, slots := 6, locals := 123 } [.ref (ad 0), .int (11 : Int32), .int p2, .int p3, .int p4, .int p5] σ (nAns q) 1 6 1 := by
  refine nStartH (Qc := fun sz => nQi D cI cJ ad σ (nAns q) 1 sz) (L0 := [(0, .ref (ad 0)), (1, .int (11 : Int32)), (2, .int p2), (3, .int p3), (4, .int p4), (5, .int p5)]) RL (by decide) rfl rfl (Nat.le_of_ble_eq_true rfl) ?_
  intro p e s m args below meth c C hr htab
  refine n_iload_n C 1 dL_act_0 rfl rfl ?_
  refine n_if_ne_f (tgt := 15) C dL_act_1 (by decide) (by decide) ?_
  refine n_iload_n C 1 dL_act_15 rfl rfl ?_
  refine n_iconst (v := (1 : Int32)) C dL_act_16 (by decide) ?_
  refine n_icmp_ne_f (tgt := 29) C dL_act_17 (by decide) (by decide) ?_
  refine n_iload_n C 1 dL_act_29 rfl rfl ?_
  refine n_iconst (v := (2 : Int32)) C dL_act_30 (by decide) ?_
  refine n_icmp_ne_f (tgt := 42) C dL_act_31 (by decide) (by decide) ?_
  refine n_iload_n C 1 dL_act_42 rfl rfl ?_
  refine n_iconst (v := (3 : Int32)) C dL_act_43 (by decide) ?_
  refine n_icmp_ne_f (tgt := 63) C dL_act_44 (by decide) (by decide) ?_
  refine n_iload_n C 1 dL_act_63 rfl rfl ?_
  refine n_iconst (v := (4 : Int32)) C dL_act_64 (by decide) ?_
  refine n_icmp_ne_f (tgt := 90) C dL_act_65 (by decide) (by decide) ?_
  refine n_iload_n C 1 dL_act_90 rfl rfl ?_
  refine n_iconst (v := (5 : Int32)) C dL_act_91 (by decide) ?_
  refine n_icmp_ne_f (tgt := 103) C dL_act_92 (by decide) (by decide) ?_
  refine n_iload_n C 1 dL_act_103 rfl rfl ?_
  refine n_bipush (v := (6 : Int32)) C dL_act_104 (by decide) ?_
  refine n_icmp_ne_f (tgt := 135) C dL_act_106 (by decide) (by decide) ?_
  refine n_iload_n C 1 dL_act_135 rfl rfl ?_
  refine n_bipush (v := (7 : Int32)) C dL_act_136 (by decide) ?_
  refine n_icmp_ne_f (tgt := 148) C dL_act_138 (by decide) (by decide) ?_
  refine n_iload_n C 1 dL_act_148 rfl rfl ?_
  refine n_bipush (v := (8 : Int32)) C dL_act_149 (by decide) ?_
  refine n_icmp_ne_f (tgt := 171) C dL_act_151 (by decide) (by decide) ?_
  refine n_iload_n C 1 dL_act_171 rfl rfl ?_
  refine n_bipush (v := (9 : Int32)) C dL_act_172 (by decide) ?_
  refine n_icmp_ne_f (tgt := 188) C dL_act_174 (by decide) (by decide) ?_
  refine n_iload_n C 1 dL_act_188 rfl rfl ?_
  refine n_bipush (v := (10 : Int32)) C dL_act_189 (by decide) ?_
  refine n_icmp_ne_f (tgt := 210) C dL_act_191 (by decide) (by decide) ?_
  refine n_iload_n C 1 dL_act_210 rfl rfl ?_
  refine n_bipush (v := (11 : Int32)) C dL_act_211 (by decide) ?_
  refine n_icmp_ne_t (tgt := 224) C dL_act_213 (by decide) (by decide) ?_
  refine n_aload_n C 0 dL_act_216 rfl rfl ?_
  refine n_iload_n C 2 dL_act_217 rfl rfl ?_
  refine n_callx (As := [.int p2]) (n := 1) C (c_Game_points l hl D cI cJ ad p2) hF (by rcases hq with rfl | rfl | rfl <;> decide) ⟨rfl, rfl⟩ gcl5 rfl lwv_points (hR := ⟨Nat.le_of_ble_eq_true rfl, Nat.le_of_ble_eq_true rfl⟩) rfl rfl (Nat.le_of_ble_eq_true rfl) dL_act_218 ⟨Nat.le_of_ble_eq_true rfl, Nat.le_of_ble_eq_true rfl⟩ ?_
  rcases hq with rfl | rfl | rfl
  · rw [show gEx (1 : Int32) = "java/lang/IndexOutOfBoundsException" from rfl, show nAns (1 : Int32) = (-1671 : Int32) from rfl]
    refine n_catch C htab [] [⟨0, 317, 324, 78⟩, ⟨0, 317, 330, 80⟩] ⟨0, 317, 318, 76⟩ rfl [] (fun z hz => nomatch hz) (by decide) (by decide) lq10 lq11 (fun q => ?_)
    refine n_astore (L' := [(6, .ref q), (0, .ref (ad 0)), (1, .int (11 : Int32)), (2, .int p2), (3, .int p3), (4, .int p4), (5, .int p5)]) C dL_act_318 (by decide) rfl ?_
    refine n_sipush (v := (-1671 : Int32)) C dL_act_320 (by decide) ?_
    exact n_reti C hr dL_act_323 (Nat.le_of_ble_eq_true rfl) (Nat.le_of_ble_eq_true rfl) (Nat.le_of_ble_eq_true rfl)
  · rw [show gEx (2 : Int32) = "java/lang/IllegalArgumentException" from rfl, show nAns (2 : Int32) = (-1672 : Int32) from rfl]
    refine n_catch C htab [⟨0, 317, 318, 76⟩] [⟨0, 317, 330, 80⟩] ⟨0, 317, 324, 78⟩ rfl [] (fun z hz => by
        simp only [List.mem_cons, List.not_mem_nil, or_false] at hz
        subst hz
        exact ⟨by decide, "java/lang/IndexOutOfBoundsException", lq10, by decide +kernel⟩) (by decide) (by decide) lq12 lq13 (fun q => ?_)
    refine n_astore (L' := [(6, .ref q), (0, .ref (ad 0)), (1, .int (11 : Int32)), (2, .int p2), (3, .int p3), (4, .int p4), (5, .int p5)]) C dL_act_324 (by decide) rfl ?_
    refine n_sipush (v := (-1672 : Int32)) C dL_act_326 (by decide) ?_
    exact n_reti C hr dL_act_329 (Nat.le_of_ble_eq_true rfl) (Nat.le_of_ble_eq_true rfl) (Nat.le_of_ble_eq_true rfl)
  · rw [show gEx (3 : Int32) = "java/lang/IllegalStateException" from rfl, show nAns (3 : Int32) = (-1673 : Int32) from rfl]
    refine n_catch C htab [⟨0, 317, 318, 76⟩, ⟨0, 317, 324, 78⟩] [] ⟨0, 317, 330, 80⟩ rfl [] (fun z hz => by
        simp only [List.mem_cons, List.not_mem_nil, or_false] at hz
        rcases hz with rfl | rfl
        · exact ⟨by decide, "java/lang/IndexOutOfBoundsException", lq10, by decide +kernel⟩
        · exact ⟨by decide, "java/lang/IllegalArgumentException", lq12, by decide +kernel⟩) (by decide) (by decide) lq14 lq15 (fun q => ?_)
    refine n_astore (L' := [(6, .ref q), (0, .ref (ad 0)), (1, .int (11 : Int32)), (2, .int p2), (3, .int p3), (4, .int p4), (5, .int p5)]) C dL_act_330 (by decide) rfl ?_
    refine n_sipush (v := (-1673 : Int32)) C dL_act_332 (by decide) ?_
    exact n_reti C hr dL_act_335 (Nat.le_of_ble_eq_true rfl) (Nat.le_of_ble_eq_true rfl) (Nat.le_of_ble_eq_true rfl)
set_option maxHeartbeats 4000000 in
set_option maxRecDepth 100000 in
theorem a_pointsAnew (l : Launch) (hl : l.stackTraces = false) (D : va_G) (cI cJ : ClassId) (ad : Nat → Nat) (σ : gSt) (p2 p3 p4 p5 : Int32) {q v : Int32} (hF : F_Game_pointsAnew p2 σ = some (q, v, σ)) (hq : q = 1 ∨ q = 2 ∨ q = 3) : nMh l D cI cJ ad yL_act cL_act 7 (some .int) [(0, 317, 318, 76), (0, 317, 324, 78), (0, 317, 330, 80)] { frames := 8, cells := 1, slots := 6, locals := 179 } [.ref (ad 0), .int (12 : Int32), .int p2, .int p3, .int p4, .int p5] σ (nAns q) 1 6 1 := by
  refine nStartH (Qc := fun sz => nQi D cI cJ ad σ (nAns q) 1 sz) (L0 := [(0, .ref (ad 0)), (1, .int (12 : Int32)), (2, .int p2), (3, .int p3), (4, .int p4), (5, .int p5)]) RL (by decide) rfl rfl (Nat.le_of_ble_eq_true rfl) ?_
  intro p e s m args below meth c C hr htab
  refine n_iload_n C 1 dL_act_0 rfl rfl ?_
  refine n_if_ne_f (tgt := 15) C dL_act_1 (by decide) (by decide) ?_
  refine n_iload_n C 1 dL_act_15 rfl rfl ?_
  refine n_iconst (v := (1 : Int32)) C dL_act_16 (by decide) ?_
  refine n_icmp_ne_f (tgt := 29) C dL_act_17 (by decide) (by decide) ?_
  refine n_iload_n C 1 dL_act_29 rfl rfl ?_
  refine n_iconst (v := (2 : Int32)) C dL_act_30 (by decide) ?_
  refine n_icmp_ne_f (tgt := 42) C dL_act_31 (by decide) (by decide) ?_
  refine n_iload_n C 1 dL_act_42 rfl rfl ?_
  refine n_iconst (v := (3 : Int32)) C dL_act_43 (by decide) ?_
  refine n_icmp_ne_f (tgt := 63) C dL_act_44 (by decide) (by decide) ?_
  refine n_iload_n C 1 dL_act_63 rfl rfl ?_
  refine n_iconst (v := (4 : Int32)) C dL_act_64 (by decide) ?_
  refine n_icmp_ne_f (tgt := 90) C dL_act_65 (by decide) (by decide) ?_
  refine n_iload_n C 1 dL_act_90 rfl rfl ?_
  refine n_iconst (v := (5 : Int32)) C dL_act_91 (by decide) ?_
  refine n_icmp_ne_f (tgt := 103) C dL_act_92 (by decide) (by decide) ?_
  refine n_iload_n C 1 dL_act_103 rfl rfl ?_
  refine n_bipush (v := (6 : Int32)) C dL_act_104 (by decide) ?_
  refine n_icmp_ne_f (tgt := 135) C dL_act_106 (by decide) (by decide) ?_
  refine n_iload_n C 1 dL_act_135 rfl rfl ?_
  refine n_bipush (v := (7 : Int32)) C dL_act_136 (by decide) ?_
  refine n_icmp_ne_f (tgt := 148) C dL_act_138 (by decide) (by decide) ?_
  refine n_iload_n C 1 dL_act_148 rfl rfl ?_
  refine n_bipush (v := (8 : Int32)) C dL_act_149 (by decide) ?_
  refine n_icmp_ne_f (tgt := 171) C dL_act_151 (by decide) (by decide) ?_
  refine n_iload_n C 1 dL_act_171 rfl rfl ?_
  refine n_bipush (v := (9 : Int32)) C dL_act_172 (by decide) ?_
  refine n_icmp_ne_f (tgt := 188) C dL_act_174 (by decide) (by decide) ?_
  refine n_iload_n C 1 dL_act_188 rfl rfl ?_
  refine n_bipush (v := (10 : Int32)) C dL_act_189 (by decide) ?_
  refine n_icmp_ne_f (tgt := 210) C dL_act_191 (by decide) (by decide) ?_
  refine n_iload_n C 1 dL_act_210 rfl rfl ?_
  refine n_bipush (v := (11 : Int32)) C dL_act_211 (by decide) ?_
  refine n_icmp_ne_f (tgt := 224) C dL_act_213 (by decide) (by decide) ?_
  refine n_iload_n C 1 dL_act_224 rfl rfl ?_
  refine n_bipush (v := (12 : Int32)) C dL_act_225 (by decide) ?_
  refine n_icmp_ne_t (tgt := 238) C dL_act_227 (by decide) (by decide) ?_
  refine n_aload_n C 0 dL_act_230 rfl rfl ?_
  refine n_iload_n C 2 dL_act_231 rfl rfl ?_
  refine n_callx (As := [.int p2]) (n := 1) C (c_Game_pointsAnew l hl D cI cJ ad p2) hF (by rcases hq with rfl | rfl | rfl <;> decide) ⟨rfl, rfl⟩ gcl5 rfl lwv_pointsAnew (hR := ⟨Nat.le_of_ble_eq_true rfl, Nat.le_of_ble_eq_true rfl⟩) rfl rfl (Nat.le_of_ble_eq_true rfl) dL_act_232 ⟨Nat.le_of_ble_eq_true rfl, Nat.le_of_ble_eq_true rfl⟩ ?_
  rcases hq with rfl | rfl | rfl
  · rw [show gEx (1 : Int32) = "java/lang/IndexOutOfBoundsException" from rfl, show nAns (1 : Int32) = (-1671 : Int32) from rfl]
    refine n_catch C htab [] [⟨0, 317, 324, 78⟩, ⟨0, 317, 330, 80⟩] ⟨0, 317, 318, 76⟩ rfl [] (fun z hz => nomatch hz) (by decide) (by decide) lq10 lq11 (fun q => ?_)
    refine n_astore (L' := [(6, .ref q), (0, .ref (ad 0)), (1, .int (12 : Int32)), (2, .int p2), (3, .int p3), (4, .int p4), (5, .int p5)]) C dL_act_318 (by decide) rfl ?_
    refine n_sipush (v := (-1671 : Int32)) C dL_act_320 (by decide) ?_
    exact n_reti C hr dL_act_323 (Nat.le_of_ble_eq_true rfl) (Nat.le_of_ble_eq_true rfl) (Nat.le_of_ble_eq_true rfl)
  · rw [show gEx (2 : Int32) = "java/lang/IllegalArgumentException" from rfl, show nAns (2 : Int32) = (-1672 : Int32) from rfl]
    refine n_catch C htab [⟨0, 317, 318, 76⟩] [⟨0, 317, 330, 80⟩] ⟨0, 317, 324, 78⟩ rfl [] (fun z hz => by
        simp only [List.mem_cons, List.not_mem_nil, or_false] at hz
        subst hz
        exact ⟨by decide, "java/lang/IndexOutOfBoundsException", lq10, by decide +kernel⟩) (by decide) (by decide) lq12 lq13 (fun q => ?_)
    refine n_astore (L' := [(6, .ref q), (0, .ref (ad 0)), (1, .int (12 : Int32)), (2, .int p2), (3, .int p3), (4, .int p4), (5, .int p5)]) C dL_act_324 (by decide) rfl ?_
    refine n_sipush (v := (-1672 : Int32)) C dL_act_326 (by decide) ?_
    exact n_reti C hr dL_act_329 (Nat.le_of_ble_eq_true rfl) (Nat.le_of_ble_eq_true rfl) (Nat.le_of_ble_eq_true rfl)
  · rw [show gEx (3 : Int32) = "java/lang/IllegalStateException" from rfl, show nAns (3 : Int32) = (-1673 : Int32) from rfl]
    refine n_catch C htab [⟨0, 317, 318, 76⟩, ⟨0, 317, 324, 78⟩] [] ⟨0, 317, 330, 80⟩ rfl [] (fun z hz => by
        simp only [List.mem_cons, List.not_mem_nil, or_false] at hz
        rcases hz with rfl | rfl
        · exact ⟨by decide, "java/lang/IndexOutOfBoundsException", lq10, by decide +kernel⟩
        · exact ⟨by decide, "java/lang/IllegalArgumentException", lq12, by decide +kernel⟩) (by decide) (by decide) lq14 lq15 (fun q => ?_)
    refine n_astore (L' := [(6, .ref q), (0, .ref (ad 0)), (1, .int (12 : Int32)), (2, .int p2), (3, .int p3), (4, .int p4), (5, .int p5)]) C dL_act_330 (by decide) rfl ?_
    refine n_sipush (v := (-1673 : Int32)) C dL_act_332 (by decide) ?_
    exact n_reti C hr dL_act_335 (Nat.le_of_ble_eq_true rfl) (Nat.le_of_ble_eq_true rfl) (Nat.le_of_ble_eq_true rfl)
set_option maxHeartbeats 4000000 in
set_option maxRecDepth 100000 in
theorem a_at (l : Launch) (hl : l.stackTraces = false) (D : va_G) (cI cJ : ClassId) (ad : Nat → Nat) (σ : gSt) (p2 p3 p4 p5 : Int32) {q v : Int32} (hF : F_Game_at p2 p3 σ = some (q, v, σ)) (hq : q = 1 ∨ q = 2 ∨ q = 3) : nMh l D cI cJ ad yL_act cL_act 7 (some .int) [(0, 317, 318, 76), (0, 317, 324, 78), (0, 317, 330, 80)] { frames := 8, cells := 1, slots := 6, locals := 124 } [.ref (ad 0), .int (13 : Int32), .int p2, .int p3, .int p4, .int p5] σ (nAns q) 1 6 1 := by
  refine nStartH (Qc := fun sz => nQi D cI cJ ad σ (nAns q) 1 sz) (L0 := [(0, .ref (ad 0)), (1, .int (13 : Int32)), (2, .int p2), (3, .int p3), (4, .int p4), (5, .int p5)]) RL (by decide) rfl rfl (Nat.le_of_ble_eq_true rfl) ?_
  intro p e s m args below meth c C hr htab
  refine n_iload_n C 1 dL_act_0 rfl rfl ?_
  refine n_if_ne_f (tgt := 15) C dL_act_1 (by decide) (by decide) ?_
  refine n_iload_n C 1 dL_act_15 rfl rfl ?_
  refine n_iconst (v := (1 : Int32)) C dL_act_16 (by decide) ?_
  refine n_icmp_ne_f (tgt := 29) C dL_act_17 (by decide) (by decide) ?_
  refine n_iload_n C 1 dL_act_29 rfl rfl ?_
  refine n_iconst (v := (2 : Int32)) C dL_act_30 (by decide) ?_
  refine n_icmp_ne_f (tgt := 42) C dL_act_31 (by decide) (by decide) ?_
  refine n_iload_n C 1 dL_act_42 rfl rfl ?_
  refine n_iconst (v := (3 : Int32)) C dL_act_43 (by decide) ?_
  refine n_icmp_ne_f (tgt := 63) C dL_act_44 (by decide) (by decide) ?_
  refine n_iload_n C 1 dL_act_63 rfl rfl ?_
  refine n_iconst (v := (4 : Int32)) C dL_act_64 (by decide) ?_
  refine n_icmp_ne_f (tgt := 90) C dL_act_65 (by decide) (by decide) ?_
  refine n_iload_n C 1 dL_act_90 rfl rfl ?_
  refine n_iconst (v := (5 : Int32)) C dL_act_91 (by decide) ?_
  refine n_icmp_ne_f (tgt := 103) C dL_act_92 (by decide) (by decide) ?_
  refine n_iload_n C 1 dL_act_103 rfl rfl ?_
  refine n_bipush (v := (6 : Int32)) C dL_act_104 (by decide) ?_
  refine n_icmp_ne_f (tgt := 135) C dL_act_106 (by decide) (by decide) ?_
  refine n_iload_n C 1 dL_act_135 rfl rfl ?_
  refine n_bipush (v := (7 : Int32)) C dL_act_136 (by decide) ?_
  refine n_icmp_ne_f (tgt := 148) C dL_act_138 (by decide) (by decide) ?_
  refine n_iload_n C 1 dL_act_148 rfl rfl ?_
  refine n_bipush (v := (8 : Int32)) C dL_act_149 (by decide) ?_
  refine n_icmp_ne_f (tgt := 171) C dL_act_151 (by decide) (by decide) ?_
  refine n_iload_n C 1 dL_act_171 rfl rfl ?_
  refine n_bipush (v := (9 : Int32)) C dL_act_172 (by decide) ?_
  refine n_icmp_ne_f (tgt := 188) C dL_act_174 (by decide) (by decide) ?_
  refine n_iload_n C 1 dL_act_188 rfl rfl ?_
  refine n_bipush (v := (10 : Int32)) C dL_act_189 (by decide) ?_
  refine n_icmp_ne_f (tgt := 210) C dL_act_191 (by decide) (by decide) ?_
  refine n_iload_n C 1 dL_act_210 rfl rfl ?_
  refine n_bipush (v := (11 : Int32)) C dL_act_211 (by decide) ?_
  refine n_icmp_ne_f (tgt := 224) C dL_act_213 (by decide) (by decide) ?_
  refine n_iload_n C 1 dL_act_224 rfl rfl ?_
  refine n_bipush (v := (12 : Int32)) C dL_act_225 (by decide) ?_
  refine n_icmp_ne_f (tgt := 238) C dL_act_227 (by decide) (by decide) ?_
  refine n_iload_n C 1 dL_act_238 rfl rfl ?_
  refine n_bipush (v := (13 : Int32)) C dL_act_239 (by decide) ?_
  refine n_icmp_ne_t (tgt := 253) C dL_act_241 (by decide) (by decide) ?_
  refine n_aload_n C 0 dL_act_244 rfl rfl ?_
  refine n_iload_n C 2 dL_act_245 rfl rfl ?_
  refine n_iload_n C 3 dL_act_246 rfl rfl ?_
  refine n_callx (As := [.int p2, .int p3]) (n := 2) C (c_Game_at l hl D cI cJ ad p2 p3) hF (by rcases hq with rfl | rfl | rfl <;> decide) ⟨rfl, rfl⟩ gcl5 rfl lwv_at (hR := ⟨Nat.le_of_ble_eq_true rfl, Nat.le_of_ble_eq_true rfl⟩) rfl rfl (Nat.le_of_ble_eq_true rfl) dL_act_247 ⟨Nat.le_of_ble_eq_true rfl, Nat.le_of_ble_eq_true rfl⟩ ?_
  rcases hq with rfl | rfl | rfl
  · rw [show gEx (1 : Int32) = "java/lang/IndexOutOfBoundsException" from rfl, show nAns (1 : Int32) = (-1671 : Int32) from rfl]
    refine n_catch C htab [] [⟨0, 317, 324, 78⟩, ⟨0, 317, 330, 80⟩] ⟨0, 317, 318, 76⟩ rfl [] (fun z hz => nomatch hz) (by decide) (by decide) lq10 lq11 (fun q => ?_)
    refine n_astore (L' := [(6, .ref q), (0, .ref (ad 0)), (1, .int (13 : Int32)), (2, .int p2), (3, .int p3), (4, .int p4), (5, .int p5)]) C dL_act_318 (by decide) rfl ?_
    refine n_sipush (v := (-1671 : Int32)) C dL_act_320 (by decide) ?_
    exact n_reti C hr dL_act_323 (Nat.le_of_ble_eq_true rfl) (Nat.le_of_ble_eq_true rfl) (Nat.le_of_ble_eq_true rfl)
  · rw [show gEx (2 : Int32) = "java/lang/IllegalArgumentException" from rfl, show nAns (2 : Int32) = (-1672 : Int32) from rfl]
    refine n_catch C htab [⟨0, 317, 318, 76⟩] [⟨0, 317, 330, 80⟩] ⟨0, 317, 324, 78⟩ rfl [] (fun z hz => by
        simp only [List.mem_cons, List.not_mem_nil, or_false] at hz
        subst hz
        exact ⟨by decide, "java/lang/IndexOutOfBoundsException", lq10, by decide +kernel⟩) (by decide) (by decide) lq12 lq13 (fun q => ?_)
    refine n_astore (L' := [(6, .ref q), (0, .ref (ad 0)), (1, .int (13 : Int32)), (2, .int p2), (3, .int p3), (4, .int p4), (5, .int p5)]) C dL_act_324 (by decide) rfl ?_
    refine n_sipush (v := (-1672 : Int32)) C dL_act_326 (by decide) ?_
    exact n_reti C hr dL_act_329 (Nat.le_of_ble_eq_true rfl) (Nat.le_of_ble_eq_true rfl) (Nat.le_of_ble_eq_true rfl)
  · rw [show gEx (3 : Int32) = "java/lang/IllegalStateException" from rfl, show nAns (3 : Int32) = (-1673 : Int32) from rfl]
    refine n_catch C htab [⟨0, 317, 318, 76⟩, ⟨0, 317, 324, 78⟩] [] ⟨0, 317, 330, 80⟩ rfl [] (fun z hz => by
        simp only [List.mem_cons, List.not_mem_nil, or_false] at hz
        rcases hz with rfl | rfl
        · exact ⟨by decide, "java/lang/IndexOutOfBoundsException", lq10, by decide +kernel⟩
        · exact ⟨by decide, "java/lang/IllegalArgumentException", lq12, by decide +kernel⟩) (by decide) (by decide) lq14 lq15 (fun q => ?_)
    refine n_astore (L' := [(6, .ref q), (0, .ref (ad 0)), (1, .int (13 : Int32)), (2, .int p2), (3, .int p3), (4, .int p4), (5, .int p5)]) C dL_act_330 (by decide) rfl ?_
    refine n_sipush (v := (-1673 : Int32)) C dL_act_332 (by decide) ?_
    exact n_reti C hr dL_act_335 (Nat.le_of_ble_eq_true rfl) (Nat.le_of_ble_eq_true rfl) (Nat.le_of_ble_eq_true rfl)
set_option maxHeartbeats 4000000 in
set_option maxRecDepth 100000 in
theorem a_atAnew (l : Launch) (hl : l.stackTraces = false) (D : va_G) (cI cJ : ClassId) (ad : Nat → Nat) (σ : gSt) (p2 p3 p4 p5 : Int32) {q v : Int32} (hF : F_Game_atAnew p2 p3 σ = some (q, v, σ)) (hq : q = 1 ∨ q = 2 ∨ q = 3) : nMh l D cI cJ ad yL_act cL_act 7 (some .int) [(0, 317, 318, 76), (0, 317, 324, 78), (0, 317, 330, 80)] { frames := 8, cells := 1, slots := 6, locals := 180 } [.ref (ad 0), .int (14 : Int32), .int p2, .int p3, .int p4, .int p5] σ (nAns q) 1 6 1 := by
  refine nStartH (Qc := fun sz => nQi D cI cJ ad σ (nAns q) 1 sz) (L0 := [(0, .ref (ad 0)), (1, .int (14 : Int32)), (2, .int p2), (3, .int p3), (4, .int p4), (5, .int p5)]) RL (by decide) rfl rfl (Nat.le_of_ble_eq_true rfl) ?_
  intro p e s m args below meth c C hr htab
  refine n_iload_n C 1 dL_act_0 rfl rfl ?_
  refine n_if_ne_f (tgt := 15) C dL_act_1 (by decide) (by decide) ?_
  refine n_iload_n C 1 dL_act_15 rfl rfl ?_
  refine n_iconst (v := (1 : Int32)) C dL_act_16 (by decide) ?_
  refine n_icmp_ne_f (tgt := 29) C dL_act_17 (by decide) (by decide) ?_
  refine n_iload_n C 1 dL_act_29 rfl rfl ?_
  refine n_iconst (v := (2 : Int32)) C dL_act_30 (by decide) ?_
  refine n_icmp_ne_f (tgt := 42) C dL_act_31 (by decide) (by decide) ?_
  refine n_iload_n C 1 dL_act_42 rfl rfl ?_
  refine n_iconst (v := (3 : Int32)) C dL_act_43 (by decide) ?_
  refine n_icmp_ne_f (tgt := 63) C dL_act_44 (by decide) (by decide) ?_
  refine n_iload_n C 1 dL_act_63 rfl rfl ?_
  refine n_iconst (v := (4 : Int32)) C dL_act_64 (by decide) ?_
  refine n_icmp_ne_f (tgt := 90) C dL_act_65 (by decide) (by decide) ?_
  refine n_iload_n C 1 dL_act_90 rfl rfl ?_
  refine n_iconst (v := (5 : Int32)) C dL_act_91 (by decide) ?_
  refine n_icmp_ne_f (tgt := 103) C dL_act_92 (by decide) (by decide) ?_
  refine n_iload_n C 1 dL_act_103 rfl rfl ?_
  refine n_bipush (v := (6 : Int32)) C dL_act_104 (by decide) ?_
  refine n_icmp_ne_f (tgt := 135) C dL_act_106 (by decide) (by decide) ?_
  refine n_iload_n C 1 dL_act_135 rfl rfl ?_
  refine n_bipush (v := (7 : Int32)) C dL_act_136 (by decide) ?_
  refine n_icmp_ne_f (tgt := 148) C dL_act_138 (by decide) (by decide) ?_
  refine n_iload_n C 1 dL_act_148 rfl rfl ?_
  refine n_bipush (v := (8 : Int32)) C dL_act_149 (by decide) ?_
  refine n_icmp_ne_f (tgt := 171) C dL_act_151 (by decide) (by decide) ?_
  refine n_iload_n C 1 dL_act_171 rfl rfl ?_
  refine n_bipush (v := (9 : Int32)) C dL_act_172 (by decide) ?_
  refine n_icmp_ne_f (tgt := 188) C dL_act_174 (by decide) (by decide) ?_
  refine n_iload_n C 1 dL_act_188 rfl rfl ?_
  refine n_bipush (v := (10 : Int32)) C dL_act_189 (by decide) ?_
  refine n_icmp_ne_f (tgt := 210) C dL_act_191 (by decide) (by decide) ?_
  refine n_iload_n C 1 dL_act_210 rfl rfl ?_
  refine n_bipush (v := (11 : Int32)) C dL_act_211 (by decide) ?_
  refine n_icmp_ne_f (tgt := 224) C dL_act_213 (by decide) (by decide) ?_
  refine n_iload_n C 1 dL_act_224 rfl rfl ?_
  refine n_bipush (v := (12 : Int32)) C dL_act_225 (by decide) ?_
  refine n_icmp_ne_f (tgt := 238) C dL_act_227 (by decide) (by decide) ?_
  refine n_iload_n C 1 dL_act_238 rfl rfl ?_
  refine n_bipush (v := (13 : Int32)) C dL_act_239 (by decide) ?_
  refine n_icmp_ne_f (tgt := 253) C dL_act_241 (by decide) (by decide) ?_
  refine n_iload_n C 1 dL_act_253 rfl rfl ?_
  refine n_bipush (v := (14 : Int32)) C dL_act_254 (by decide) ?_
  refine n_icmp_ne_t (tgt := 268) C dL_act_256 (by decide) (by decide) ?_
  refine n_aload_n C 0 dL_act_259 rfl rfl ?_
  refine n_iload_n C 2 dL_act_260 rfl rfl ?_
  refine n_iload_n C 3 dL_act_261 rfl rfl ?_
  refine n_callx (As := [.int p2, .int p3]) (n := 2) C (c_Game_atAnew l hl D cI cJ ad p2 p3) hF (by rcases hq with rfl | rfl | rfl <;> decide) ⟨rfl, rfl⟩ gcl5 rfl lwv_atAnew (hR := ⟨Nat.le_of_ble_eq_true rfl, Nat.le_of_ble_eq_true rfl⟩) rfl rfl (Nat.le_of_ble_eq_true rfl) dL_act_262 ⟨Nat.le_of_ble_eq_true rfl, Nat.le_of_ble_eq_true rfl⟩ ?_
  rcases hq with rfl | rfl | rfl
  · rw [show gEx (1 : Int32) = "java/lang/IndexOutOfBoundsException" from rfl, show nAns (1 : Int32) = (-1671 : Int32) from rfl]
    refine n_catch C htab [] [⟨0, 317, 324, 78⟩, ⟨0, 317, 330, 80⟩] ⟨0, 317, 318, 76⟩ rfl [] (fun z hz => nomatch hz) (by decide) (by decide) lq10 lq11 (fun q => ?_)
    refine n_astore (L' := [(6, .ref q), (0, .ref (ad 0)), (1, .int (14 : Int32)), (2, .int p2), (3, .int p3), (4, .int p4), (5, .int p5)]) C dL_act_318 (by decide) rfl ?_
    refine n_sipush (v := (-1671 : Int32)) C dL_act_320 (by decide) ?_
    exact n_reti C hr dL_act_323 (Nat.le_of_ble_eq_true rfl) (Nat.le_of_ble_eq_true rfl) (Nat.le_of_ble_eq_true rfl)
  · rw [show gEx (2 : Int32) = "java/lang/IllegalArgumentException" from rfl, show nAns (2 : Int32) = (-1672 : Int32) from rfl]
    refine n_catch C htab [⟨0, 317, 318, 76⟩] [⟨0, 317, 330, 80⟩] ⟨0, 317, 324, 78⟩ rfl [] (fun z hz => by
        simp only [List.mem_cons, List.not_mem_nil, or_false] at hz
        subst hz
        exact ⟨by decide, "java/lang/IndexOutOfBoundsException", lq10, by decide +kernel⟩) (by decide) (by decide) lq12 lq13 (fun q => ?_)
    refine n_astore (L' := [(6, .ref q), (0, .ref (ad 0)), (1, .int (14 : Int32)), (2, .int p2), (3, .int p3), (4, .int p4), (5, .int p5)]) C dL_act_324 (by decide) rfl ?_
    refine n_sipush (v := (-1672 : Int32)) C dL_act_326 (by decide) ?_
    exact n_reti C hr dL_act_329 (Nat.le_of_ble_eq_true rfl) (Nat.le_of_ble_eq_true rfl) (Nat.le_of_ble_eq_true rfl)
  · rw [show gEx (3 : Int32) = "java/lang/IllegalStateException" from rfl, show nAns (3 : Int32) = (-1673 : Int32) from rfl]
    refine n_catch C htab [⟨0, 317, 318, 76⟩, ⟨0, 317, 324, 78⟩] [] ⟨0, 317, 330, 80⟩ rfl [] (fun z hz => by
        simp only [List.mem_cons, List.not_mem_nil, or_false] at hz
        rcases hz with rfl | rfl
        · exact ⟨by decide, "java/lang/IndexOutOfBoundsException", lq10, by decide +kernel⟩
        · exact ⟨by decide, "java/lang/IllegalArgumentException", lq12, by decide +kernel⟩) (by decide) (by decide) lq14 lq15 (fun q => ?_)
    refine n_astore (L' := [(6, .ref q), (0, .ref (ad 0)), (1, .int (14 : Int32)), (2, .int p2), (3, .int p3), (4, .int p4), (5, .int p5)]) C dL_act_330 (by decide) rfl ?_
    refine n_sipush (v := (-1673 : Int32)) C dL_act_332 (by decide) ?_
    exact n_reti C hr dL_act_335 (Nat.le_of_ble_eq_true rfl) (Nat.le_of_ble_eq_true rfl) (Nat.le_of_ble_eq_true rfl)
set_option maxHeartbeats 4000000 in
set_option maxRecDepth 100000 in
theorem a_about (l : Launch) (hl : l.stackTraces = false) (D : va_G) (cI cJ : ClassId) (ad : Nat → Nat) (σ : gSt) (p2 p3 p4 p5 : Int32) {q v : Int32} (hF : F_Game_about p2 σ = some (q, v, σ)) (hq : q = 1 ∨ q = 2 ∨ q = 3) : nMh l D cI cJ ad yL_act cL_act 7 (some .int) [(0, 317, 318, 76), (0, 317, 324, 78), (0, 317, 330, 80)] { frames := 7, cells := 1, slots := 6, locals := 103 } [.ref (ad 0), .int (15 : Int32), .int p2, .int p3, .int p4, .int p5] σ (nAns q) 1 6 1 := by
  refine nStartH (Qc := fun sz => nQi D cI cJ ad σ (nAns q) 1 sz) (L0 := [(0, .ref (ad 0)), (1, .int (15 : Int32)), (2, .int p2), (3, .int p3), (4, .int p4), (5, .int p5)]) RL (by decide) rfl rfl (Nat.le_of_ble_eq_true rfl) ?_
  intro p e s m args below meth c C hr htab
  refine n_iload_n C 1 dL_act_0 rfl rfl ?_
  refine n_if_ne_f (tgt := 15) C dL_act_1 (by decide) (by decide) ?_
  refine n_iload_n C 1 dL_act_15 rfl rfl ?_
  refine n_iconst (v := (1 : Int32)) C dL_act_16 (by decide) ?_
  refine n_icmp_ne_f (tgt := 29) C dL_act_17 (by decide) (by decide) ?_
  refine n_iload_n C 1 dL_act_29 rfl rfl ?_
  refine n_iconst (v := (2 : Int32)) C dL_act_30 (by decide) ?_
  refine n_icmp_ne_f (tgt := 42) C dL_act_31 (by decide) (by decide) ?_
  refine n_iload_n C 1 dL_act_42 rfl rfl ?_
  refine n_iconst (v := (3 : Int32)) C dL_act_43 (by decide) ?_
  refine n_icmp_ne_f (tgt := 63) C dL_act_44 (by decide) (by decide) ?_
  refine n_iload_n C 1 dL_act_63 rfl rfl ?_
  refine n_iconst (v := (4 : Int32)) C dL_act_64 (by decide) ?_
  refine n_icmp_ne_f (tgt := 90) C dL_act_65 (by decide) (by decide) ?_
  refine n_iload_n C 1 dL_act_90 rfl rfl ?_
  refine n_iconst (v := (5 : Int32)) C dL_act_91 (by decide) ?_
  refine n_icmp_ne_f (tgt := 103) C dL_act_92 (by decide) (by decide) ?_
  refine n_iload_n C 1 dL_act_103 rfl rfl ?_
  refine n_bipush (v := (6 : Int32)) C dL_act_104 (by decide) ?_
  refine n_icmp_ne_f (tgt := 135) C dL_act_106 (by decide) (by decide) ?_
  refine n_iload_n C 1 dL_act_135 rfl rfl ?_
  refine n_bipush (v := (7 : Int32)) C dL_act_136 (by decide) ?_
  refine n_icmp_ne_f (tgt := 148) C dL_act_138 (by decide) (by decide) ?_
  refine n_iload_n C 1 dL_act_148 rfl rfl ?_
  refine n_bipush (v := (8 : Int32)) C dL_act_149 (by decide) ?_
  refine n_icmp_ne_f (tgt := 171) C dL_act_151 (by decide) (by decide) ?_
  refine n_iload_n C 1 dL_act_171 rfl rfl ?_
  refine n_bipush (v := (9 : Int32)) C dL_act_172 (by decide) ?_
  refine n_icmp_ne_f (tgt := 188) C dL_act_174 (by decide) (by decide) ?_
  refine n_iload_n C 1 dL_act_188 rfl rfl ?_
  refine n_bipush (v := (10 : Int32)) C dL_act_189 (by decide) ?_
  refine n_icmp_ne_f (tgt := 210) C dL_act_191 (by decide) (by decide) ?_
  refine n_iload_n C 1 dL_act_210 rfl rfl ?_
  refine n_bipush (v := (11 : Int32)) C dL_act_211 (by decide) ?_
  refine n_icmp_ne_f (tgt := 224) C dL_act_213 (by decide) (by decide) ?_
  refine n_iload_n C 1 dL_act_224 rfl rfl ?_
  refine n_bipush (v := (12 : Int32)) C dL_act_225 (by decide) ?_
  refine n_icmp_ne_f (tgt := 238) C dL_act_227 (by decide) (by decide) ?_
  refine n_iload_n C 1 dL_act_238 rfl rfl ?_
  refine n_bipush (v := (13 : Int32)) C dL_act_239 (by decide) ?_
  refine n_icmp_ne_f (tgt := 253) C dL_act_241 (by decide) (by decide) ?_
  refine n_iload_n C 1 dL_act_253 rfl rfl ?_
  refine n_bipush (v := (14 : Int32)) C dL_act_254 (by decide) ?_
  refine n_icmp_ne_f (tgt := 268) C dL_act_256 (by decide) (by decide) ?_
  refine n_iload_n C 1 dL_act_268 rfl rfl ?_
  refine n_bipush (v := (15 : Int32)) C dL_act_269 (by decide) ?_
  refine n_icmp_ne_t (tgt := 282) C dL_act_271 (by decide) (by decide) ?_
  refine n_aload_n C 0 dL_act_274 rfl rfl ?_
  refine n_iload_n C 2 dL_act_275 rfl rfl ?_
  refine n_callx (As := [.int p2]) (n := 1) C (c_Game_about l hl D cI cJ ad p2) hF (by rcases hq with rfl | rfl | rfl <;> decide) ⟨rfl, rfl⟩ gcl5 rfl lwv_about (hR := ⟨Nat.le_of_ble_eq_true rfl, Nat.le_of_ble_eq_true rfl⟩) rfl rfl (Nat.le_of_ble_eq_true rfl) dL_act_276 ⟨Nat.le_of_ble_eq_true rfl, Nat.le_of_ble_eq_true rfl⟩ ?_
  rcases hq with rfl | rfl | rfl
  · rw [show gEx (1 : Int32) = "java/lang/IndexOutOfBoundsException" from rfl, show nAns (1 : Int32) = (-1671 : Int32) from rfl]
    refine n_catch C htab [] [⟨0, 317, 324, 78⟩, ⟨0, 317, 330, 80⟩] ⟨0, 317, 318, 76⟩ rfl [] (fun z hz => nomatch hz) (by decide) (by decide) lq10 lq11 (fun q => ?_)
    refine n_astore (L' := [(6, .ref q), (0, .ref (ad 0)), (1, .int (15 : Int32)), (2, .int p2), (3, .int p3), (4, .int p4), (5, .int p5)]) C dL_act_318 (by decide) rfl ?_
    refine n_sipush (v := (-1671 : Int32)) C dL_act_320 (by decide) ?_
    exact n_reti C hr dL_act_323 (Nat.le_of_ble_eq_true rfl) (Nat.le_of_ble_eq_true rfl) (Nat.le_of_ble_eq_true rfl)
  · rw [show gEx (2 : Int32) = "java/lang/IllegalArgumentException" from rfl, show nAns (2 : Int32) = (-1672 : Int32) from rfl]
    refine n_catch C htab [⟨0, 317, 318, 76⟩] [⟨0, 317, 330, 80⟩] ⟨0, 317, 324, 78⟩ rfl [] (fun z hz => by
        simp only [List.mem_cons, List.not_mem_nil, or_false] at hz
        subst hz
        exact ⟨by decide, "java/lang/IndexOutOfBoundsException", lq10, by decide +kernel⟩) (by decide) (by decide) lq12 lq13 (fun q => ?_)
    refine n_astore (L' := [(6, .ref q), (0, .ref (ad 0)), (1, .int (15 : Int32)), (2, .int p2), (3, .int p3), (4, .int p4), (5, .int p5)]) C dL_act_324 (by decide) rfl ?_
    refine n_sipush (v := (-1672 : Int32)) C dL_act_326 (by decide) ?_
    exact n_reti C hr dL_act_329 (Nat.le_of_ble_eq_true rfl) (Nat.le_of_ble_eq_true rfl) (Nat.le_of_ble_eq_true rfl)
  · rw [show gEx (3 : Int32) = "java/lang/IllegalStateException" from rfl, show nAns (3 : Int32) = (-1673 : Int32) from rfl]
    refine n_catch C htab [⟨0, 317, 318, 76⟩, ⟨0, 317, 324, 78⟩] [] ⟨0, 317, 330, 80⟩ rfl [] (fun z hz => by
        simp only [List.mem_cons, List.not_mem_nil, or_false] at hz
        rcases hz with rfl | rfl
        · exact ⟨by decide, "java/lang/IndexOutOfBoundsException", lq10, by decide +kernel⟩
        · exact ⟨by decide, "java/lang/IllegalArgumentException", lq12, by decide +kernel⟩) (by decide) (by decide) lq14 lq15 (fun q => ?_)
    refine n_astore (L' := [(6, .ref q), (0, .ref (ad 0)), (1, .int (15 : Int32)), (2, .int p2), (3, .int p3), (4, .int p4), (5, .int p5)]) C dL_act_330 (by decide) rfl ?_
    refine n_sipush (v := (-1673 : Int32)) C dL_act_332 (by decide) ?_
    exact n_reti C hr dL_act_335 (Nat.le_of_ble_eq_true rfl) (Nat.le_of_ble_eq_true rfl) (Nat.le_of_ble_eq_true rfl)
set_option maxHeartbeats 4000000 in
set_option maxRecDepth 100000 in
theorem a_of (l : Launch) (hl : l.stackTraces = false) (D : va_G) (cI cJ : ClassId) (ad : Nat → Nat) (σ : gSt) (p2 p3 p4 p5 : Int32) {q v : Int32} (hF : F_Game_of p2 p3 σ = some (q, v, σ)) (hq : q = 1 ∨ q = 2 ∨ q = 3) : nMh l D cI cJ ad yL_act cL_act 7 (some .int) [(0, 317, 318, 76), (0, 317, 324, 78), (0, 317, 330, 80)] { frames := 8, cells := 1, slots := 6, locals := 125 } [.ref (ad 0), .int (16 : Int32), .int p2, .int p3, .int p4, .int p5] σ (nAns q) 1 6 1 := by
  refine nStartH (Qc := fun sz => nQi D cI cJ ad σ (nAns q) 1 sz) (L0 := [(0, .ref (ad 0)), (1, .int (16 : Int32)), (2, .int p2), (3, .int p3), (4, .int p4), (5, .int p5)]) RL (by decide) rfl rfl (Nat.le_of_ble_eq_true rfl) ?_
  intro p e s m args below meth c C hr htab
  refine n_iload_n C 1 dL_act_0 rfl rfl ?_
  refine n_if_ne_f (tgt := 15) C dL_act_1 (by decide) (by decide) ?_
  refine n_iload_n C 1 dL_act_15 rfl rfl ?_
  refine n_iconst (v := (1 : Int32)) C dL_act_16 (by decide) ?_
  refine n_icmp_ne_f (tgt := 29) C dL_act_17 (by decide) (by decide) ?_
  refine n_iload_n C 1 dL_act_29 rfl rfl ?_
  refine n_iconst (v := (2 : Int32)) C dL_act_30 (by decide) ?_
  refine n_icmp_ne_f (tgt := 42) C dL_act_31 (by decide) (by decide) ?_
  refine n_iload_n C 1 dL_act_42 rfl rfl ?_
  refine n_iconst (v := (3 : Int32)) C dL_act_43 (by decide) ?_
  refine n_icmp_ne_f (tgt := 63) C dL_act_44 (by decide) (by decide) ?_
  refine n_iload_n C 1 dL_act_63 rfl rfl ?_
  refine n_iconst (v := (4 : Int32)) C dL_act_64 (by decide) ?_
  refine n_icmp_ne_f (tgt := 90) C dL_act_65 (by decide) (by decide) ?_
  refine n_iload_n C 1 dL_act_90 rfl rfl ?_
  refine n_iconst (v := (5 : Int32)) C dL_act_91 (by decide) ?_
  refine n_icmp_ne_f (tgt := 103) C dL_act_92 (by decide) (by decide) ?_
  refine n_iload_n C 1 dL_act_103 rfl rfl ?_
  refine n_bipush (v := (6 : Int32)) C dL_act_104 (by decide) ?_
  refine n_icmp_ne_f (tgt := 135) C dL_act_106 (by decide) (by decide) ?_
  refine n_iload_n C 1 dL_act_135 rfl rfl ?_
  refine n_bipush (v := (7 : Int32)) C dL_act_136 (by decide) ?_
  refine n_icmp_ne_f (tgt := 148) C dL_act_138 (by decide) (by decide) ?_
  refine n_iload_n C 1 dL_act_148 rfl rfl ?_
  refine n_bipush (v := (8 : Int32)) C dL_act_149 (by decide) ?_
  refine n_icmp_ne_f (tgt := 171) C dL_act_151 (by decide) (by decide) ?_
  refine n_iload_n C 1 dL_act_171 rfl rfl ?_
  refine n_bipush (v := (9 : Int32)) C dL_act_172 (by decide) ?_
  refine n_icmp_ne_f (tgt := 188) C dL_act_174 (by decide) (by decide) ?_
  refine n_iload_n C 1 dL_act_188 rfl rfl ?_
  refine n_bipush (v := (10 : Int32)) C dL_act_189 (by decide) ?_
  refine n_icmp_ne_f (tgt := 210) C dL_act_191 (by decide) (by decide) ?_
  refine n_iload_n C 1 dL_act_210 rfl rfl ?_
  refine n_bipush (v := (11 : Int32)) C dL_act_211 (by decide) ?_
  refine n_icmp_ne_f (tgt := 224) C dL_act_213 (by decide) (by decide) ?_
  refine n_iload_n C 1 dL_act_224 rfl rfl ?_
  refine n_bipush (v := (12 : Int32)) C dL_act_225 (by decide) ?_
  refine n_icmp_ne_f (tgt := 238) C dL_act_227 (by decide) (by decide) ?_
  refine n_iload_n C 1 dL_act_238 rfl rfl ?_
  refine n_bipush (v := (13 : Int32)) C dL_act_239 (by decide) ?_
  refine n_icmp_ne_f (tgt := 253) C dL_act_241 (by decide) (by decide) ?_
  refine n_iload_n C 1 dL_act_253 rfl rfl ?_
  refine n_bipush (v := (14 : Int32)) C dL_act_254 (by decide) ?_
  refine n_icmp_ne_f (tgt := 268) C dL_act_256 (by decide) (by decide) ?_
  refine n_iload_n C 1 dL_act_268 rfl rfl ?_
  refine n_bipush (v := (15 : Int32)) C dL_act_269 (by decide) ?_
  refine n_icmp_ne_f (tgt := 282) C dL_act_271 (by decide) (by decide) ?_
  refine n_iload_n C 1 dL_act_282 rfl rfl ?_
  refine n_bipush (v := (16 : Int32)) C dL_act_283 (by decide) ?_
  refine n_icmp_ne_t (tgt := 297) C dL_act_285 (by decide) (by decide) ?_
  refine n_aload_n C 0 dL_act_288 rfl rfl ?_
  refine n_iload_n C 2 dL_act_289 rfl rfl ?_
  refine n_iload_n C 3 dL_act_290 rfl rfl ?_
  refine n_callx (As := [.int p2, .int p3]) (n := 2) C (c_Game_of l hl D cI cJ ad p2 p3) hF (by rcases hq with rfl | rfl | rfl <;> decide) ⟨rfl, rfl⟩ gcl5 rfl lwv_of (hR := ⟨Nat.le_of_ble_eq_true rfl, Nat.le_of_ble_eq_true rfl⟩) rfl rfl (Nat.le_of_ble_eq_true rfl) dL_act_291 ⟨Nat.le_of_ble_eq_true rfl, Nat.le_of_ble_eq_true rfl⟩ ?_
  rcases hq with rfl | rfl | rfl
  · rw [show gEx (1 : Int32) = "java/lang/IndexOutOfBoundsException" from rfl, show nAns (1 : Int32) = (-1671 : Int32) from rfl]
    refine n_catch C htab [] [⟨0, 317, 324, 78⟩, ⟨0, 317, 330, 80⟩] ⟨0, 317, 318, 76⟩ rfl [] (fun z hz => nomatch hz) (by decide) (by decide) lq10 lq11 (fun q => ?_)
    refine n_astore (L' := [(6, .ref q), (0, .ref (ad 0)), (1, .int (16 : Int32)), (2, .int p2), (3, .int p3), (4, .int p4), (5, .int p5)]) C dL_act_318 (by decide) rfl ?_
    refine n_sipush (v := (-1671 : Int32)) C dL_act_320 (by decide) ?_
    exact n_reti C hr dL_act_323 (Nat.le_of_ble_eq_true rfl) (Nat.le_of_ble_eq_true rfl) (Nat.le_of_ble_eq_true rfl)
  · rw [show gEx (2 : Int32) = "java/lang/IllegalArgumentException" from rfl, show nAns (2 : Int32) = (-1672 : Int32) from rfl]
    refine n_catch C htab [⟨0, 317, 318, 76⟩] [⟨0, 317, 330, 80⟩] ⟨0, 317, 324, 78⟩ rfl [] (fun z hz => by
        simp only [List.mem_cons, List.not_mem_nil, or_false] at hz
        subst hz
        exact ⟨by decide, "java/lang/IndexOutOfBoundsException", lq10, by decide +kernel⟩) (by decide) (by decide) lq12 lq13 (fun q => ?_)
    refine n_astore (L' := [(6, .ref q), (0, .ref (ad 0)), (1, .int (16 : Int32)), (2, .int p2), (3, .int p3), (4, .int p4), (5, .int p5)]) C dL_act_324 (by decide) rfl ?_
    refine n_sipush (v := (-1672 : Int32)) C dL_act_326 (by decide) ?_
    exact n_reti C hr dL_act_329 (Nat.le_of_ble_eq_true rfl) (Nat.le_of_ble_eq_true rfl) (Nat.le_of_ble_eq_true rfl)
  · rw [show gEx (3 : Int32) = "java/lang/IllegalStateException" from rfl, show nAns (3 : Int32) = (-1673 : Int32) from rfl]
    refine n_catch C htab [⟨0, 317, 318, 76⟩, ⟨0, 317, 324, 78⟩] [] ⟨0, 317, 330, 80⟩ rfl [] (fun z hz => by
        simp only [List.mem_cons, List.not_mem_nil, or_false] at hz
        rcases hz with rfl | rfl
        · exact ⟨by decide, "java/lang/IndexOutOfBoundsException", lq10, by decide +kernel⟩
        · exact ⟨by decide, "java/lang/IllegalArgumentException", lq12, by decide +kernel⟩) (by decide) (by decide) lq14 lq15 (fun q => ?_)
    refine n_astore (L' := [(6, .ref q), (0, .ref (ad 0)), (1, .int (16 : Int32)), (2, .int p2), (3, .int p3), (4, .int p4), (5, .int p5)]) C dL_act_330 (by decide) rfl ?_
    refine n_sipush (v := (-1673 : Int32)) C dL_act_332 (by decide) ?_
    exact n_reti C hr dL_act_335 (Nat.le_of_ble_eq_true rfl) (Nat.le_of_ble_eq_true rfl) (Nat.le_of_ble_eq_true rfl)
set_option maxHeartbeats 4000000 in
set_option maxRecDepth 100000 in
theorem a_lost (l : Launch) (hl : l.stackTraces = false) (D : va_G) (cI cJ : ClassId) (ad : Nat → Nat) (σ : gSt) (p2 p3 p4 p5 : Int32) {q v : Int32} (hF : F_Game_lost p2 p3 σ = some (q, v, σ)) (hq : q = 1 ∨ q = 2 ∨ q = 3) : nMh l D cI cJ ad yL_act cL_act 7 (some .int) [(0, 317, 318, 76), (0, 317, 324, 78), (0, 317, 330, 80)] { frames := 8, cells := 1, slots := 6, locals := 180 } [.ref (ad 0), .int (17 : Int32), .int p2, .int p3, .int p4, .int p5] σ (nAns q) 1 6 1 := by
  refine nStartH (Qc := fun sz => nQi D cI cJ ad σ (nAns q) 1 sz) (L0 := [(0, .ref (ad 0)), (1, .int (17 : Int32)), (2, .int p2), (3, .int p3), (4, .int p4), (5, .int p5)]) RL (by decide) rfl rfl (Nat.le_of_ble_eq_true rfl) ?_
  intro p e s m args below meth c C hr htab
  refine n_iload_n C 1 dL_act_0 rfl rfl ?_
  refine n_if_ne_f (tgt := 15) C dL_act_1 (by decide) (by decide) ?_
  refine n_iload_n C 1 dL_act_15 rfl rfl ?_
  refine n_iconst (v := (1 : Int32)) C dL_act_16 (by decide) ?_
  refine n_icmp_ne_f (tgt := 29) C dL_act_17 (by decide) (by decide) ?_
  refine n_iload_n C 1 dL_act_29 rfl rfl ?_
  refine n_iconst (v := (2 : Int32)) C dL_act_30 (by decide) ?_
  refine n_icmp_ne_f (tgt := 42) C dL_act_31 (by decide) (by decide) ?_
  refine n_iload_n C 1 dL_act_42 rfl rfl ?_
  refine n_iconst (v := (3 : Int32)) C dL_act_43 (by decide) ?_
  refine n_icmp_ne_f (tgt := 63) C dL_act_44 (by decide) (by decide) ?_
  refine n_iload_n C 1 dL_act_63 rfl rfl ?_
  refine n_iconst (v := (4 : Int32)) C dL_act_64 (by decide) ?_
  refine n_icmp_ne_f (tgt := 90) C dL_act_65 (by decide) (by decide) ?_
  refine n_iload_n C 1 dL_act_90 rfl rfl ?_
  refine n_iconst (v := (5 : Int32)) C dL_act_91 (by decide) ?_
  refine n_icmp_ne_f (tgt := 103) C dL_act_92 (by decide) (by decide) ?_
  refine n_iload_n C 1 dL_act_103 rfl rfl ?_
  refine n_bipush (v := (6 : Int32)) C dL_act_104 (by decide) ?_
  refine n_icmp_ne_f (tgt := 135) C dL_act_106 (by decide) (by decide) ?_
  refine n_iload_n C 1 dL_act_135 rfl rfl ?_
  refine n_bipush (v := (7 : Int32)) C dL_act_136 (by decide) ?_
  refine n_icmp_ne_f (tgt := 148) C dL_act_138 (by decide) (by decide) ?_
  refine n_iload_n C 1 dL_act_148 rfl rfl ?_
  refine n_bipush (v := (8 : Int32)) C dL_act_149 (by decide) ?_
  refine n_icmp_ne_f (tgt := 171) C dL_act_151 (by decide) (by decide) ?_
  refine n_iload_n C 1 dL_act_171 rfl rfl ?_
  refine n_bipush (v := (9 : Int32)) C dL_act_172 (by decide) ?_
  refine n_icmp_ne_f (tgt := 188) C dL_act_174 (by decide) (by decide) ?_
  refine n_iload_n C 1 dL_act_188 rfl rfl ?_
  refine n_bipush (v := (10 : Int32)) C dL_act_189 (by decide) ?_
  refine n_icmp_ne_f (tgt := 210) C dL_act_191 (by decide) (by decide) ?_
  refine n_iload_n C 1 dL_act_210 rfl rfl ?_
  refine n_bipush (v := (11 : Int32)) C dL_act_211 (by decide) ?_
  refine n_icmp_ne_f (tgt := 224) C dL_act_213 (by decide) (by decide) ?_
  refine n_iload_n C 1 dL_act_224 rfl rfl ?_
  refine n_bipush (v := (12 : Int32)) C dL_act_225 (by decide) ?_
  refine n_icmp_ne_f (tgt := 238) C dL_act_227 (by decide) (by decide) ?_
  refine n_iload_n C 1 dL_act_238 rfl rfl ?_
  refine n_bipush (v := (13 : Int32)) C dL_act_239 (by decide) ?_
  refine n_icmp_ne_f (tgt := 253) C dL_act_241 (by decide) (by decide) ?_
  refine n_iload_n C 1 dL_act_253 rfl rfl ?_
  refine n_bipush (v := (14 : Int32)) C dL_act_254 (by decide) ?_
  refine n_icmp_ne_f (tgt := 268) C dL_act_256 (by decide) (by decide) ?_
  refine n_iload_n C 1 dL_act_268 rfl rfl ?_
  refine n_bipush (v := (15 : Int32)) C dL_act_269 (by decide) ?_
  refine n_icmp_ne_f (tgt := 282) C dL_act_271 (by decide) (by decide) ?_
  refine n_iload_n C 1 dL_act_282 rfl rfl ?_
  refine n_bipush (v := (16 : Int32)) C dL_act_283 (by decide) ?_
  refine n_icmp_ne_f (tgt := 297) C dL_act_285 (by decide) (by decide) ?_
  refine n_iload_n C 1 dL_act_297 rfl rfl ?_
  refine n_bipush (v := (17 : Int32)) C dL_act_298 (by decide) ?_
  refine n_icmp_ne_t (tgt := 312) C dL_act_300 (by decide) (by decide) ?_
  refine n_aload_n C 0 dL_act_303 rfl rfl ?_
  refine n_iload_n C 2 dL_act_304 rfl rfl ?_
  refine n_iload_n C 3 dL_act_305 rfl rfl ?_
  refine n_callx (As := [.int p2, .int p3]) (n := 2) C (c_Game_lost l hl D cI cJ ad p2 p3) hF (by rcases hq with rfl | rfl | rfl <;> decide) ⟨rfl, rfl⟩ gcl5 rfl lwv_lost (hR := ⟨Nat.le_of_ble_eq_true rfl, Nat.le_of_ble_eq_true rfl⟩) rfl rfl (Nat.le_of_ble_eq_true rfl) dL_act_306 ⟨Nat.le_of_ble_eq_true rfl, Nat.le_of_ble_eq_true rfl⟩ ?_
  rcases hq with rfl | rfl | rfl
  · rw [show gEx (1 : Int32) = "java/lang/IndexOutOfBoundsException" from rfl, show nAns (1 : Int32) = (-1671 : Int32) from rfl]
    refine n_catch C htab [] [⟨0, 317, 324, 78⟩, ⟨0, 317, 330, 80⟩] ⟨0, 317, 318, 76⟩ rfl [] (fun z hz => nomatch hz) (by decide) (by decide) lq10 lq11 (fun q => ?_)
    refine n_astore (L' := [(6, .ref q), (0, .ref (ad 0)), (1, .int (17 : Int32)), (2, .int p2), (3, .int p3), (4, .int p4), (5, .int p5)]) C dL_act_318 (by decide) rfl ?_
    refine n_sipush (v := (-1671 : Int32)) C dL_act_320 (by decide) ?_
    exact n_reti C hr dL_act_323 (Nat.le_of_ble_eq_true rfl) (Nat.le_of_ble_eq_true rfl) (Nat.le_of_ble_eq_true rfl)
  · rw [show gEx (2 : Int32) = "java/lang/IllegalArgumentException" from rfl, show nAns (2 : Int32) = (-1672 : Int32) from rfl]
    refine n_catch C htab [⟨0, 317, 318, 76⟩] [⟨0, 317, 330, 80⟩] ⟨0, 317, 324, 78⟩ rfl [] (fun z hz => by
        simp only [List.mem_cons, List.not_mem_nil, or_false] at hz
        subst hz
        exact ⟨by decide, "java/lang/IndexOutOfBoundsException", lq10, by decide +kernel⟩) (by decide) (by decide) lq12 lq13 (fun q => ?_)
    refine n_astore (L' := [(6, .ref q), (0, .ref (ad 0)), (1, .int (17 : Int32)), (2, .int p2), (3, .int p3), (4, .int p4), (5, .int p5)]) C dL_act_324 (by decide) rfl ?_
    refine n_sipush (v := (-1672 : Int32)) C dL_act_326 (by decide) ?_
    exact n_reti C hr dL_act_329 (Nat.le_of_ble_eq_true rfl) (Nat.le_of_ble_eq_true rfl) (Nat.le_of_ble_eq_true rfl)
  · rw [show gEx (3 : Int32) = "java/lang/IllegalStateException" from rfl, show nAns (3 : Int32) = (-1673 : Int32) from rfl]
    refine n_catch C htab [⟨0, 317, 318, 76⟩, ⟨0, 317, 324, 78⟩] [] ⟨0, 317, 330, 80⟩ rfl [] (fun z hz => by
        simp only [List.mem_cons, List.not_mem_nil, or_false] at hz
        rcases hz with rfl | rfl
        · exact ⟨by decide, "java/lang/IndexOutOfBoundsException", lq10, by decide +kernel⟩
        · exact ⟨by decide, "java/lang/IllegalArgumentException", lq12, by decide +kernel⟩) (by decide) (by decide) lq14 lq15 (fun q => ?_)
    refine n_astore (L' := [(6, .ref q), (0, .ref (ad 0)), (1, .int (17 : Int32)), (2, .int p2), (3, .int p3), (4, .int p4), (5, .int p5)]) C dL_act_330 (by decide) rfl ?_
    refine n_sipush (v := (-1673 : Int32)) C dL_act_332 (by decide) ?_
    exact n_reti C hr dL_act_335 (Nat.le_of_ble_eq_true rfl) (Nat.le_of_ble_eq_true rfl) (Nat.le_of_ble_eq_true rfl)
set_option maxHeartbeats 4000000 in
set_option maxRecDepth 100000 in
theorem a_sets (l : Launch) (hl : l.stackTraces = false) (D : va_G) (cI cJ : ClassId) (ad : Nat → Nat) (σ : gSt) (p2 p3 p4 p5 : Int32) {q v : Int32} (hF : F_Game_sets p2 σ = some (q, v, σ)) (hq : q = 1 ∨ q = 2 ∨ q = 3) : nMh l D cI cJ ad yL_act cL_act 7 (some .int) [(0, 317, 318, 76), (0, 317, 324, 78), (0, 317, 330, 80)] { frames := 8, cells := 1, slots := 6, locals := 123 } [.ref (ad 0), .int (18 : Int32), .int p2, .int p3, .int p4, .int p5] σ (nAns q) 1 6 1 := by
  refine nStartH (Qc := fun sz => nQi D cI cJ ad σ (nAns q) 1 sz) (L0 := [(0, .ref (ad 0)), (1, .int (18 : Int32)), (2, .int p2), (3, .int p3), (4, .int p4), (5, .int p5)]) RL (by decide) rfl rfl (Nat.le_of_ble_eq_true rfl) ?_
  intro p e s m args below meth c C hr htab
  refine n_iload_n C 1 dL_act_0 rfl rfl ?_
  refine n_if_ne_f (tgt := 15) C dL_act_1 (by decide) (by decide) ?_
  refine n_iload_n C 1 dL_act_15 rfl rfl ?_
  refine n_iconst (v := (1 : Int32)) C dL_act_16 (by decide) ?_
  refine n_icmp_ne_f (tgt := 29) C dL_act_17 (by decide) (by decide) ?_
  refine n_iload_n C 1 dL_act_29 rfl rfl ?_
  refine n_iconst (v := (2 : Int32)) C dL_act_30 (by decide) ?_
  refine n_icmp_ne_f (tgt := 42) C dL_act_31 (by decide) (by decide) ?_
  refine n_iload_n C 1 dL_act_42 rfl rfl ?_
  refine n_iconst (v := (3 : Int32)) C dL_act_43 (by decide) ?_
  refine n_icmp_ne_f (tgt := 63) C dL_act_44 (by decide) (by decide) ?_
  refine n_iload_n C 1 dL_act_63 rfl rfl ?_
  refine n_iconst (v := (4 : Int32)) C dL_act_64 (by decide) ?_
  refine n_icmp_ne_f (tgt := 90) C dL_act_65 (by decide) (by decide) ?_
  refine n_iload_n C 1 dL_act_90 rfl rfl ?_
  refine n_iconst (v := (5 : Int32)) C dL_act_91 (by decide) ?_
  refine n_icmp_ne_f (tgt := 103) C dL_act_92 (by decide) (by decide) ?_
  refine n_iload_n C 1 dL_act_103 rfl rfl ?_
  refine n_bipush (v := (6 : Int32)) C dL_act_104 (by decide) ?_
  refine n_icmp_ne_f (tgt := 135) C dL_act_106 (by decide) (by decide) ?_
  refine n_iload_n C 1 dL_act_135 rfl rfl ?_
  refine n_bipush (v := (7 : Int32)) C dL_act_136 (by decide) ?_
  refine n_icmp_ne_f (tgt := 148) C dL_act_138 (by decide) (by decide) ?_
  refine n_iload_n C 1 dL_act_148 rfl rfl ?_
  refine n_bipush (v := (8 : Int32)) C dL_act_149 (by decide) ?_
  refine n_icmp_ne_f (tgt := 171) C dL_act_151 (by decide) (by decide) ?_
  refine n_iload_n C 1 dL_act_171 rfl rfl ?_
  refine n_bipush (v := (9 : Int32)) C dL_act_172 (by decide) ?_
  refine n_icmp_ne_f (tgt := 188) C dL_act_174 (by decide) (by decide) ?_
  refine n_iload_n C 1 dL_act_188 rfl rfl ?_
  refine n_bipush (v := (10 : Int32)) C dL_act_189 (by decide) ?_
  refine n_icmp_ne_f (tgt := 210) C dL_act_191 (by decide) (by decide) ?_
  refine n_iload_n C 1 dL_act_210 rfl rfl ?_
  refine n_bipush (v := (11 : Int32)) C dL_act_211 (by decide) ?_
  refine n_icmp_ne_f (tgt := 224) C dL_act_213 (by decide) (by decide) ?_
  refine n_iload_n C 1 dL_act_224 rfl rfl ?_
  refine n_bipush (v := (12 : Int32)) C dL_act_225 (by decide) ?_
  refine n_icmp_ne_f (tgt := 238) C dL_act_227 (by decide) (by decide) ?_
  refine n_iload_n C 1 dL_act_238 rfl rfl ?_
  refine n_bipush (v := (13 : Int32)) C dL_act_239 (by decide) ?_
  refine n_icmp_ne_f (tgt := 253) C dL_act_241 (by decide) (by decide) ?_
  refine n_iload_n C 1 dL_act_253 rfl rfl ?_
  refine n_bipush (v := (14 : Int32)) C dL_act_254 (by decide) ?_
  refine n_icmp_ne_f (tgt := 268) C dL_act_256 (by decide) (by decide) ?_
  refine n_iload_n C 1 dL_act_268 rfl rfl ?_
  refine n_bipush (v := (15 : Int32)) C dL_act_269 (by decide) ?_
  refine n_icmp_ne_f (tgt := 282) C dL_act_271 (by decide) (by decide) ?_
  refine n_iload_n C 1 dL_act_282 rfl rfl ?_
  refine n_bipush (v := (16 : Int32)) C dL_act_283 (by decide) ?_
  refine n_icmp_ne_f (tgt := 297) C dL_act_285 (by decide) (by decide) ?_
  refine n_iload_n C 1 dL_act_297 rfl rfl ?_
  refine n_bipush (v := (17 : Int32)) C dL_act_298 (by decide) ?_
  refine n_icmp_ne_f (tgt := 312) C dL_act_300 (by decide) (by decide) ?_
  refine n_aload_n C 0 dL_act_312 rfl rfl ?_
  refine n_iload_n C 2 dL_act_313 rfl rfl ?_
  refine n_callx (As := [.int p2]) (n := 1) C (c_Game_sets l hl D cI cJ ad p2) hF (by rcases hq with rfl | rfl | rfl <;> decide) ⟨rfl, rfl⟩ gcl5 rfl lwv_sets (hR := ⟨Nat.le_of_ble_eq_true rfl, Nat.le_of_ble_eq_true rfl⟩) rfl rfl (Nat.le_of_ble_eq_true rfl) dL_act_314 ⟨Nat.le_of_ble_eq_true rfl, Nat.le_of_ble_eq_true rfl⟩ ?_
  rcases hq with rfl | rfl | rfl
  · rw [show gEx (1 : Int32) = "java/lang/IndexOutOfBoundsException" from rfl, show nAns (1 : Int32) = (-1671 : Int32) from rfl]
    refine n_catch C htab [] [⟨0, 317, 324, 78⟩, ⟨0, 317, 330, 80⟩] ⟨0, 317, 318, 76⟩ rfl [] (fun z hz => nomatch hz) (by decide) (by decide) lq10 lq11 (fun q => ?_)
    refine n_astore (L' := [(6, .ref q), (0, .ref (ad 0)), (1, .int (18 : Int32)), (2, .int p2), (3, .int p3), (4, .int p4), (5, .int p5)]) C dL_act_318 (by decide) rfl ?_
    refine n_sipush (v := (-1671 : Int32)) C dL_act_320 (by decide) ?_
    exact n_reti C hr dL_act_323 (Nat.le_of_ble_eq_true rfl) (Nat.le_of_ble_eq_true rfl) (Nat.le_of_ble_eq_true rfl)
  · rw [show gEx (2 : Int32) = "java/lang/IllegalArgumentException" from rfl, show nAns (2 : Int32) = (-1672 : Int32) from rfl]
    refine n_catch C htab [⟨0, 317, 318, 76⟩] [⟨0, 317, 330, 80⟩] ⟨0, 317, 324, 78⟩ rfl [] (fun z hz => by
        simp only [List.mem_cons, List.not_mem_nil, or_false] at hz
        subst hz
        exact ⟨by decide, "java/lang/IndexOutOfBoundsException", lq10, by decide +kernel⟩) (by decide) (by decide) lq12 lq13 (fun q => ?_)
    refine n_astore (L' := [(6, .ref q), (0, .ref (ad 0)), (1, .int (18 : Int32)), (2, .int p2), (3, .int p3), (4, .int p4), (5, .int p5)]) C dL_act_324 (by decide) rfl ?_
    refine n_sipush (v := (-1672 : Int32)) C dL_act_326 (by decide) ?_
    exact n_reti C hr dL_act_329 (Nat.le_of_ble_eq_true rfl) (Nat.le_of_ble_eq_true rfl) (Nat.le_of_ble_eq_true rfl)
  · rw [show gEx (3 : Int32) = "java/lang/IllegalStateException" from rfl, show nAns (3 : Int32) = (-1673 : Int32) from rfl]
    refine n_catch C htab [⟨0, 317, 318, 76⟩, ⟨0, 317, 324, 78⟩] [] ⟨0, 317, 330, 80⟩ rfl [] (fun z hz => by
        simp only [List.mem_cons, List.not_mem_nil, or_false] at hz
        rcases hz with rfl | rfl
        · exact ⟨by decide, "java/lang/IndexOutOfBoundsException", lq10, by decide +kernel⟩
        · exact ⟨by decide, "java/lang/IllegalArgumentException", lq12, by decide +kernel⟩) (by decide) (by decide) lq14 lq15 (fun q => ?_)
    refine n_astore (L' := [(6, .ref q), (0, .ref (ad 0)), (1, .int (18 : Int32)), (2, .int p2), (3, .int p3), (4, .int p4), (5, .int p5)]) C dL_act_330 (by decide) rfl ?_
    refine n_sipush (v := (-1673 : Int32)) C dL_act_332 (by decide) ?_
    exact n_reti C hr dL_act_335 (Nat.le_of_ble_eq_true rfl) (Nat.le_of_ble_eq_true rfl) (Nat.le_of_ble_eq_true rfl)
