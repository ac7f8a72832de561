def F_Law_line (p1 : Int32) (p2 : Int32) (p3 : Int32) (σ : gSt) : Option (Int32 × gSt) := gbh (F_Game_line p1 p2 p3 σ) (fun v σ1 => gl (gup σ1 31 0 v) fun σ2 => some ((0 : Int32), σ2)) (fun k σ1 => if k = (1 : Int32) then some ((1 : Int32), σ1) else if k = (3 : Int32) then some ((2 : Int32), σ1) else none)

theorem lwc_line : gWv RL 7 RX5 yX5_line cX5_line 6 (some .int) 3 := ⟨lq1, lq2, lq3, lq4, lq5, by decide +kernel⟩
set_option maxHeartbeats 4000000 in
set_option maxRecDepth 100000 in
theorem c_Law_line (l : Launch) (hl : l.stackTraces = false) (D : va_G) (cI cJ : ClassId) (ad : Nat → Nat) (p1 : Int32) (p2 : Int32) (p3 : Int32) : gMh l D cI cJ ad yL_line cL_line 6 (some .int) [(0, 12, 15, 13), (0, 12, 19, 15)] { frames := 8, cells := 1, slots := 6, locals := 127 } [.ref (ad 0), .int p1, .int p2, .int p3, .ref (ad 31)] (F_Law_line p1 p2 p3) := by
  refine gStartH (L0 := [(0, .ref (ad 0)), (1, .int p1), (2, .int p2), (3, .int p3), (4, .ref (ad 31))]) RL (by decide) rfl rfl (Nat.le_of_ble_eq_true rfl) ?_
  intro p e s m args below meth c sz σ r σ' C hr htab
  unfold F_Law_line
  refine g_aload C 4 dL_line_0 rfl ?_
  refine g_iconst (v := (0 : Int32)) C dL_line_2 (by decide) ?_
  refine g_aload_n C 0 dL_line_3 rfl rfl ?_
  refine g_iload_n C 1 dL_line_4 rfl rfl ?_
  refine g_iload_n C 2 dL_line_5 rfl rfl ?_
  refine g_iload_n C 3 dL_line_6 rfl rfl ?_
  refine g_callvH (As := [.int p1, .int p2, .int p3]) (n := 3) C (c_Game_line l hl D cI cJ ad p1 p2 p3) ⟨rfl, rfl⟩ gcl5 rfl lwc_line (hR := ⟨Nat.le_of_ble_eq_true rfl, Nat.le_of_ble_eq_true rfl⟩) rfl rfl (Nat.le_of_ble_eq_true rfl) dL_line_7 ⟨Nat.le_refl _, Nat.le_refl _⟩ (fun v σ1 => ?_) (fun k σ1 hk => ?_)
  · refine g_i2l C dL_line_10 ?_
    refine g_last (o := 31) C rfl rfl dL_line_11 (fun σ2 => ?_)
    refine g_goto (tgt := 23) C dL_line_12 (by decide) ?_
    refine g_iconst (v := (0 : Int32)) C dL_line_23 (by decide) ?_
    exact g_hret C hr dL_line_24 (Nat.zero_le _) (Nat.zero_le _)
  · refine gX_if (fun hk0 => ?_) (fun hk0 => ?_)
    · rw [show gEx k = "java/lang/IndexOutOfBoundsException" by rw [hk0]; decide]
      refine g_catch C htab [] [⟨0, 12, 19, 15⟩] ⟨0, 12, 15, 13⟩ rfl [] (fun z hz => nomatch hz) (by decide) (by decide) lq6 lq7 (fun q => ?_)
      refine g_astore (L' := [(5, .ref q), (0, .ref (ad 0)), (1, .int p1), (2, .int p2), (3, .int p3), (4, .ref (ad 31))]) C dL_line_15 (by decide) rfl ?_
      refine g_iconst (v := (1 : Int32)) C dL_line_17 (by decide) ?_
      exact g_hret C hr dL_line_18 (Nat.le_refl _) (Nat.le_refl _)
    · refine gX_if (fun hk1 => ?_) (fun hk1 => ?_)
      · rw [show gEx k = "java/lang/IllegalStateException" by rw [hk1]; decide]
        refine g_catch C htab [⟨0, 12, 15, 13⟩] [] ⟨0, 12, 19, 15⟩ rfl [] (fun z hz => by
        simp only [List.mem_cons, List.not_mem_nil, or_false] at hz
        subst hz
        exact ⟨by decide, "java/lang/IndexOutOfBoundsException", lq6, by decide +kernel⟩) (by decide) (by decide) lq8 lq9 (fun q => ?_)
        refine g_astore (L' := [(5, .ref q), (0, .ref (ad 0)), (1, .int p1), (2, .int p2), (3, .int p3), (4, .ref (ad 31))]) C dL_line_19 (by decide) rfl ?_
        refine g_iconst (v := (2 : Int32)) C dL_line_21 (by decide) ?_
        exact g_hret C hr dL_line_22 (Nat.le_refl _) (Nat.le_refl _)
      · exact gX_none

def F_Law_libero (p1 : Int32) (p2 : Int32) (σ : gSt) : Option (Int32 × gSt) := gbh (F_Game_libero p1 p2 σ) (fun v σ1 => gl (gup σ1 31 0 v) fun σ2 => some ((0 : Int32), σ2)) (fun k σ1 => if k = (1 : Int32) then some ((1 : Int32), σ1) else if k = (3 : Int32) then some ((2 : Int32), σ1) else none)

theorem lwc_libero : gWv RL 17 RX5 yX5_libero cX5_libero 5 (some .int) 2 := ⟨lq10, lq11, lq12, lq4, lq13, by decide +kernel⟩
set_option maxHeartbeats 4000000 in
set_option maxRecDepth 100000 in
theorem c_Law_libero (l : Launch) (hl : l.stackTraces = false) (D : va_G) (cI cJ : ClassId) (ad : Nat → Nat) (p1 : Int32) (p2 : Int32) : gMh l D cI cJ ad yL_libero cL_libero 5 (some .int) [(0, 10, 13, 13), (0, 10, 17, 15)] { frames := 8, cells := 1, slots := 6, locals := 126 } [.ref (ad 0), .int p1, .int p2, .ref (ad 31)] (F_Law_libero p1 p2) := by
  refine gStartH (L0 := [(0, .ref (ad 0)), (1, .int p1), (2, .int p2), (3, .ref (ad 31))]) RL (by decide) rfl rfl (Nat.le_of_ble_eq_true rfl) ?_
  intro p e s m args below meth c sz σ r σ' C hr htab
  unfold F_Law_libero
  refine g_aload_n C 3 dL_libero_0 rfl rfl ?_
  refine g_iconst (v := (0 : Int32)) C dL_libero_1 (by decide) ?_
  refine g_aload_n C 0 dL_libero_2 rfl rfl ?_
  refine g_iload_n C 1 dL_libero_3 rfl rfl ?_
  refine g_iload_n C 2 dL_libero_4 rfl rfl ?_
  refine g_callvH (As := [.int p1, .int p2]) (n := 2) C (c_Game_libero l hl D cI cJ ad p1 p2) ⟨rfl, rfl⟩ gcl5 rfl lwc_libero (hR := ⟨Nat.le_of_ble_eq_true rfl, Nat.le_of_ble_eq_true rfl⟩) rfl rfl (Nat.le_of_ble_eq_true rfl) dL_libero_5 ⟨Nat.le_refl _, Nat.le_refl _⟩ (fun v σ1 => ?_) (fun k σ1 hk => ?_)
  · refine g_i2l C dL_libero_8 ?_
    refine g_last (o := 31) C rfl rfl dL_libero_9 (fun σ2 => ?_)
    refine g_goto (tgt := 21) C dL_libero_10 (by decide) ?_
    refine g_iconst (v := (0 : Int32)) C dL_libero_21 (by decide) ?_
    exact g_hret C hr dL_libero_22 (Nat.zero_le _) (Nat.zero_le _)
  · refine gX_if (fun hk0 => ?_) (fun hk0 => ?_)
    · rw [show gEx k = "java/lang/IndexOutOfBoundsException" by rw [hk0]; decide]
      refine g_catch C htab [] [⟨0, 10, 17, 15⟩] ⟨0, 10, 13, 13⟩ rfl [] (fun z hz => nomatch hz) (by decide) (by decide) lq6 lq7 (fun q => ?_)
      refine g_astore (L' := [(4, .ref q), (0, .ref (ad 0)), (1, .int p1), (2, .int p2), (3, .ref (ad 31))]) C dL_libero_13 (by decide) rfl ?_
      refine g_iconst (v := (1 : Int32)) C dL_libero_15 (by decide) ?_
      exact g_hret C hr dL_libero_16 (Nat.le_refl _) (Nat.le_refl _)
    · refine gX_if (fun hk1 => ?_) (fun hk1 => ?_)
      · rw [show gEx k = "java/lang/IllegalStateException" by rw [hk1]; decide]
        refine g_catch C htab [⟨0, 10, 13, 13⟩] [] ⟨0, 10, 17, 15⟩ rfl [] (fun z hz => by
        simp only [List.mem_cons, List.not_mem_nil, or_false] at hz
        subst hz
        exact ⟨by decide, "java/lang/IndexOutOfBoundsException", lq6, by decide +kernel⟩) (by decide) (by decide) lq8 lq9 (fun q => ?_)
        refine g_astore (L' := [(4, .ref q), (0, .ref (ad 0)), (1, .int p1), (2, .int p2), (3, .ref (ad 31))]) C dL_libero_17 (by decide) rfl ?_
        refine g_iconst (v := (2 : Int32)) C dL_libero_19 (by decide) ?_
        exact g_hret C hr dL_libero_20 (Nat.le_refl _) (Nat.le_refl _)
      · exact gX_none

def F_Law_begin (p1 : Int32) (σ : gSt) : Option (Int32 × gSt) := gbh (F_Game_begin p1 σ) (fun v σ1 => gl (gup σ1 31 0 v) fun σ2 => some ((0 : Int32), σ2)) (fun k σ1 => if k = (1 : Int32) then some ((1 : Int32), σ1) else if k = (3 : Int32) then some ((2 : Int32), σ1) else none)

theorem lwc_begin : gWv RL 21 RX5 yX5_begin cX5_begin 2 (some .int) 1 := ⟨lq14, lq15, lq16, lq4, lq17, by decide +kernel⟩
set_option maxHeartbeats 4000000 in
set_option maxRecDepth 100000 in
theorem c_Law_begin (l : Launch) (hl : l.stackTraces = false) (D : va_G) (cI cJ : ClassId) (ad : Nat → Nat) (p1 : Int32) : gMh l D cI cJ ad yL_begin cL_begin 4 (some .int) [(0, 9, 12, 13), (0, 9, 15, 15)] { frames := 8, cells := 1, slots := 6, locals := 123 } [.ref (ad 0), .int p1, .ref (ad 31)] (F_Law_begin p1) := by
  refine gStartH (L0 := [(0, .ref (ad 0)), (1, .int p1), (2, .ref (ad 31))]) RL (by decide) rfl rfl (Nat.le_of_ble_eq_true rfl) ?_
  intro p e s m args below meth c sz σ r σ' C hr htab
  unfold F_Law_begin
  refine g_aload_n C 2 dL_begin_0 rfl rfl ?_
  refine g_iconst (v := (0 : Int32)) C dL_begin_1 (by decide) ?_
  refine g_aload_n C 0 dL_begin_2 rfl rfl ?_
  refine g_iload_n C 1 dL_begin_3 rfl rfl ?_
  refine g_callvH (As := [.int p1]) (n := 1) C (c_Game_begin l hl D cI cJ ad p1) ⟨rfl, rfl⟩ gcl5 rfl lwc_begin (hR := ⟨Nat.le_of_ble_eq_true rfl, Nat.le_of_ble_eq_true rfl⟩) rfl rfl (Nat.le_of_ble_eq_true rfl) dL_begin_4 ⟨Nat.le_refl _, Nat.le_refl _⟩ (fun v σ1 => ?_) (fun k σ1 hk => ?_)
  · refine g_i2l C dL_begin_7 ?_
    refine g_last (o := 31) C rfl rfl dL_begin_8 (fun σ2 => ?_)
    refine g_goto (tgt := 18) C dL_begin_9 (by decide) ?_
    refine g_iconst (v := (0 : Int32)) C dL_begin_18 (by decide) ?_
    exact g_hret C hr dL_begin_19 (Nat.zero_le _) (Nat.zero_le _)
  · refine gX_if (fun hk0 => ?_) (fun hk0 => ?_)
    · rw [show gEx k = "java/lang/IndexOutOfBoundsException" by rw [hk0]; decide]
      refine g_catch C htab [] [⟨0, 9, 15, 15⟩] ⟨0, 9, 12, 13⟩ rfl [] (fun z hz => nomatch hz) (by decide) (by decide) lq6 lq7 (fun q => ?_)
      refine g_astore_n (L' := [(3, .ref q), (0, .ref (ad 0)), (1, .int p1), (2, .ref (ad 31))]) C dL_begin_12 rfl (by decide) rfl ?_
      refine g_iconst (v := (1 : Int32)) C dL_begin_13 (by decide) ?_
      exact g_hret C hr dL_begin_14 (Nat.le_refl _) (Nat.le_refl _)
    · refine gX_if (fun hk1 => ?_) (fun hk1 => ?_)
      · rw [show gEx k = "java/lang/IllegalStateException" by rw [hk1]; decide]
        refine g_catch C htab [⟨0, 9, 12, 13⟩] [] ⟨0, 9, 15, 15⟩ rfl [] (fun z hz => by
        simp only [List.mem_cons, List.not_mem_nil, or_false] at hz
        subst hz
        exact ⟨by decide, "java/lang/IndexOutOfBoundsException", lq6, by decide +kernel⟩) (by decide) (by decide) lq8 lq9 (fun q => ?_)
        refine g_astore_n (L' := [(3, .ref q), (0, .ref (ad 0)), (1, .int p1), (2, .ref (ad 31))]) C dL_begin_15 rfl (by decide) rfl ?_
        refine g_iconst (v := (2 : Int32)) C dL_begin_16 (by decide) ?_
        exact g_hret C hr dL_begin_17 (Nat.le_refl _) (Nat.le_refl _)
      · exact gX_none

def F_Law_serve (p1 : Int32) (σ : gSt) : Option (Int32 × gSt) := gbh (F_Game_serve p1 σ) (fun v σ1 => if v = (0 : Int32) then gl (gup σ1 31 0 (0 : Int32)) fun σ2 => some ((0 : Int32), σ2) else gl (gup σ1 31 0 (1 : Int32)) fun σ2 => some ((0 : Int32), σ2)) (fun k σ1 => if k = (1 : Int32) then some ((1 : Int32), σ1) else if k = (3 : Int32) then some ((2 : Int32), σ1) else none)

theorem lwc_serve : gWv RL 25 RX5 yX5_serve cX5_serve 3 (some .boolean) 1 := ⟨lq18, lq19, lq20, lq4, lq21, by decide +kernel⟩
set_option maxHeartbeats 4000000 in
set_option maxRecDepth 100000 in
theorem c_Law_serve (l : Launch) (hl : l.stackTraces = false) (D : va_G) (cI cJ : ClassId) (ad : Nat → Nat) (p1 : Int32) : gMh l D cI cJ ad yL_serve cL_serve 4 (some .int) [(0, 16, 19, 13), (0, 16, 22, 15)] { frames := 8, cells := 1, slots := 6, locals := 124 } [.ref (ad 0), .int p1, .ref (ad 31)] (F_Law_serve p1) := by
  refine gStartH (L0 := [(0, .ref (ad 0)), (1, .int p1), (2, .ref (ad 31))]) RL (by decide) rfl rfl (Nat.le_of_ble_eq_true rfl) ?_
  intro p e s m args below meth c sz σ r σ' C hr htab
  unfold F_Law_serve
  refine g_aload_n C 2 dL_serve_0 rfl rfl ?_
  refine g_iconst (v := (0 : Int32)) C dL_serve_1 (by decide) ?_
  refine g_aload_n C 0 dL_serve_2 rfl rfl ?_
  refine g_iload_n C 1 dL_serve_3 rfl rfl ?_
  refine g_callvH (As := [.int p1]) (n := 1) C (c_Game_serve l hl D cI cJ ad p1) ⟨rfl, rfl⟩ gcl5 rfl lwc_serve (hR := ⟨Nat.le_of_ble_eq_true rfl, Nat.le_of_ble_eq_true rfl⟩) rfl rfl (Nat.le_of_ble_eq_true rfl) dL_serve_4 ⟨Nat.le_refl _, Nat.le_refl _⟩ (fun v σ1 => ?_) (fun k σ1 hk => ?_)
  · refine g_if_eq (tgt := 14) C dL_serve_7 (by decide) (fun h => ?_) (fun h => ?_)
    · refine g_lconst C (0 : Int32) dL_serve_14 (by decide) ?_
      refine g_last (o := 31) C rfl rfl dL_serve_15 (fun σ2 => ?_)
      refine g_goto (tgt := 25) C dL_serve_16 (by decide) ?_
      refine g_iconst (v := (0 : Int32)) C dL_serve_25 (by decide) ?_
      exact g_hret C hr dL_serve_26 (Nat.zero_le _) (Nat.zero_le _)
    · refine g_lconst C (1 : Int32) dL_serve_10 (by decide) ?_
      refine g_goto (tgt := 15) C dL_serve_11 (by decide) ?_
      refine g_last (o := 31) C rfl rfl dL_serve_15 (fun σ2 => ?_)
      refine g_goto (tgt := 25) C dL_serve_16 (by decide) ?_
      refine g_iconst (v := (0 : Int32)) C dL_serve_25 (by decide) ?_
      exact g_hret C hr dL_serve_26 (Nat.zero_le _) (Nat.zero_le _)
  · refine gX_if (fun hk0 => ?_) (fun hk0 => ?_)
    · rw [show gEx k = "java/lang/IndexOutOfBoundsException" by rw [hk0]; decide]
      refine g_catch C htab [] [⟨0, 16, 22, 15⟩] ⟨0, 16, 19, 13⟩ rfl [] (fun z hz => nomatch hz) (by decide) (by decide) lq6 lq7 (fun q => ?_)
      refine g_astore_n (L' := [(3, .ref q), (0, .ref (ad 0)), (1, .int p1), (2, .ref (ad 31))]) C dL_serve_19 rfl (by decide) rfl ?_
      refine g_iconst (v := (1 : Int32)) C dL_serve_20 (by decide) ?_
      exact g_hret C hr dL_serve_21 (Nat.le_refl _) (Nat.le_refl _)
    · refine gX_if (fun hk1 => ?_) (fun hk1 => ?_)
      · rw [show gEx k = "java/lang/IllegalStateException" by rw [hk1]; decide]
        refine g_catch C htab [⟨0, 16, 19, 13⟩] [] ⟨0, 16, 22, 15⟩ rfl [] (fun z hz => by
        simp only [List.mem_cons, List.not_mem_nil, or_false] at hz
        subst hz
        exact ⟨by decide, "java/lang/IndexOutOfBoundsException", lq6, by decide +kernel⟩) (by decide) (by decide) lq8 lq9 (fun q => ?_)
        refine g_astore_n (L' := [(3, .ref q), (0, .ref (ad 0)), (1, .int p1), (2, .ref (ad 31))]) C dL_serve_22 rfl (by decide) rfl ?_
        refine g_iconst (v := (2 : Int32)) C dL_serve_23 (by decide) ?_
        exact g_hret C hr dL_serve_24 (Nat.le_refl _) (Nat.le_refl _)
      · exact gX_none

def F_Law_touch (p1 : Int32) (p2 : Int32) (p3 : Int32) (p4 : Int32) (σ : gSt) : Option (Int32 × gSt) := gbh (F_Game_touch p1 p2 p3 p4 σ) (fun v σ1 => gl (gup σ1 31 0 v) fun σ2 => some ((0 : Int32), σ2)) (fun k σ1 => if k = (1 : Int32) then some ((1 : Int32), σ1) else if k = (2 : Int32) then some ((2 : Int32), σ1) else if k = (3 : Int32) then some ((3 : Int32), σ1) else none)

theorem lwc_touch : gWv RL 29 RX5 yX5_touch cX5_touch 7 (some .int) 4 := ⟨lq22, lq23, lq24, lq4, lq25, by decide +kernel⟩
set_option maxHeartbeats 4000000 in
set_option maxRecDepth 100000 in
theorem c_Law_touch (l : Launch) (hl : l.stackTraces = false) (D : va_G) (cI cJ : ClassId) (ad : Nat → Nat) (p1 : Int32) (p2 : Int32) (p3 : Int32) (p4 : Int32) : gMh l D cI cJ ad yL_touch cL_touch 7 (some .int) [(0, 14, 17, 13), (0, 14, 21, 33), (0, 14, 25, 15)] { frames := 8, cells := 1, slots := 6, locals := 155 } [.ref (ad 0), .int p1, .int p2, .int p3, .int p4, .ref (ad 31)] (F_Law_touch p1 p2 p3 p4) := by
  refine gStartH (L0 := [(0, .ref (ad 0)), (1, .int p1), (2, .int p2), (3, .int p3), (4, .int p4), (5, .ref (ad 31))]) RL (by decide) rfl rfl (Nat.le_of_ble_eq_true rfl) ?_
  intro p e s m args below meth c sz σ r σ' C hr htab
  unfold F_Law_touch
  refine g_aload C 5 dL_touch_0 rfl ?_
  refine g_iconst (v := (0 : Int32)) C dL_touch_2 (by decide) ?_
  refine g_aload_n C 0 dL_touch_3 rfl rfl ?_
  refine g_iload_n C 1 dL_touch_4 rfl rfl ?_
  refine g_iload_n C 2 dL_touch_5 rfl rfl ?_
  refine g_iload_n C 3 dL_touch_6 rfl rfl ?_
  refine g_iload C 4 dL_touch_7 rfl ?_
  refine g_callvH (As := [.int p1, .int p2, .int p3, .int p4]) (n := 4) C (c_Game_touch l hl D cI cJ ad p1 p2 p3 p4) ⟨rfl, rfl⟩ gcl5 rfl lwc_touch (hR := ⟨Nat.le_of_ble_eq_true rfl, Nat.le_of_ble_eq_true rfl⟩) rfl rfl (Nat.le_of_ble_eq_true rfl) dL_touch_9 ⟨Nat.le_refl _, Nat.le_refl _⟩ (fun v σ1 => ?_) (fun k σ1 hk => ?_)
  · refine g_i2l C dL_touch_12 ?_
    refine g_last (o := 31) C rfl rfl dL_touch_13 (fun σ2 => ?_)
    refine g_goto (tgt := 29) C dL_touch_14 (by decide) ?_
    refine g_iconst (v := (0 : Int32)) C dL_touch_29 (by decide) ?_
    exact g_hret C hr dL_touch_30 (Nat.zero_le _) (Nat.zero_le _)
  · refine gX_if (fun hk0 => ?_) (fun hk0 => ?_)
    · rw [show gEx k = "java/lang/IndexOutOfBoundsException" by rw [hk0]; decide]
      refine g_catch C htab [] [⟨0, 14, 21, 33⟩, ⟨0, 14, 25, 15⟩] ⟨0, 14, 17, 13⟩ rfl [] (fun z hz => nomatch hz) (by decide) (by decide) lq6 lq7 (fun q => ?_)
      refine g_astore (L' := [(6, .ref q), (0, .ref (ad 0)), (1, .int p1), (2, .int p2), (3, .int p3), (4, .int p4), (5, .ref (ad 31))]) C dL_touch_17 (by decide) rfl ?_
      refine g_iconst (v := (1 : Int32)) C dL_touch_19 (by decide) ?_
      exact g_hret C hr dL_touch_20 (Nat.le_refl _) (Nat.le_refl _)
    · refine gX_if (fun hk1 => ?_) (fun hk1 => ?_)
      · rw [show gEx k = "java/lang/IllegalArgumentException" by rw [hk1]; decide]
        refine g_catch C htab [⟨0, 14, 17, 13⟩] [⟨0, 14, 25, 15⟩] ⟨0, 14, 21, 33⟩ rfl [] (fun z hz => by
        simp only [List.mem_cons, List.not_mem_nil, or_false] at hz
        subst hz
        exact ⟨by decide, "java/lang/IndexOutOfBoundsException", lq6, by decide +kernel⟩) (by decide) (by decide) lq26 lq27 (fun q => ?_)
        refine g_astore (L' := [(6, .ref q), (0, .ref (ad 0)), (1, .int p1), (2, .int p2), (3, .int p3), (4, .int p4), (5, .ref (ad 31))]) C dL_touch_21 (by decide) rfl ?_
        refine g_iconst (v := (2 : Int32)) C dL_touch_23 (by decide) ?_
        exact g_hret C hr dL_touch_24 (Nat.le_refl _) (Nat.le_refl _)
      · refine gX_if (fun hk2 => ?_) (fun hk2 => ?_)
        · rw [show gEx k = "java/lang/IllegalStateException" by rw [hk2]; decide]
          refine g_catch C htab [⟨0, 14, 17, 13⟩, ⟨0, 14, 21, 33⟩] [] ⟨0, 14, 25, 15⟩ rfl [] (fun z hz => by
        simp only [List.mem_cons, List.not_mem_nil, or_false] at hz
        rcases hz with rfl | rfl
        · exact ⟨by decide, "java/lang/IndexOutOfBoundsException", lq6, by decide +kernel⟩
        · exact ⟨by decide, "java/lang/IllegalArgumentException", lq26, by decide +kernel⟩) (by decide) (by decide) lq8 lq9 (fun q => ?_)
          refine g_astore (L' := [(6, .ref q), (0, .ref (ad 0)), (1, .int p1), (2, .int p2), (3, .int p3), (4, .int p4), (5, .ref (ad 31))]) C dL_touch_25 (by decide) rfl ?_
          refine g_iconst (v := (3 : Int32)) C dL_touch_27 (by decide) ?_
          exact g_hret C hr dL_touch_28 (Nat.le_refl _) (Nat.le_refl _)
        · exact gX_none

def F_Law_fall (p1 : Int32) (σ : gSt) : Option (Int32 × gSt) := gbh (F_Game_fall p1 σ) (fun v σ1 => gl (gup σ1 31 0 v) fun σ2 => some ((0 : Int32), σ2)) (fun k σ1 => if k = (1 : Int32) then some ((1 : Int32), σ1) else if k = (3 : Int32) then some ((2 : Int32), σ1) else none)

theorem lwc_fall : gWv RL 35 RX5 yX5_fall cX5_fall 3 (some .int) 1 := ⟨lq28, lq29, lq30, lq4, lq31, by decide +kernel⟩
set_option maxHeartbeats 4000000 in
set_option maxRecDepth 100000 in
theorem c_Law_fall (l : Launch) (hl : l.stackTraces = false) (D : va_G) (cI cJ : ClassId) (ad : Nat → Nat) (p1 : Int32) : gMh l D cI cJ ad yL_fall cL_fall 4 (some .int) [(0, 9, 12, 13), (0, 9, 15, 15)] { frames := 8, cells := 1, slots := 6, locals := 151 } [.ref (ad 0), .int p1, .ref (ad 31)] (F_Law_fall p1) := by
  refine gStartH (L0 := [(0, .ref (ad 0)), (1, .int p1), (2, .ref (ad 31))]) RL (by decide) rfl rfl (Nat.le_of_ble_eq_true rfl) ?_
  intro p e s m args below meth c sz σ r σ' C hr htab
  unfold F_Law_fall
  refine g_aload_n C 2 dL_fall_0 rfl rfl ?_
  refine g_iconst (v := (0 : Int32)) C dL_fall_1 (by decide) ?_
  refine g_aload_n C 0 dL_fall_2 rfl rfl ?_
  refine g_iload_n C 1 dL_fall_3 rfl rfl ?_
  refine g_callvH (As := [.int p1]) (n := 1) C (c_Game_fall l hl D cI cJ ad p1) ⟨rfl, rfl⟩ gcl5 rfl lwc_fall (hR := ⟨Nat.le_of_ble_eq_true rfl, Nat.le_of_ble_eq_true rfl⟩) rfl rfl (Nat.le_of_ble_eq_true rfl) dL_fall_4 ⟨Nat.le_refl _, Nat.le_refl _⟩ (fun v σ1 => ?_) (fun k σ1 hk => ?_)
  · refine g_i2l C dL_fall_7 ?_
    refine g_last (o := 31) C rfl rfl dL_fall_8 (fun σ2 => ?_)
    refine g_goto (tgt := 18) C dL_fall_9 (by decide) ?_
    refine g_iconst (v := (0 : Int32)) C dL_fall_18 (by decide) ?_
    exact g_hret C hr dL_fall_19 (Nat.zero_le _) (Nat.zero_le _)
  · refine gX_if (fun hk0 => ?_) (fun hk0 => ?_)
    · rw [show gEx k = "java/lang/IndexOutOfBoundsException" by rw [hk0]; decide]
      refine g_catch C htab [] [⟨0, 9, 15, 15⟩] ⟨0, 9, 12, 13⟩ rfl [] (fun z hz => nomatch hz) (by decide) (by decide) lq6 lq7 (fun q => ?_)
      refine g_astore_n (L' := [(3, .ref q), (0, .ref (ad 0)), (1, .int p1), (2, .ref (ad 31))]) C dL_fall_12 rfl (by decide) rfl ?_
      refine g_iconst (v := (1 : Int32)) C dL_fall_13 (by decide) ?_
      exact g_hret C hr dL_fall_14 (Nat.le_refl _) (Nat.le_refl _)
    · refine gX_if (fun hk1 => ?_) (fun hk1 => ?_)
      · rw [show gEx k = "java/lang/IllegalStateException" by rw [hk1]; decide]
        refine g_catch C htab [⟨0, 9, 12, 13⟩] [] ⟨0, 9, 15, 15⟩ rfl [] (fun z hz => by
        simp only [List.mem_cons, List.not_mem_nil, or_false] at hz
        subst hz
        exact ⟨by decide, "java/lang/IndexOutOfBoundsException", lq6, by decide +kernel⟩) (by decide) (by decide) lq8 lq9 (fun q => ?_)
        refine g_astore_n (L' := [(3, .ref q), (0, .ref (ad 0)), (1, .int p1), (2, .ref (ad 31))]) C dL_fall_15 rfl (by decide) rfl ?_
        refine g_iconst (v := (2 : Int32)) C dL_fall_16 (by decide) ?_
        exact g_hret C hr dL_fall_17 (Nat.le_refl _) (Nat.le_refl _)
      · exact gX_none

def F_Law_net (p1 : Int32) (p2 : Int32) (σ : gSt) : Option (Int32 × gSt) := gbh (F_Game_net p1 p2 σ) (fun v σ1 => if v = (0 : Int32) then gl (gup σ1 31 0 (0 : Int32)) fun σ2 => some ((0 : Int32), σ2) else gl (gup σ1 31 0 (1 : Int32)) fun σ2 => some ((0 : Int32), σ2)) (fun k σ1 => if k = (1 : Int32) then some ((1 : Int32), σ1) else if k = (3 : Int32) then some ((2 : Int32), σ1) else none)

theorem lwc_net : gWv RL 38 RX5 yX5_net cX5_net 3 (some .boolean) 2 := ⟨lq32, lq33, lq34, lq4, lq35, by decide +kernel⟩
set_option maxHeartbeats 4000000 in
set_option maxRecDepth 100000 in
theorem c_Law_net (l : Launch) (hl : l.stackTraces = false) (D : va_G) (cI cJ : ClassId) (ad : Nat → Nat) (p1 : Int32) (p2 : Int32) : gMh l D cI cJ ad yL_net cL_net 5 (some .int) [(0, 17, 20, 13), (0, 17, 24, 15)] { frames := 8, cells := 1, slots := 6, locals := 151 } [.ref (ad 0), .int p1, .int p2, .ref (ad 31)] (F_Law_net p1 p2) := by
  refine gStartH (L0 := [(0, .ref (ad 0)), (1, .int p1), (2, .int p2), (3, .ref (ad 31))]) RL (by decide) rfl rfl (Nat.le_of_ble_eq_true rfl) ?_
  intro p e s m args below meth c sz σ r σ' C hr htab
  unfold F_Law_net
  refine g_aload_n C 3 dL_net_0 rfl rfl ?_
  refine g_iconst (v := (0 : Int32)) C dL_net_1 (by decide) ?_
  refine g_aload_n C 0 dL_net_2 rfl rfl ?_
  refine g_iload_n C 1 dL_net_3 rfl rfl ?_
  refine g_iload_n C 2 dL_net_4 rfl rfl ?_
  refine g_callvH (As := [.int p1, .int p2]) (n := 2) C (c_Game_net l hl D cI cJ ad p1 p2) ⟨rfl, rfl⟩ gcl5 rfl lwc_net (hR := ⟨Nat.le_of_ble_eq_true rfl, Nat.le_of_ble_eq_true rfl⟩) rfl rfl (Nat.le_of_ble_eq_true rfl) dL_net_5 ⟨Nat.le_refl _, Nat.le_refl _⟩ (fun v σ1 => ?_) (fun k σ1 hk => ?_)
  · refine g_if_eq (tgt := 15) C dL_net_8 (by decide) (fun h => ?_) (fun h => ?_)
    · refine g_lconst C (0 : Int32) dL_net_15 (by decide) ?_
      refine g_last (o := 31) C rfl rfl dL_net_16 (fun σ2 => ?_)
      refine g_goto (tgt := 28) C dL_net_17 (by decide) ?_
      refine g_iconst (v := (0 : Int32)) C dL_net_28 (by decide) ?_
      exact g_hret C hr dL_net_29 (Nat.zero_le _) (Nat.zero_le _)
    · refine g_lconst C (1 : Int32) dL_net_11 (by decide) ?_
      refine g_goto (tgt := 16) C dL_net_12 (by decide) ?_
      refine g_last (o := 31) C rfl rfl dL_net_16 (fun σ2 => ?_)
      refine g_goto (tgt := 28) C dL_net_17 (by decide) ?_
      refine g_iconst (v := (0 : Int32)) C dL_net_28 (by decide) ?_
      exact g_hret C hr dL_net_29 (Nat.zero_le _) (Nat.zero_le _)
  · refine gX_if (fun hk0 => ?_) (fun hk0 => ?_)
    · rw [show gEx k = "java/lang/IndexOutOfBoundsException" by rw [hk0]; decide]
      refine g_catch C htab [] [⟨0, 17, 24, 15⟩] ⟨0, 17, 20, 13⟩ rfl [] (fun z hz => nomatch hz) (by decide) (by decide) lq6 lq7 (fun q => ?_)
      refine g_astore (L' := [(4, .ref q), (0, .ref (ad 0)), (1, .int p1), (2, .int p2), (3, .ref (ad 31))]) C dL_net_20 (by decide) rfl ?_
      refine g_iconst (v := (1 : Int32)) C dL_net_22 (by decide) ?_
      exact g_hret C hr dL_net_23 (Nat.le_refl _) (Nat.le_refl _)
    · refine gX_if (fun hk1 => ?_) (fun hk1 => ?_)
      · rw [show gEx k = "java/lang/IllegalStateException" by rw [hk1]; decide]
        refine g_catch C htab [⟨0, 17, 20, 13⟩] [] ⟨0, 17, 24, 15⟩ rfl [] (fun z hz => by
        simp only [List.mem_cons, List.not_mem_nil, or_false] at hz
        subst hz
        exact ⟨by decide, "java/lang/IndexOutOfBoundsException", lq6, by decide +kernel⟩) (by decide) (by decide) lq8 lq9 (fun q => ?_)
        refine g_astore (L' := [(4, .ref q), (0, .ref (ad 0)), (1, .int p1), (2, .int p2), (3, .ref (ad 31))]) C dL_net_24 (by decide) rfl ?_
        refine g_iconst (v := (2 : Int32)) C dL_net_26 (by decide) ?_
        exact g_hret C hr dL_net_27 (Nat.le_refl _) (Nat.le_refl _)
      · exact gX_none

def F_Law_find  (σ : gSt) : Option (Int32 × gSt) := gbh (F_Game_find σ) (fun v σ1 => gl (gup σ1 31 0 v) fun σ2 => some ((0 : Int32), σ2)) (fun k σ1 => if k = (3 : Int32) then some ((1 : Int32), σ1) else none)

theorem lwc_find : gWv RL 42 RX5 yX5_find cX5_find 2 (some .int) 0 := ⟨lq36, lq37, lq38, lq4, lq39, by decide +kernel⟩
set_option maxHeartbeats 4000000 in
set_option maxRecDepth 100000 in
theorem c_Law_find (l : Launch) (hl : l.stackTraces = false) (D : va_G) (cI cJ : ClassId) (ad : Nat → Nat)  : gMh l D cI cJ ad yL_find cL_find 3 (some .int) [(0, 8, 11, 15)] { frames := 7, cells := 1, slots := 6, locals := 131 } [.ref (ad 0), .ref (ad 31)] (F_Law_find) := by
  refine gStartH (L0 := [(0, .ref (ad 0)), (1, .ref (ad 31))]) RL (by decide) rfl rfl (Nat.le_of_ble_eq_true rfl) ?_
  intro p e s m args below meth c sz σ r σ' C hr htab
  unfold F_Law_find
  refine g_aload_n C 1 dL_find_0 rfl rfl ?_
  refine g_iconst (v := (0 : Int32)) C dL_find_1 (by decide) ?_
  refine g_aload_n C 0 dL_find_2 rfl rfl ?_
  refine g_callvH (As := []) (n := 0) C (c_Game_find l hl D cI cJ ad) ⟨rfl, rfl⟩ gcl5 rfl lwc_find (hR := ⟨Nat.le_of_ble_eq_true rfl, Nat.le_of_ble_eq_true rfl⟩) rfl rfl (Nat.le_of_ble_eq_true rfl) dL_find_3 ⟨Nat.le_refl _, Nat.le_refl _⟩ (fun v σ1 => ?_) (fun k σ1 hk => ?_)
  · refine g_i2l C dL_find_6 ?_
    refine g_last (o := 31) C rfl rfl dL_find_7 (fun σ2 => ?_)
    refine g_goto (tgt := 14) C dL_find_8 (by decide) ?_
    refine g_iconst (v := (0 : Int32)) C dL_find_14 (by decide) ?_
    exact g_hret C hr dL_find_15 (Nat.zero_le _) (Nat.zero_le _)
  · refine gX_if (fun hk0 => ?_) (fun hk0 => ?_)
    · rw [show gEx k = "java/lang/IllegalStateException" by rw [hk0]; decide]
      refine g_catch C htab [] [] ⟨0, 8, 11, 15⟩ rfl [] (fun z hz => nomatch hz) (by decide) (by decide) lq8 lq9 (fun q => ?_)
      refine g_astore_n (L' := [(2, .ref q), (0, .ref (ad 0)), (1, .ref (ad 31))]) C dL_find_11 rfl (by decide) rfl ?_
      refine g_iconst (v := (1 : Int32)) C dL_find_12 (by decide) ?_
      exact g_hret C hr dL_find_13 (Nat.le_refl _) (Nat.le_refl _)
    · exact gX_none

def F_Law_exchange (p1 : Int32) (p2 : Int32) (σ : gSt) : Option (Int32 × gSt) := gbh (F_Game_exchange p1 p2 σ) (fun v σ1 => if v = (0 : Int32) then gl (gup σ1 31 0 (0 : Int32)) fun σ2 => some ((0 : Int32), σ2) else gl (gup σ1 31 0 (1 : Int32)) fun σ2 => some ((0 : Int32), σ2)) (fun k σ1 => if k = (1 : Int32) then some ((1 : Int32), σ1) else if k = (3 : Int32) then some ((2 : Int32), σ1) else none)

theorem lwc_exchange : gWv RL 46 RX5 yX5_exchange cX5_exchange 4 (some .boolean) 2 := ⟨lq40, lq41, lq42, lq4, lq43, by decide +kernel⟩
set_option maxHeartbeats 4000000 in
set_option maxRecDepth 100000 in
theorem c_Law_exchange (l : Launch) (hl : l.stackTraces = false) (D : va_G) (cI cJ : ClassId) (ad : Nat → Nat) (p1 : Int32) (p2 : Int32) : gMh l D cI cJ ad yL_exchange cL_exchange 5 (some .int) [(0, 17, 20, 13), (0, 17, 24, 15)] { frames := 8, cells := 1, slots := 6, locals := 130 } [.ref (ad 0), .int p1, .int p2, .ref (ad 31)] (F_Law_exchange p1 p2) := by
  refine gStartH (L0 := [(0, .ref (ad 0)), (1, .int p1), (2, .int p2), (3, .ref (ad 31))]) RL (by decide) rfl rfl (Nat.le_of_ble_eq_true rfl) ?_
  intro p e s m args below meth c sz σ r σ' C hr htab
  unfold F_Law_exchange
  refine g_aload_n C 3 dL_exchange_0 rfl rfl ?_
  refine g_iconst (v := (0 : Int32)) C dL_exchange_1 (by decide) ?_
  refine g_aload_n C 0 dL_exchange_2 rfl rfl ?_
  refine g_iload_n C 1 dL_exchange_3 rfl rfl ?_
  refine g_iload_n C 2 dL_exchange_4 rfl rfl ?_
  refine g_callvH (As := [.int p1, .int p2]) (n := 2) C (c_Game_exchange l hl D cI cJ ad p1 p2) ⟨rfl, rfl⟩ gcl5 rfl lwc_exchange (hR := ⟨Nat.le_of_ble_eq_true rfl, Nat.le_of_ble_eq_true rfl⟩) rfl rfl (Nat.le_of_ble_eq_true rfl) dL_exchange_5 ⟨Nat.le_refl _, Nat.le_refl _⟩ (fun v σ1 => ?_) (fun k σ1 hk => ?_)
  · refine g_if_eq (tgt := 15) C dL_exchange_8 (by decide) (fun h => ?_) (fun h => ?_)
    · refine g_lconst C (0 : Int32) dL_exchange_15 (by decide) ?_
      refine g_last (o := 31) C rfl rfl dL_exchange_16 (fun σ2 => ?_)
      refine g_goto (tgt := 28) C dL_exchange_17 (by decide) ?_
      refine g_iconst (v := (0 : Int32)) C dL_exchange_28 (by decide) ?_
      exact g_hret C hr dL_exchange_29 (Nat.zero_le _) (Nat.zero_le _)
    · refine g_lconst C (1 : Int32) dL_exchange_11 (by decide) ?_
      refine g_goto (tgt := 16) C dL_exchange_12 (by decide) ?_
      refine g_last (o := 31) C rfl rfl dL_exchange_16 (fun σ2 => ?_)
      refine g_goto (tgt := 28) C dL_exchange_17 (by decide) ?_
      refine g_iconst (v := (0 : Int32)) C dL_exchange_28 (by decide) ?_
      exact g_hret C hr dL_exchange_29 (Nat.zero_le _) (Nat.zero_le _)
  · refine gX_if (fun hk0 => ?_) (fun hk0 => ?_)
    · rw [show gEx k = "java/lang/IndexOutOfBoundsException" by rw [hk0]; decide]
      refine g_catch C htab [] [⟨0, 17, 24, 15⟩] ⟨0, 17, 20, 13⟩ rfl [] (fun z hz => nomatch hz) (by decide) (by decide) lq6 lq7 (fun q => ?_)
      refine g_astore (L' := [(4, .ref q), (0, .ref (ad 0)), (1, .int p1), (2, .int p2), (3, .ref (ad 31))]) C dL_exchange_20 (by decide) rfl ?_
      refine g_iconst (v := (1 : Int32)) C dL_exchange_22 (by decide) ?_
      exact g_hret C hr dL_exchange_23 (Nat.le_refl _) (Nat.le_refl _)
    · refine gX_if (fun hk1 => ?_) (fun hk1 => ?_)
      · rw [show gEx k = "java/lang/IllegalStateException" by rw [hk1]; decide]
        refine g_catch C htab [⟨0, 17, 20, 13⟩] [] ⟨0, 17, 24, 15⟩ rfl [] (fun z hz => by
        simp only [List.mem_cons, List.not_mem_nil, or_false] at hz
        subst hz
        exact ⟨by decide, "java/lang/IndexOutOfBoundsException", lq6, by decide +kernel⟩) (by decide) (by decide) lq8 lq9 (fun q => ?_)
        refine g_astore (L' := [(4, .ref q), (0, .ref (ad 0)), (1, .int p1), (2, .int p2), (3, .ref (ad 31))]) C dL_exchange_24 (by decide) rfl ?_
        refine g_iconst (v := (2 : Int32)) C dL_exchange_26 (by decide) ?_
        exact g_hret C hr dL_exchange_27 (Nat.le_refl _) (Nat.le_refl _)
      · exact gX_none

def F_Law_substitute (p1 : Int32) (p2 : Int32) (p3 : Int32) (σ : gSt) : Option (Int32 × gSt) := gbh (F_Game_substitute p1 p2 p3 σ) (fun v σ1 => gl (gup σ1 31 0 v) fun σ2 => some ((0 : Int32), σ2)) (fun k σ1 => if k = (1 : Int32) then some ((1 : Int32), σ1) else if k = (3 : Int32) then some ((2 : Int32), σ1) else none)

theorem lwc_substitute : gWv RL 50 RX5 yX5_substitute cX5_substitute 5 (some .int) 3 := ⟨lq44, lq45, lq46, lq4, lq47, by decide +kernel⟩
set_option maxHeartbeats 4000000 in
set_option maxRecDepth 100000 in
theorem c_Law_substitute (l : Launch) (hl : l.stackTraces = false) (D : va_G) (cI cJ : ClassId) (ad : Nat → Nat) (p1 : Int32) (p2 : Int32) (p3 : Int32) : gMh l D cI cJ ad yL_substitute cL_substitute 6 (some .int) [(0, 12, 15, 13), (0, 12, 19, 15)] { frames := 8, cells := 1, slots := 6, locals := 126 } [.ref (ad 0), .int p1, .int p2, .int p3, .ref (ad 31)] (F_Law_substitute p1 p2 p3) := by
  refine gStartH (L0 := [(0, .ref (ad 0)), (1, .int p1), (2, .int p2), (3, .int p3), (4, .ref (ad 31))]) RL (by decide) rfl rfl (Nat.le_of_ble_eq_true rfl) ?_
  intro p e s m args below meth c sz σ r σ' C hr htab
  unfold F_Law_substitute
  refine g_aload C 4 dL_substitute_0 rfl ?_
  refine g_iconst (v := (0 : Int32)) C dL_substitute_2 (by decide) ?_
  refine g_aload_n C 0 dL_substitute_3 rfl rfl ?_
  refine g_iload_n C 1 dL_substitute_4 rfl rfl ?_
  refine g_iload_n C 2 dL_substitute_5 rfl rfl ?_
  refine g_iload_n C 3 dL_substitute_6 rfl rfl ?_
  refine g_callvH (As := [.int p1, .int p2, .int p3]) (n := 3) C (c_Game_substitute l hl D cI cJ ad p1 p2 p3) ⟨rfl, rfl⟩ gcl5 rfl lwc_substitute (hR := ⟨Nat.le_of_ble_eq_true rfl, Nat.le_of_ble_eq_true rfl⟩) rfl rfl (Nat.le_of_ble_eq_true rfl) dL_substitute_7 ⟨Nat.le_refl _, Nat.le_refl _⟩ (fun v σ1 => ?_) (fun k σ1 hk => ?_)
  · refine g_i2l C dL_substitute_10 ?_
    refine g_last (o := 31) C rfl rfl dL_substitute_11 (fun σ2 => ?_)
    refine g_goto (tgt := 23) C dL_substitute_12 (by decide) ?_
    refine g_iconst (v := (0 : Int32)) C dL_substitute_23 (by decide) ?_
    exact g_hret C hr dL_substitute_24 (Nat.zero_le _) (Nat.zero_le _)
  · refine gX_if (fun hk0 => ?_) (fun hk0 => ?_)
    · rw [show gEx k = "java/lang/IndexOutOfBoundsException" by rw [hk0]; decide]
      refine g_catch C htab [] [⟨0, 12, 19, 15⟩] ⟨0, 12, 15, 13⟩ rfl [] (fun z hz => nomatch hz) (by decide) (by decide) lq6 lq7 (fun q => ?_)
      refine g_astore (L' := [(5, .ref q), (0, .ref (ad 0)), (1, .int p1), (2, .int p2), (3, .int p3), (4, .ref (ad 31))]) C dL_substitute_15 (by decide) rfl ?_
      refine g_iconst (v := (1 : Int32)) C dL_substitute_17 (by decide) ?_
      exact g_hret C hr dL_substitute_18 (Nat.le_refl _) (Nat.le_refl _)
    · refine gX_if (fun hk1 => ?_) (fun hk1 => ?_)
      · rw [show gEx k = "java/lang/IllegalStateException" by rw [hk1]; decide]
        refine g_catch C htab [⟨0, 12, 15, 13⟩] [] ⟨0, 12, 19, 15⟩ rfl [] (fun z hz => by
        simp only [List.mem_cons, List.not_mem_nil, or_false] at hz
        subst hz
        exact ⟨by decide, "java/lang/IndexOutOfBoundsException", lq6, by decide +kernel⟩) (by decide) (by decide) lq8 lq9 (fun q => ?_)
        refine g_astore (L' := [(5, .ref q), (0, .ref (ad 0)), (1, .int p1), (2, .int p2), (3, .int p3), (4, .ref (ad 31))]) C dL_substitute_19 (by decide) rfl ?_
        refine g_iconst (v := (2 : Int32)) C dL_substitute_21 (by decide) ?_
        exact g_hret C hr dL_substitute_22 (Nat.le_refl _) (Nat.le_refl _)
      · exact gX_none

def F_Law_challenge (p1 : Int32) (σ : gSt) : Option (Int32 × gSt) := gbh (F_Game_challenge p1 σ) (fun v σ1 => if v = (0 : Int32) then gl (gup σ1 31 0 (0 : Int32)) fun σ2 => some ((0 : Int32), σ2) else gl (gup σ1 31 0 (1 : Int32)) fun σ2 => some ((0 : Int32), σ2)) (fun k σ1 => if k = (1 : Int32) then some ((1 : Int32), σ1) else if k = (3 : Int32) then some ((2 : Int32), σ1) else none)

theorem lwc_challenge : gWv RL 53 RX5 yX5_challenge cX5_challenge 4 (some .boolean) 1 := ⟨lq48, lq49, lq50, lq4, lq51, by decide +kernel⟩
set_option maxHeartbeats 4000000 in
set_option maxRecDepth 100000 in
theorem c_Law_challenge (l : Launch) (hl : l.stackTraces = false) (D : va_G) (cI cJ : ClassId) (ad : Nat → Nat) (p1 : Int32) : gMh l D cI cJ ad yL_challenge cL_challenge 4 (some .int) [(0, 16, 19, 13), (0, 16, 22, 15)] { frames := 8, cells := 1, slots := 6, locals := 152 } [.ref (ad 0), .int p1, .ref (ad 31)] (F_Law_challenge p1) := by
  refine gStartH (L0 := [(0, .ref (ad 0)), (1, .int p1), (2, .ref (ad 31))]) RL (by decide) rfl rfl (Nat.le_of_ble_eq_true rfl) ?_
  intro p e s m args below meth c sz σ r σ' C hr htab
  unfold F_Law_challenge
  refine g_aload_n C 2 dL_challenge_0 rfl rfl ?_
  refine g_iconst (v := (0 : Int32)) C dL_challenge_1 (by decide) ?_
  refine g_aload_n C 0 dL_challenge_2 rfl rfl ?_
  refine g_iload_n C 1 dL_challenge_3 rfl rfl ?_
  refine g_callvH (As := [.int p1]) (n := 1) C (c_Game_challenge l hl D cI cJ ad p1) ⟨rfl, rfl⟩ gcl5 rfl lwc_challenge (hR := ⟨Nat.le_of_ble_eq_true rfl, Nat.le_of_ble_eq_true rfl⟩) rfl rfl (Nat.le_of_ble_eq_true rfl) dL_challenge_4 ⟨Nat.le_refl _, Nat.le_refl _⟩ (fun v σ1 => ?_) (fun k σ1 hk => ?_)
  · refine g_if_eq (tgt := 14) C dL_challenge_7 (by decide) (fun h => ?_) (fun h => ?_)
    · refine g_lconst C (0 : Int32) dL_challenge_14 (by decide) ?_
      refine g_last (o := 31) C rfl rfl dL_challenge_15 (fun σ2 => ?_)
      refine g_goto (tgt := 25) C dL_challenge_16 (by decide) ?_
      refine g_iconst (v := (0 : Int32)) C dL_challenge_25 (by decide) ?_
      exact g_hret C hr dL_challenge_26 (Nat.zero_le _) (Nat.zero_le _)
    · refine g_lconst C (1 : Int32) dL_challenge_10 (by decide) ?_
      refine g_goto (tgt := 15) C dL_challenge_11 (by decide) ?_
      refine g_last (o := 31) C rfl rfl dL_challenge_15 (fun σ2 => ?_)
      refine g_goto (tgt := 25) C dL_challenge_16 (by decide) ?_
      refine g_iconst (v := (0 : Int32)) C dL_challenge_25 (by decide) ?_
      exact g_hret C hr dL_challenge_26 (Nat.zero_le _) (Nat.zero_le _)
  · refine gX_if (fun hk0 => ?_) (fun hk0 => ?_)
    · rw [show gEx k = "java/lang/IndexOutOfBoundsException" by rw [hk0]; decide]
      refine g_catch C htab [] [⟨0, 16, 22, 15⟩] ⟨0, 16, 19, 13⟩ rfl [] (fun z hz => nomatch hz) (by decide) (by decide) lq6 lq7 (fun q => ?_)
      refine g_astore_n (L' := [(3, .ref q), (0, .ref (ad 0)), (1, .int p1), (2, .ref (ad 31))]) C dL_challenge_19 rfl (by decide) rfl ?_
      refine g_iconst (v := (1 : Int32)) C dL_challenge_20 (by decide) ?_
      exact g_hret C hr dL_challenge_21 (Nat.le_refl _) (Nat.le_refl _)
    · refine gX_if (fun hk1 => ?_) (fun hk1 => ?_)
      · rw [show gEx k = "java/lang/IllegalStateException" by rw [hk1]; decide]
        refine g_catch C htab [⟨0, 16, 19, 13⟩] [] ⟨0, 16, 22, 15⟩ rfl [] (fun z hz => by
        simp only [List.mem_cons, List.not_mem_nil, or_false] at hz
        subst hz
        exact ⟨by decide, "java/lang/IndexOutOfBoundsException", lq6, by decide +kernel⟩) (by decide) (by decide) lq8 lq9 (fun q => ?_)
        refine g_astore_n (L' := [(3, .ref q), (0, .ref (ad 0)), (1, .int p1), (2, .ref (ad 31))]) C dL_challenge_22 rfl (by decide) rfl ?_
        refine g_iconst (v := (2 : Int32)) C dL_challenge_23 (by decide) ?_
        exact g_hret C hr dL_challenge_24 (Nat.le_refl _) (Nat.le_refl _)
      · exact gX_none

def F_Law_points (p1 : Int32) (σ : gSt) : Option (Int32 × gSt) := gbh (F_Game_points p1 σ) (fun v σ1 => gl (gup σ1 31 0 v) fun σ2 => some ((0 : Int32), σ2)) (fun k σ1 => if k = (1 : Int32) then some ((1 : Int32), σ1) else none)

theorem lwc_points : gWv RL 56 RX5 yX5_points cX5_points 2 (some .int) 1 := ⟨lq52, lq53, lq54, lq4, lq55, by decide +kernel⟩
set_option maxHeartbeats 4000000 in
set_option maxRecDepth 100000 in
theorem c_Law_points (l : Launch) (hl : l.stackTraces = false) (D : va_G) (cI cJ : ClassId) (ad : Nat → Nat) (p1 : Int32) : gMh l D cI cJ ad yL_points cL_points 4 (some .int) [(0, 9, 12, 13)] { frames := 8, cells := 1, slots := 6, locals := 123 } [.ref (ad 0), .int p1, .ref (ad 31)] (F_Law_points p1) := by
  refine gStartH (L0 := [(0, .ref (ad 0)), (1, .int p1), (2, .ref (ad 31))]) RL (by decide) rfl rfl (Nat.le_of_ble_eq_true rfl) ?_
  intro p e s m args below meth c sz σ r σ' C hr htab
  unfold F_Law_points
  refine g_aload_n C 2 dL_points_0 rfl rfl ?_
  refine g_iconst (v := (0 : Int32)) C dL_points_1 (by decide) ?_
  refine g_aload_n C 0 dL_points_2 rfl rfl ?_
  refine g_iload_n C 1 dL_points_3 rfl rfl ?_
  refine g_callvH (As := [.int p1]) (n := 1) C (c_Game_points l hl D cI cJ ad p1) ⟨rfl, rfl⟩ gcl5 rfl lwc_points (hR := ⟨Nat.le_of_ble_eq_true rfl, Nat.le_of_ble_eq_true rfl⟩) rfl rfl (Nat.le_of_ble_eq_true rfl) dL_points_4 ⟨Nat.le_refl _, Nat.le_refl _⟩ (fun v σ1 => ?_) (fun k σ1 hk => ?_)
  · refine g_i2l C dL_points_7 ?_
    refine g_last (o := 31) C rfl rfl dL_points_8 (fun σ2 => ?_)
    refine g_goto (tgt := 15) C dL_points_9 (by decide) ?_
    refine g_iconst (v := (0 : Int32)) C dL_points_15 (by decide) ?_
    exact g_hret C hr dL_points_16 (Nat.zero_le _) (Nat.zero_le _)
  · refine gX_if (fun hk0 => ?_) (fun hk0 => ?_)
    · rw [show gEx k = "java/lang/IndexOutOfBoundsException" by rw [hk0]; decide]
      refine g_catch C htab [] [] ⟨0, 9, 12, 13⟩ rfl [] (fun z hz => nomatch hz) (by decide) (by decide) lq6 lq7 (fun q => ?_)
      refine g_astore_n (L' := [(3, .ref q), (0, .ref (ad 0)), (1, .int p1), (2, .ref (ad 31))]) C dL_points_12 rfl (by decide) rfl ?_
      refine g_iconst (v := (1 : Int32)) C dL_points_13 (by decide) ?_
      exact g_hret C hr dL_points_14 (Nat.le_refl _) (Nat.le_refl _)
    · exact gX_none

def F_Law_pointsAnew (p1 : Int32) (σ : gSt) : Option (Int32 × gSt) := gbh (F_Game_pointsAnew p1 σ) (fun v σ1 => gl (gup σ1 31 0 v) fun σ2 => some ((0 : Int32), σ2)) (fun k σ1 => if k = (1 : Int32) then some ((1 : Int32), σ1) else none)

theorem lwc_pointsAnew : gWv RL 59 RX5 yX5_pointsAnew cX5_pointsAnew 2 (some .int) 1 := ⟨lq56, lq57, lq58, lq4, lq59, by decide +kernel⟩
set_option maxHeartbeats 4000000 in
set_option maxRecDepth 100000 in
theorem c_Law_pointsAnew (l : Launch) (hl : l.stackTraces = false) (D : va_G) (cI cJ : ClassId) (ad : Nat → Nat) (p1 : Int32) : gMh l D cI cJ ad yL_pointsAnew cL_pointsAnew 4 (some .int) [(0, 9, 12, 13)] { frames := 8, cells := 1, slots := 6, locals := 179 } [.ref (ad 0), .int p1, .ref (ad 31)] (F_Law_pointsAnew p1) := by
  refine gStartH (L0 := [(0, .ref (ad 0)), (1, .int p1), (2, .ref (ad 31))]) RL (by decide) rfl rfl (Nat.le_of_ble_eq_true rfl) ?_
  intro p e s m args below meth c sz σ r σ' C hr htab
  unfold F_Law_pointsAnew
  refine g_aload_n C 2 dL_pointsAnew_0 rfl rfl ?_
  refine g_iconst (v := (0 : Int32)) C dL_pointsAnew_1 (by decide) ?_
  refine g_aload_n C 0 dL_pointsAnew_2 rfl rfl ?_
  refine g_iload_n C 1 dL_pointsAnew_3 rfl rfl ?_
  refine g_callvH (As := [.int p1]) (n := 1) C (c_Game_pointsAnew l hl D cI cJ ad p1) ⟨rfl, rfl⟩ gcl5 rfl lwc_pointsAnew (hR := ⟨Nat.le_of_ble_eq_true rfl, Nat.le_of_ble_eq_true rfl⟩) rfl rfl (Nat.le_of_ble_eq_true rfl) dL_pointsAnew_4 ⟨Nat.le_refl _, Nat.le_refl _⟩ (fun v σ1 => ?_) (fun k σ1 hk => ?_)
  · refine g_i2l C dL_pointsAnew_7 ?_
    refine g_last (o := 31) C rfl rfl dL_pointsAnew_8 (fun σ2 => ?_)
    refine g_goto (tgt := 15) C dL_pointsAnew_9 (by decide) ?_
    refine g_iconst (v := (0 : Int32)) C dL_pointsAnew_15 (by decide) ?_
    exact g_hret C hr dL_pointsAnew_16 (Nat.zero_le _) (Nat.zero_le _)
  · refine gX_if (fun hk0 => ?_) (fun hk0 => ?_)
    · rw [show gEx k = "java/lang/IndexOutOfBoundsException" by rw [hk0]; decide]
      refine g_catch C htab [] [] ⟨0, 9, 12, 13⟩ rfl [] (fun z hz => nomatch hz) (by decide) (by decide) lq6 lq7 (fun q => ?_)
      refine g_astore_n (L' := [(3, .ref q), (0, .ref (ad 0)), (1, .int p1), (2, .ref (ad 31))]) C dL_pointsAnew_12 rfl (by decide) rfl ?_
      refine g_iconst (v := (1 : Int32)) C dL_pointsAnew_13 (by decide) ?_
      exact g_hret C hr dL_pointsAnew_14 (Nat.le_refl _) (Nat.le_refl _)
    · exact gX_none

def F_Law_sets (p1 : Int32) (σ : gSt) : Option (Int32 × gSt) := gbh (F_Game_sets p1 σ) (fun v σ1 => gl (gup σ1 31 0 v) fun σ2 => some ((0 : Int32), σ2)) (fun k σ1 => if k = (1 : Int32) then some ((1 : Int32), σ1) else none)

theorem lwc_sets : gWv RL 62 RX5 yX5_sets cX5_sets 2 (some .int) 1 := ⟨lq60, lq61, lq62, lq4, lq63, by decide +kernel⟩
set_option maxHeartbeats 4000000 in
set_option maxRecDepth 100000 in
theorem c_Law_sets (l : Launch) (hl : l.stackTraces = false) (D : va_G) (cI cJ : ClassId) (ad : Nat → Nat) (p1 : Int32) : gMh l D cI cJ ad yL_sets cL_sets 4 (some .int) [(0, 9, 12, 13)] { frames := 8, cells := 1, slots := 6, locals := 123 } [.ref (ad 0), .int p1, .ref (ad 31)] (F_Law_sets p1) := by
  refine gStartH (L0 := [(0, .ref (ad 0)), (1, .int p1), (2, .ref (ad 31))]) RL (by decide) rfl rfl (Nat.le_of_ble_eq_true rfl) ?_
  intro p e s m args below meth c sz σ r σ' C hr htab
  unfold F_Law_sets
  refine g_aload_n C 2 dL_sets_0 rfl rfl ?_
  refine g_iconst (v := (0 : Int32)) C dL_sets_1 (by decide) ?_
  refine g_aload_n C 0 dL_sets_2 rfl rfl ?_
  refine g_iload_n C 1 dL_sets_3 rfl rfl ?_
  refine g_callvH (As := [.int p1]) (n := 1) C (c_Game_sets l hl D cI cJ ad p1) ⟨rfl, rfl⟩ gcl5 rfl lwc_sets (hR := ⟨Nat.le_of_ble_eq_true rfl, Nat.le_of_ble_eq_true rfl⟩) rfl rfl (Nat.le_of_ble_eq_true rfl) dL_sets_4 ⟨Nat.le_refl _, Nat.le_refl _⟩ (fun v σ1 => ?_) (fun k σ1 hk => ?_)
  · refine g_i2l C dL_sets_7 ?_
    refine g_last (o := 31) C rfl rfl dL_sets_8 (fun σ2 => ?_)
    refine g_goto (tgt := 15) C dL_sets_9 (by decide) ?_
    refine g_iconst (v := (0 : Int32)) C dL_sets_15 (by decide) ?_
    exact g_hret C hr dL_sets_16 (Nat.zero_le _) (Nat.zero_le _)
  · refine gX_if (fun hk0 => ?_) (fun hk0 => ?_)
    · rw [show gEx k = "java/lang/IndexOutOfBoundsException" by rw [hk0]; decide]
      refine g_catch C htab [] [] ⟨0, 9, 12, 13⟩ rfl [] (fun z hz => nomatch hz) (by decide) (by decide) lq6 lq7 (fun q => ?_)
      refine g_astore_n (L' := [(3, .ref q), (0, .ref (ad 0)), (1, .int p1), (2, .ref (ad 31))]) C dL_sets_12 rfl (by decide) rfl ?_
      refine g_iconst (v := (1 : Int32)) C dL_sets_13 (by decide) ?_
      exact g_hret C hr dL_sets_14 (Nat.le_refl _) (Nat.le_refl _)
    · exact gX_none

def F_Law_at (p1 : Int32) (p2 : Int32) (σ : gSt) : Option (Int32 × gSt) := gbh (F_Game_at p1 p2 σ) (fun v σ1 => gl (gup σ1 31 0 v) fun σ2 => some ((0 : Int32), σ2)) (fun k σ1 => if k = (1 : Int32) then some ((1 : Int32), σ1) else none)

theorem lwc_at : gWv RL 65 RX5 yX5_at cX5_at 3 (some .int) 2 := ⟨lq64, lq65, lq66, lq4, lq67, by decide +kernel⟩
set_option maxHeartbeats 4000000 in
set_option maxRecDepth 100000 in
theorem c_Law_at (l : Launch) (hl : l.stackTraces = false) (D : va_G) (cI cJ : ClassId) (ad : Nat → Nat) (p1 : Int32) (p2 : Int32) : gMh l D cI cJ ad yL_at cL_at 5 (some .int) [(0, 10, 13, 13)] { frames := 8, cells := 1, slots := 6, locals := 124 } [.ref (ad 0), .int p1, .int p2, .ref (ad 31)] (F_Law_at p1 p2) := by
  refine gStartH (L0 := [(0, .ref (ad 0)), (1, .int p1), (2, .int p2), (3, .ref (ad 31))]) RL (by decide) rfl rfl (Nat.le_of_ble_eq_true rfl) ?_
  intro p e s m args below meth c sz σ r σ' C hr htab
  unfold F_Law_at
  refine g_aload_n C 3 dL_at_0 rfl rfl ?_
  refine g_iconst (v := (0 : Int32)) C dL_at_1 (by decide) ?_
  refine g_aload_n C 0 dL_at_2 rfl rfl ?_
  refine g_iload_n C 1 dL_at_3 rfl rfl ?_
  refine g_iload_n C 2 dL_at_4 rfl rfl ?_
  refine g_callvH (As := [.int p1, .int p2]) (n := 2) C (c_Game_at l hl D cI cJ ad p1 p2) ⟨rfl, rfl⟩ gcl5 rfl lwc_at (hR := ⟨Nat.le_of_ble_eq_true rfl, Nat.le_of_ble_eq_true rfl⟩) rfl rfl (Nat.le_of_ble_eq_true rfl) dL_at_5 ⟨Nat.le_refl _, Nat.le_refl _⟩ (fun v σ1 => ?_) (fun k σ1 hk => ?_)
  · refine g_i2l C dL_at_8 ?_
    refine g_last (o := 31) C rfl rfl dL_at_9 (fun σ2 => ?_)
    refine g_goto (tgt := 17) C dL_at_10 (by decide) ?_
    refine g_iconst (v := (0 : Int32)) C dL_at_17 (by decide) ?_
    exact g_hret C hr dL_at_18 (Nat.zero_le _) (Nat.zero_le _)
  · refine gX_if (fun hk0 => ?_) (fun hk0 => ?_)
    · rw [show gEx k = "java/lang/IndexOutOfBoundsException" by rw [hk0]; decide]
      refine g_catch C htab [] [] ⟨0, 10, 13, 13⟩ rfl [] (fun z hz => nomatch hz) (by decide) (by decide) lq6 lq7 (fun q => ?_)
      refine g_astore (L' := [(4, .ref q), (0, .ref (ad 0)), (1, .int p1), (2, .int p2), (3, .ref (ad 31))]) C dL_at_13 (by decide) rfl ?_
      refine g_iconst (v := (1 : Int32)) C dL_at_15 (by decide) ?_
      exact g_hret C hr dL_at_16 (Nat.le_refl _) (Nat.le_refl _)
    · exact gX_none

def F_Law_atAnew (p1 : Int32) (p2 : Int32) (σ : gSt) : Option (Int32 × gSt) := gbh (F_Game_atAnew p1 p2 σ) (fun v σ1 => gl (gup σ1 31 0 v) fun σ2 => some ((0 : Int32), σ2)) (fun k σ1 => if k = (1 : Int32) then some ((1 : Int32), σ1) else none)

theorem lwc_atAnew : gWv RL 68 RX5 yX5_atAnew cX5_atAnew 3 (some .int) 2 := ⟨lq68, lq69, lq70, lq4, lq71, by decide +kernel⟩
set_option maxHeartbeats 4000000 in
set_option maxRecDepth 100000 in
theorem c_Law_atAnew (l : Launch) (hl : l.stackTraces = false) (D : va_G) (cI cJ : ClassId) (ad : Nat → Nat) (p1 : Int32) (p2 : Int32) : gMh l D cI cJ ad yL_atAnew cL_atAnew 5 (some .int) [(0, 10, 13, 13)] { frames := 8, cells := 1, slots := 6, locals := 180 } [.ref (ad 0), .int p1, .int p2, .ref (ad 31)] (F_Law_atAnew p1 p2) := by
  refine gStartH (L0 := [(0, .ref (ad 0)), (1, .int p1), (2, .int p2), (3, .ref (ad 31))]) RL (by decide) rfl rfl (Nat.le_of_ble_eq_true rfl) ?_
  intro p e s m args below meth c sz σ r σ' C hr htab
  unfold F_Law_atAnew
  refine g_aload_n C 3 dL_atAnew_0 rfl rfl ?_
  refine g_iconst (v := (0 : Int32)) C dL_atAnew_1 (by decide) ?_
  refine g_aload_n C 0 dL_atAnew_2 rfl rfl ?_
  refine g_iload_n C 1 dL_atAnew_3 rfl rfl ?_
  refine g_iload_n C 2 dL_atAnew_4 rfl rfl ?_
  refine g_callvH (As := [.int p1, .int p2]) (n := 2) C (c_Game_atAnew l hl D cI cJ ad p1 p2) ⟨rfl, rfl⟩ gcl5 rfl lwc_atAnew (hR := ⟨Nat.le_of_ble_eq_true rfl, Nat.le_of_ble_eq_true rfl⟩) rfl rfl (Nat.le_of_ble_eq_true rfl) dL_atAnew_5 ⟨Nat.le_refl _, Nat.le_refl _⟩ (fun v σ1 => ?_) (fun k σ1 hk => ?_)
  · refine g_i2l C dL_atAnew_8 ?_
    refine g_last (o := 31) C rfl rfl dL_atAnew_9 (fun σ2 => ?_)
    refine g_goto (tgt := 17) C dL_atAnew_10 (by decide) ?_
    refine g_iconst (v := (0 : Int32)) C dL_atAnew_17 (by decide) ?_
    exact g_hret C hr dL_atAnew_18 (Nat.zero_le _) (Nat.zero_le _)
  · refine gX_if (fun hk0 => ?_) (fun hk0 => ?_)
    · rw [show gEx k = "java/lang/IndexOutOfBoundsException" by rw [hk0]; decide]
      refine g_catch C htab [] [] ⟨0, 10, 13, 13⟩ rfl [] (fun z hz => nomatch hz) (by decide) (by decide) lq6 lq7 (fun q => ?_)
      refine g_astore (L' := [(4, .ref q), (0, .ref (ad 0)), (1, .int p1), (2, .int p2), (3, .ref (ad 31))]) C dL_atAnew_13 (by decide) rfl ?_
      refine g_iconst (v := (1 : Int32)) C dL_atAnew_15 (by decide) ?_
      exact g_hret C hr dL_atAnew_16 (Nat.le_refl _) (Nat.le_refl _)
    · exact gX_none

def F_Law_about (p1 : Int32) (σ : gSt) : Option (Int32 × gSt) := gbh (F_Game_about p1 σ) (fun v σ1 => gl (gup σ1 31 0 v) fun σ2 => some ((0 : Int32), σ2)) (fun k σ1 => if k = (2 : Int32) then some ((1 : Int32), σ1) else none)

theorem lwc_about : gWv RL 71 RX5 yX5_about cX5_about 2 (some .int) 1 := ⟨lq72, lq73, lq74, lq4, lq75, by decide +kernel⟩
set_option maxHeartbeats 4000000 in
set_option maxRecDepth 100000 in
theorem c_Law_about (l : Launch) (hl : l.stackTraces = false) (D : va_G) (cI cJ : ClassId) (ad : Nat → Nat) (p1 : Int32) : gMh l D cI cJ ad yL_about cL_about 4 (some .int) [(0, 9, 12, 33)] { frames := 7, cells := 1, slots := 6, locals := 103 } [.ref (ad 0), .int p1, .ref (ad 31)] (F_Law_about p1) := by
  refine gStartH (L0 := [(0, .ref (ad 0)), (1, .int p1), (2, .ref (ad 31))]) RL (by decide) rfl rfl (Nat.le_of_ble_eq_true rfl) ?_
  intro p e s m args below meth c sz σ r σ' C hr htab
  unfold F_Law_about
  refine g_aload_n C 2 dL_about_0 rfl rfl ?_
  refine g_iconst (v := (0 : Int32)) C dL_about_1 (by decide) ?_
  refine g_aload_n C 0 dL_about_2 rfl rfl ?_
  refine g_iload_n C 1 dL_about_3 rfl rfl ?_
  refine g_callvH (As := [.int p1]) (n := 1) C (c_Game_about l hl D cI cJ ad p1) ⟨rfl, rfl⟩ gcl5 rfl lwc_about (hR := ⟨Nat.le_of_ble_eq_true rfl, Nat.le_of_ble_eq_true rfl⟩) rfl rfl (Nat.le_of_ble_eq_true rfl) dL_about_4 ⟨Nat.le_refl _, Nat.le_refl _⟩ (fun v σ1 => ?_) (fun k σ1 hk => ?_)
  · refine g_i2l C dL_about_7 ?_
    refine g_last (o := 31) C rfl rfl dL_about_8 (fun σ2 => ?_)
    refine g_goto (tgt := 15) C dL_about_9 (by decide) ?_
    refine g_iconst (v := (0 : Int32)) C dL_about_15 (by decide) ?_
    exact g_hret C hr dL_about_16 (Nat.zero_le _) (Nat.zero_le _)
  · refine gX_if (fun hk0 => ?_) (fun hk0 => ?_)
    · rw [show gEx k = "java/lang/IllegalArgumentException" by rw [hk0]; decide]
      refine g_catch C htab [] [] ⟨0, 9, 12, 33⟩ rfl [] (fun z hz => nomatch hz) (by decide) (by decide) lq26 lq27 (fun q => ?_)
      refine g_astore_n (L' := [(3, .ref q), (0, .ref (ad 0)), (1, .int p1), (2, .ref (ad 31))]) C dL_about_12 rfl (by decide) rfl ?_
      refine g_iconst (v := (1 : Int32)) C dL_about_13 (by decide) ?_
      exact g_hret C hr dL_about_14 (Nat.le_refl _) (Nat.le_refl _)
    · exact gX_none

def F_Law_of (p1 : Int32) (p2 : Int32) (σ : gSt) : Option (Int32 × gSt) := gbh (F_Game_of p1 p2 σ) (fun v σ1 => gl (gup σ1 31 0 v) fun σ2 => some ((0 : Int32), σ2)) (fun k σ1 => if k = (1 : Int32) then some ((1 : Int32), σ1) else if k = (2 : Int32) then some ((2 : Int32), σ1) else none)

theorem lwc_of : gWv RL 74 RX5 yX5_of cX5_of 4 (some .int) 2 := ⟨lq76, lq77, lq78, lq4, lq79, by decide +kernel⟩
set_option maxHeartbeats 4000000 in
set_option maxRecDepth 100000 in
theorem c_Law_of (l : Launch) (hl : l.stackTraces = false) (D : va_G) (cI cJ : ClassId) (ad : Nat → Nat) (p1 : Int32) (p2 : Int32) : gMh l D cI cJ ad yL_of cL_of 5 (some .int) [(0, 10, 13, 13), (0, 10, 17, 33)] { frames := 8, cells := 1, slots := 6, locals := 125 } [.ref (ad 0), .int p1, .int p2, .ref (ad 31)] (F_Law_of p1 p2) := by
  refine gStartH (L0 := [(0, .ref (ad 0)), (1, .int p1), (2, .int p2), (3, .ref (ad 31))]) RL (by decide) rfl rfl (Nat.le_of_ble_eq_true rfl) ?_
  intro p e s m args below meth c sz σ r σ' C hr htab
  unfold F_Law_of
  refine g_aload_n C 3 dL_of_0 rfl rfl ?_
  refine g_iconst (v := (0 : Int32)) C dL_of_1 (by decide) ?_
  refine g_aload_n C 0 dL_of_2 rfl rfl ?_
  refine g_iload_n C 1 dL_of_3 rfl rfl ?_
  refine g_iload_n C 2 dL_of_4 rfl rfl ?_
  refine g_callvH (As := [.int p1, .int p2]) (n := 2) C (c_Game_of l hl D cI cJ ad p1 p2) ⟨rfl, rfl⟩ gcl5 rfl lwc_of (hR := ⟨Nat.le_of_ble_eq_true rfl, Nat.le_of_ble_eq_true rfl⟩) rfl rfl (Nat.le_of_ble_eq_true rfl) dL_of_5 ⟨Nat.le_refl _, Nat.le_refl _⟩ (fun v σ1 => ?_) (fun k σ1 hk => ?_)
  · refine g_i2l C dL_of_8 ?_
    refine g_last (o := 31) C rfl rfl dL_of_9 (fun σ2 => ?_)
    refine g_goto (tgt := 21) C dL_of_10 (by decide) ?_
    refine g_iconst (v := (0 : Int32)) C dL_of_21 (by decide) ?_
    exact g_hret C hr dL_of_22 (Nat.zero_le _) (Nat.zero_le _)
  · refine gX_if (fun hk0 => ?_) (fun hk0 => ?_)
    · rw [show gEx k = "java/lang/IndexOutOfBoundsException" by rw [hk0]; decide]
      refine g_catch C htab [] [⟨0, 10, 17, 33⟩] ⟨0, 10, 13, 13⟩ rfl [] (fun z hz => nomatch hz) (by decide) (by decide) lq6 lq7 (fun q => ?_)
      refine g_astore (L' := [(4, .ref q), (0, .ref (ad 0)), (1, .int p1), (2, .int p2), (3, .ref (ad 31))]) C dL_of_13 (by decide) rfl ?_
      refine g_iconst (v := (1 : Int32)) C dL_of_15 (by decide) ?_
      exact g_hret C hr dL_of_16 (Nat.le_refl _) (Nat.le_refl _)
    · refine gX_if (fun hk1 => ?_) (fun hk1 => ?_)
      · rw [show gEx k = "java/lang/IllegalArgumentException" by rw [hk1]; decide]
        refine g_catch C htab [⟨0, 10, 13, 13⟩] [] ⟨0, 10, 17, 33⟩ rfl [] (fun z hz => by
        simp only [List.mem_cons, List.not_mem_nil, or_false] at hz
        subst hz
        exact ⟨by decide, "java/lang/IndexOutOfBoundsException", lq6, by decide +kernel⟩) (by decide) (by decide) lq26 lq27 (fun q => ?_)
        refine g_astore (L' := [(4, .ref q), (0, .ref (ad 0)), (1, .int p1), (2, .int p2), (3, .ref (ad 31))]) C dL_of_17 (by decide) rfl ?_
        refine g_iconst (v := (2 : Int32)) C dL_of_19 (by decide) ?_
        exact g_hret C hr dL_of_20 (Nat.le_refl _) (Nat.le_refl _)
      · exact gX_none

def F_Law_lost (p1 : Int32) (p2 : Int32) (σ : gSt) : Option (Int32 × gSt) := gbh (F_Game_lost p1 p2 σ) (fun v σ1 => gl (gup σ1 31 0 v) fun σ2 => some ((0 : Int32), σ2)) (fun k σ1 => if k = (1 : Int32) then some ((1 : Int32), σ1) else if k = (2 : Int32) then some ((2 : Int32), σ1) else none)

theorem lwc_lost : gWv RL 77 RX5 yX5_lost cX5_lost 3 (some .int) 2 := ⟨lq80, lq81, lq82, lq4, lq83, by decide +kernel⟩
set_option maxHeartbeats 4000000 in
set_option maxRecDepth 100000 in
theorem c_Law_lost (l : Launch) (hl : l.stackTraces = false) (D : va_G) (cI cJ : ClassId) (ad : Nat → Nat) (p1 : Int32) (p2 : Int32) : gMh l D cI cJ ad yL_lost cL_lost 5 (some .int) [(0, 10, 13, 13), (0, 10, 17, 33)] { frames := 8, cells := 1, slots := 6, locals := 180 } [.ref (ad 0), .int p1, .int p2, .ref (ad 31)] (F_Law_lost p1 p2) := by
  refine gStartH (L0 := [(0, .ref (ad 0)), (1, .int p1), (2, .int p2), (3, .ref (ad 31))]) RL (by decide) rfl rfl (Nat.le_of_ble_eq_true rfl) ?_
  intro p e s m args below meth c sz σ r σ' C hr htab
  unfold F_Law_lost
  refine g_aload_n C 3 dL_lost_0 rfl rfl ?_
  refine g_iconst (v := (0 : Int32)) C dL_lost_1 (by decide) ?_
  refine g_aload_n C 0 dL_lost_2 rfl rfl ?_
  refine g_iload_n C 1 dL_lost_3 rfl rfl ?_
  refine g_iload_n C 2 dL_lost_4 rfl rfl ?_
  refine g_callvH (As := [.int p1, .int p2]) (n := 2) C (c_Game_lost l hl D cI cJ ad p1 p2) ⟨rfl, rfl⟩ gcl5 rfl lwc_lost (hR := ⟨Nat.le_of_ble_eq_true rfl, Nat.le_of_ble_eq_true rfl⟩) rfl rfl (Nat.le_of_ble_eq_true rfl) dL_lost_5 ⟨Nat.le_refl _, Nat.le_refl _⟩ (fun v σ1 => ?_) (fun k σ1 hk => ?_)
  · refine g_i2l C dL_lost_8 ?_
    refine g_last (o := 31) C rfl rfl dL_lost_9 (fun σ2 => ?_)
    refine g_goto (tgt := 21) C dL_lost_10 (by decide) ?_
    refine g_iconst (v := (0 : Int32)) C dL_lost_21 (by decide) ?_
    exact g_hret C hr dL_lost_22 (Nat.zero_le _) (Nat.zero_le _)
  · refine gX_if (fun hk0 => ?_) (fun hk0 => ?_)
    · rw [show gEx k = "java/lang/IndexOutOfBoundsException" by rw [hk0]; decide]
      refine g_catch C htab [] [⟨0, 10, 17, 33⟩] ⟨0, 10, 13, 13⟩ rfl [] (fun z hz => nomatch hz) (by decide) (by decide) lq6 lq7 (fun q => ?_)
      refine g_astore (L' := [(4, .ref q), (0, .ref (ad 0)), (1, .int p1), (2, .int p2), (3, .ref (ad 31))]) C dL_lost_13 (by decide) rfl ?_
      refine g_iconst (v := (1 : Int32)) C dL_lost_15 (by decide) ?_
      exact g_hret C hr dL_lost_16 (Nat.le_refl _) (Nat.le_refl _)
    · refine gX_if (fun hk1 => ?_) (fun hk1 => ?_)
      · rw [show gEx k = "java/lang/IllegalArgumentException" by rw [hk1]; decide]
        refine g_catch C htab [⟨0, 10, 13, 13⟩] [] ⟨0, 10, 17, 33⟩ rfl [] (fun z hz => by
        simp only [List.mem_cons, List.not_mem_nil, or_false] at hz
        subst hz
        exact ⟨by decide, "java/lang/IndexOutOfBoundsException", lq6, by decide +kernel⟩) (by decide) (by decide) lq26 lq27 (fun q => ?_)
        refine g_astore (L' := [(4, .ref q), (0, .ref (ad 0)), (1, .int p1), (2, .int p2), (3, .ref (ad 31))]) C dL_lost_17 (by decide) rfl ?_
        refine g_iconst (v := (2 : Int32)) C dL_lost_19 (by decide) ?_
        exact g_hret C hr dL_lost_20 (Nat.le_refl _) (Nat.le_refl _)
      · exact gX_none

