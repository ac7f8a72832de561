def F_Game_checkTeam_B9 (p1 : Int32) (σ : gSt) : Option (Int32 × Int32 × gSt) := some ((1 : Int32), (0 : Int32), σ)

def F_Game_checkTeam (p1 : Int32) (σ : gSt) : Option (Int32 × Int32 × gSt) := if p1 < (0 : Int32) then (F_Game_checkTeam_B9 p1 σ) else (if p1 ≤ (1 : Int32) then (some ((0 : Int32), (0 : Int32), σ)) else (F_Game_checkTeam_B9 p1 σ))

set_option maxHeartbeats 4000000 in
set_option maxRecDepth 100000 in
theorem b_Game_checkTeam_B9 {p : Program} {l : Launch} {e : Env} {s : State} {m : MethodId} {args : Array Value} {below : List Frame} {meth : Method} {c : Code} {D : va_G} {cI cJ : ClassId} {ad : Nat → Nat} {sz : Nat} {q : Int32 × Int32 × gSt} (C : gC p s m args meth c D cI cJ ad (gA ad sz) cX5_checkTeam 1 RX5) (hr : meth.sig.returnType = none) (hnt : ∀ x ∈ c.exceptionTable.toList, False) (hl : l.stackTraces = false) (p1 : Int32) (σ : gSt) : gX (F_Game_checkTeam_B9 p1 σ) q (gG p l e { frames := 6, cells := 1, slots := 6, locals := 82 } s m args below meth c D cI cJ ad (gA ad sz) 1 0 0 (vz_MQ below (gQv D cI cJ ad (gA ad sz) q) (gXC D cI cJ ad s.heap.size (gA ad sz) q) args s 1 6 (gA ad sz)) σ 9 [] []) := by
  unfold F_Game_checkTeam_B9
  exact g_throw (text := "no such team") (names := ["java/lang/RuntimeException", "java/lang/Exception"]) C hl hnt (1) (by decide) (by decide) (by decide) (by decide) qw164 qw165 (by decide) qt1 dX5_checkTeam_9 dX5_checkTeam_12 dX5_checkTeam_13 dX5_checkTeam_15 dX5_checkTeam_18 (Nat.le_of_ble_eq_true rfl) (Nat.le_of_ble_eq_true rfl) ⟨Nat.le_refl _, Nat.le_refl _⟩

set_option maxHeartbeats 4000000 in
set_option maxRecDepth 100000 in
theorem c_Game_checkTeam (l : Launch) (hl : l.stackTraces = false) (D : va_G) (cI cJ : ClassId) (ad : Nat → Nat) (p1 : Int32) : gMxv l D cI cJ ad yX5_checkTeam cX5_checkTeam 1 none { frames := 6, cells := 1, slots := 6, locals := 82 } [.int p1] (F_Game_checkTeam p1) := by
  refine gStartXv (L0 := [(0, .int p1)]) RX5 (by decide) rfl rfl (Nat.le_of_ble_eq_true rfl) ?_
  intro p e s m args below meth c sz σ q C hr hnt
  unfold F_Game_checkTeam
  refine g_iload_n C 0 dX5_checkTeam_0 rfl rfl ?_
  refine g_if_lt (tgt := 9) C dX5_checkTeam_1 (by decide) (fun h1 => ?_) (fun h1 => ?_)
  · refine g_loc [] rfl ?_
    exact b_Game_checkTeam_B9 C hr hnt hl p1 σ
  · refine g_iload_n C 0 dX5_checkTeam_4 rfl rfl ?_
    refine g_iconst (v := (1 : Int32)) C dX5_checkTeam_5 (by decide) ?_
    refine g_icmp_le (tgt := 19) C dX5_checkTeam_6 (by decide) (fun h2 => ?_) (fun h2 => ?_)
    · exact g_xretv C hr dX5_checkTeam_19
    · refine g_loc [] rfl ?_
      exact b_Game_checkTeam_B9 C hr hnt hl p1 σ

def F_Game_checkPlace_B11 (p1 : Int32) (σ : gSt) : Option (Int32 × Int32 × gSt) := some ((1 : Int32), (0 : Int32), σ)

def F_Game_checkPlace (p1 : Int32) (σ : gSt) : Option (Int32 × Int32 × gSt) := if p1 < (1 : Int32) then (F_Game_checkPlace_B11 p1 σ) else (if p1 ≤ (6 : Int32) then (some ((0 : Int32), (0 : Int32), σ)) else (F_Game_checkPlace_B11 p1 σ))

set_option maxHeartbeats 4000000 in
set_option maxRecDepth 100000 in
theorem b_Game_checkPlace_B11 {p : Program} {l : Launch} {e : Env} {s : State} {m : MethodId} {args : Array Value} {below : List Frame} {meth : Method} {c : Code} {D : va_G} {cI cJ : ClassId} {ad : Nat → Nat} {sz : Nat} {q : Int32 × Int32 × gSt} (C : gC p s m args meth c D cI cJ ad (gA ad sz) cX5_checkPlace 1 RX5) (hr : meth.sig.returnType = none) (hnt : ∀ x ∈ c.exceptionTable.toList, False) (hl : l.stackTraces = false) (p1 : Int32) (σ : gSt) : gX (F_Game_checkPlace_B11 p1 σ) q (gG p l e { frames := 6, cells := 1, slots := 6, locals := 82 } s m args below meth c D cI cJ ad (gA ad sz) 1 0 0 (vz_MQ below (gQv D cI cJ ad (gA ad sz) q) (gXC D cI cJ ad s.heap.size (gA ad sz) q) args s 1 6 (gA ad sz)) σ 11 [] []) := by
  unfold F_Game_checkPlace_B11
  exact g_throw (text := "no such place") (names := ["java/lang/RuntimeException", "java/lang/Exception"]) C hl hnt (1) (by decide) (by decide) (by decide) (by decide) qw164 qw165 (by decide) qt1 dX5_checkPlace_11 dX5_checkPlace_14 dX5_checkPlace_15 dX5_checkPlace_17 dX5_checkPlace_20 (Nat.le_of_ble_eq_true rfl) (Nat.le_of_ble_eq_true rfl) ⟨Nat.le_refl _, Nat.le_refl _⟩

set_option maxHeartbeats 4000000 in
set_option maxRecDepth 100000 in
theorem c_Game_checkPlace (l : Launch) (hl : l.stackTraces = false) (D : va_G) (cI cJ : ClassId) (ad : Nat → Nat) (p1 : Int32) : gMxv l D cI cJ ad yX5_checkPlace cX5_checkPlace 1 none { frames := 6, cells := 1, slots := 6, locals := 82 } [.int p1] (F_Game_checkPlace p1) := by
  refine gStartXv (L0 := [(0, .int p1)]) RX5 (by decide) rfl rfl (Nat.le_of_ble_eq_true rfl) ?_
  intro p e s m args below meth c sz σ q C hr hnt
  unfold F_Game_checkPlace
  refine g_iload_n C 0 dX5_checkPlace_0 rfl rfl ?_
  refine g_iconst (v := (1 : Int32)) C dX5_checkPlace_1 (by decide) ?_
  refine g_icmp_lt (tgt := 11) C dX5_checkPlace_2 (by decide) (fun h1 => ?_) (fun h1 => ?_)
  · refine g_loc [] rfl ?_
    exact b_Game_checkPlace_B11 C hr hnt hl p1 σ
  · refine g_iload_n C 0 dX5_checkPlace_5 rfl rfl ?_
    refine g_bipush (v := (6 : Int32)) C dX5_checkPlace_6 (by decide) ?_
    refine g_icmp_le (tgt := 21) C dX5_checkPlace_8 (by decide) (fun h2 => ?_) (fun h2 => ?_)
    · exact g_xretv C hr dX5_checkPlace_21
    · refine g_loc [] rfl ?_
      exact b_Game_checkPlace_B11 C hr hnt hl p1 σ

def F_Game_checkShirt_B11 (p1 : Int32) (σ : gSt) : Option (Int32 × Int32 × gSt) := some ((1 : Int32), (0 : Int32), σ)

def F_Game_checkShirt (p1 : Int32) (σ : gSt) : Option (Int32 × Int32 × gSt) := if p1 < (1 : Int32) then (F_Game_checkShirt_B11 p1 σ) else (if p1 ≤ (20 : Int32) then (some ((0 : Int32), (0 : Int32), σ)) else (F_Game_checkShirt_B11 p1 σ))

set_option maxHeartbeats 4000000 in
set_option maxRecDepth 100000 in
theorem b_Game_checkShirt_B11 {p : Program} {l : Launch} {e : Env} {s : State} {m : MethodId} {args : Array Value} {below : List Frame} {meth : Method} {c : Code} {D : va_G} {cI cJ : ClassId} {ad : Nat → Nat} {sz : Nat} {q : Int32 × Int32 × gSt} (C : gC p s m args meth c D cI cJ ad (gA ad sz) cX5_checkShirt 1 RX5) (hr : meth.sig.returnType = none) (hnt : ∀ x ∈ c.exceptionTable.toList, False) (hl : l.stackTraces = false) (p1 : Int32) (σ : gSt) : gX (F_Game_checkShirt_B11 p1 σ) q (gG p l e { frames := 6, cells := 1, slots := 6, locals := 82 } s m args below meth c D cI cJ ad (gA ad sz) 1 0 0 (vz_MQ below (gQv D cI cJ ad (gA ad sz) q) (gXC D cI cJ ad s.heap.size (gA ad sz) q) args s 1 6 (gA ad sz)) σ 11 [] []) := by
  unfold F_Game_checkShirt_B11
  exact g_throw (text := "no such shirt") (names := ["java/lang/RuntimeException", "java/lang/Exception"]) C hl hnt (1) (by decide) (by decide) (by decide) (by decide) qw164 qw165 (by decide) qt1 dX5_checkShirt_11 dX5_checkShirt_14 dX5_checkShirt_15 dX5_checkShirt_17 dX5_checkShirt_20 (Nat.le_of_ble_eq_true rfl) (Nat.le_of_ble_eq_true rfl) ⟨Nat.le_refl _, Nat.le_refl _⟩

set_option maxHeartbeats 4000000 in
set_option maxRecDepth 100000 in
theorem c_Game_checkShirt (l : Launch) (hl : l.stackTraces = false) (D : va_G) (cI cJ : ClassId) (ad : Nat → Nat) (p1 : Int32) : gMxv l D cI cJ ad yX5_checkShirt cX5_checkShirt 1 none { frames := 6, cells := 1, slots := 6, locals := 82 } [.int p1] (F_Game_checkShirt p1) := by
  refine gStartXv (L0 := [(0, .int p1)]) RX5 (by decide) rfl rfl (Nat.le_of_ble_eq_true rfl) ?_
  intro p e s m args below meth c sz σ q C hr hnt
  unfold F_Game_checkShirt
  refine g_iload_n C 0 dX5_checkShirt_0 rfl rfl ?_
  refine g_iconst (v := (1 : Int32)) C dX5_checkShirt_1 (by decide) ?_
  refine g_icmp_lt (tgt := 11) C dX5_checkShirt_2 (by decide) (fun h1 => ?_) (fun h1 => ?_)
  · refine g_loc [] rfl ?_
    exact b_Game_checkShirt_B11 C hr hnt hl p1 σ
  · refine g_iload_n C 0 dX5_checkShirt_5 rfl rfl ?_
    refine g_bipush (v := (20 : Int32)) C dX5_checkShirt_6 (by decide) ?_
    refine g_icmp_le (tgt := 21) C dX5_checkShirt_8 (by decide) (fun h2 => ?_) (fun h2 => ?_)
    · exact g_xretv C hr dX5_checkShirt_21
    · refine g_loc [] rfl ?_
      exact b_Game_checkShirt_B11 C hr hnt hl p1 σ

def F_Game_checkAheadOfSet_B20  (σ : gSt) : Option (Int32 × Int32 × gSt) := some ((3 : Int32), (0 : Int32), σ)

def F_Game_checkAheadOfSet  (σ : gSt) : Option (Int32 × Int32 × gSt) := gbi (F_Court_isSetOn 1 σ) fun r2 σ1 => if r2 = (0 : Int32) then (gbi (F_Court_isMatchOver 1 σ1) fun r5 σ4 => if r5 = (0 : Int32) then (some ((0 : Int32), (0 : Int32), σ4)) else (F_Game_checkAheadOfSet_B20 σ4)) else (F_Game_checkAheadOfSet_B20 σ1)

set_option maxHeartbeats 4000000 in
set_option maxRecDepth 100000 in
theorem b_Game_checkAheadOfSet_B20 {p : Program} {l : Launch} {e : Env} {s : State} {m : MethodId} {args : Array Value} {below : List Frame} {meth : Method} {c : Code} {D : va_G} {cI cJ : ClassId} {ad : Nat → Nat} {sz : Nat} {q : Int32 × Int32 × gSt} (C : gC p s m args meth c D cI cJ ad (gA ad sz) cX5_checkAheadOfSet 1 RX5) (hr : meth.sig.returnType = none) (hnt : ∀ x ∈ c.exceptionTable.toList, False) (hl : l.stackTraces = false) (σ : gSt) : gX (F_Game_checkAheadOfSet_B20 σ) q (gG p l e { frames := 6, cells := 1, slots := 6, locals := 82 } s m args below meth c D cI cJ ad (gA ad sz) 1 0 0 (vz_MQ below (gQv D cI cJ ad (gA ad sz) q) (gXC D cI cJ ad s.heap.size (gA ad sz) q) args s 1 6 (gA ad sz)) σ 20 [] []) := by
  unfold F_Game_checkAheadOfSet_B20
  exact g_throw (text := "a set goes on, or the match is over") (names := ["java/lang/RuntimeException", "java/lang/Exception"]) C hl hnt (3) (by decide) (by decide) (by decide) (by decide) qw175 qw176 (by decide) qt2 dX5_checkAheadOfSet_20 dX5_checkAheadOfSet_23 dX5_checkAheadOfSet_24 dX5_checkAheadOfSet_26 dX5_checkAheadOfSet_29 (Nat.le_of_ble_eq_true rfl) (Nat.le_of_ble_eq_true rfl) ⟨Nat.le_refl _, Nat.le_refl _⟩

set_option maxHeartbeats 4000000 in
set_option maxRecDepth 100000 in
theorem c_Game_checkAheadOfSet (l : Launch) (hl : l.stackTraces = false) (D : va_G) (cI cJ : ClassId) (ad : Nat → Nat) : gMxv l D cI cJ ad yX5_checkAheadOfSet cX5_checkAheadOfSet 1 none { frames := 6, cells := 1, slots := 6, locals := 82 } [.ref (ad 0)] (F_Game_checkAheadOfSet) := by
  refine gStartXv (L0 := [(0, .ref (ad 0))]) RX5 (by decide) rfl rfl (Nat.le_of_ble_eq_true rfl) ?_
  intro p e s m args below meth c sz σ q C hr hnt
  unfold F_Game_checkAheadOfSet
  refine g_aload_n C 0 dX5_checkAheadOfSet_0 rfl rfl ?_
  refine g_getR (o' := 1) C 0 0 gcl5 rfl (by decide) rfl qw166 dX5_checkAheadOfSet_1 ?_
  refine g_callvi (As := []) (n := 0) C (c_Court_isSetOn l hl D cI cJ ad 1 gc1) ⟨rfl, rfl⟩ gcl0 rfl qc39 (hR := ⟨Nat.le_of_ble_eq_true rfl, Nat.le_of_ble_eq_true rfl⟩) rfl rfl (Nat.le_of_ble_eq_true rfl) dX5_checkAheadOfSet_4 ⟨Nat.zero_le _, Nat.zero_le _⟩ (fun r2 σ1 => ?_)
  refine g_if_ne (tgt := 20) C dX5_checkAheadOfSet_7 (by decide) (fun h3 => ?_) (fun h3 => ?_)
  · refine g_aload_n C 0 dX5_checkAheadOfSet_10 rfl rfl ?_
    refine g_getR (o' := 1) C 0 0 gcl5 rfl (by decide) rfl qw166 dX5_checkAheadOfSet_11 ?_
    refine g_callvi (As := []) (n := 0) C (c_Court_isMatchOver l hl D cI cJ ad 1 gc1) ⟨rfl, rfl⟩ gcl0 rfl qc40 (hR := ⟨Nat.le_of_ble_eq_true rfl, Nat.le_of_ble_eq_true rfl⟩) rfl rfl (Nat.le_of_ble_eq_true rfl) dX5_checkAheadOfSet_14 ⟨Nat.zero_le _, Nat.zero_le _⟩ (fun r5 σ4 => ?_)
    refine g_if_eq (tgt := 30) C dX5_checkAheadOfSet_17 (by decide) (fun h6 => ?_) (fun h6 => ?_)
    · exact g_xretv C hr dX5_checkAheadOfSet_30
    · refine g_loc [] rfl ?_
      exact b_Game_checkAheadOfSet_B20 C hr hnt hl σ4
  · refine g_loc [] rfl ?_
    exact b_Game_checkAheadOfSet_B20 C hr hnt hl σ1

def F_Game_line (p1 : Int32) (p2 : Int32) (p3 : Int32) (σ : gSt) : Option (Int32 × Int32 × gSt) := gbx (F_Game_checkTeam p1 σ) fun σ1 => gbx (F_Game_checkPlace p2 σ1) fun σ2 => gbx (F_Game_checkShirt p3 σ2) fun σ3 => gbx (F_Game_checkAheadOfSet σ3) fun σ4 => gbr (F_Court_sideOf 1 p1 σ4) fun o6 σ5 => gbi (F_Side_shirtIn o6 p2 σ5) fun r9 σ8 => gbv (F_Side_put o6 p2 p3 σ8) fun σ10 => gl (gup σ10 0 6 (-1 : Int32)) fun σ11 => some ((0 : Int32), r9, σ11)

set_option maxHeartbeats 4000000 in
set_option maxRecDepth 100000 in
theorem c_Game_line (l : Launch) (hl : l.stackTraces = false) (D : va_G) (cI cJ : ClassId) (ad : Nat → Nat) (p1 : Int32) (p2 : Int32) (p3 : Int32) : gMxi l D cI cJ ad yX5_line cX5_line 6 (some .int) { frames := 7, cells := 1, slots := 6, locals := 102 } [.ref (ad 0), .int p1, .int p2, .int p3] (F_Game_line p1 p2 p3) := by
  refine gStartXi (L0 := [(0, .ref (ad 0)), (1, .int p1), (2, .int p2), (3, .int p3)]) RX5 (by decide) rfl rfl (Nat.le_of_ble_eq_true rfl) ?_
  intro p e s m args below meth c sz σ q C hr hnt
  unfold F_Game_line
  refine g_iload_n C 1 dX5_line_0 rfl rfl ?_
  refine g_callsx (As := [.int p1]) (n := 1) C hnt (c_Game_checkTeam l hl D cI cJ ad p1) ⟨rfl, rfl⟩ qc41 (hR := ⟨Nat.le_of_ble_eq_true rfl, Nat.le_of_ble_eq_true rfl⟩) rfl rfl (Nat.le_of_ble_eq_true rfl) dX5_line_1 ⟨Nat.le_refl _, Nat.le_refl _⟩ (fun σ1 => ?_)
  refine g_iload_n C 2 dX5_line_4 rfl rfl ?_
  refine g_callsx (As := [.int p2]) (n := 1) C hnt (c_Game_checkPlace l hl D cI cJ ad p2) ⟨rfl, rfl⟩ qc42 (hR := ⟨Nat.le_of_ble_eq_true rfl, Nat.le_of_ble_eq_true rfl⟩) rfl rfl (Nat.le_of_ble_eq_true rfl) dX5_line_5 ⟨Nat.le_refl _, Nat.le_refl _⟩ (fun σ2 => ?_)
  refine g_iload_n C 3 dX5_line_8 rfl rfl ?_
  refine g_callsx (As := [.int p3]) (n := 1) C hnt (c_Game_checkShirt l hl D cI cJ ad p3) ⟨rfl, rfl⟩ qc43 (hR := ⟨Nat.le_of_ble_eq_true rfl, Nat.le_of_ble_eq_true rfl⟩) rfl rfl (Nat.le_of_ble_eq_true rfl) dX5_line_9 ⟨Nat.le_refl _, Nat.le_refl _⟩ (fun σ3 => ?_)
  refine g_aload_n C 0 dX5_line_12 rfl rfl ?_
  refine g_callvx (As := []) (n := 0) C hnt (c_Game_checkAheadOfSet l hl D cI cJ ad) ⟨rfl, rfl⟩ gcl5 rfl qc44 (hR := ⟨Nat.le_of_ble_eq_true rfl, Nat.le_of_ble_eq_true rfl⟩) rfl rfl (Nat.le_of_ble_eq_true rfl) dX5_line_13 ⟨Nat.le_refl _, Nat.le_refl _⟩ (fun σ4 => ?_)
  refine g_aload_n C 0 dX5_line_16 rfl rfl ?_
  refine g_getR (o' := 1) C 0 0 gcl5 rfl (by decide) rfl qw166 dX5_line_17 ?_
  refine g_iload_n C 1 dX5_line_20 rfl rfl ?_
  refine g_callvr (As := [.int p1]) (n := 1) C (c_Court_sideOf l hl D cI cJ ad 1 p1 gc1) ⟨rfl, rfl⟩ gcl0 rfl qc45 (hR := ⟨Nat.le_of_ble_eq_true rfl, Nat.le_of_ble_eq_true rfl⟩) rfl rfl (Nat.le_of_ble_eq_true rfl) dX5_line_21 ⟨Nat.zero_le _, Nat.zero_le _⟩ (fun o6 σ5 h7 => ?_)
  refine g_astore (L' := [(4, .ref (ad o6)), (0, .ref (ad 0)), (1, .int p1), (2, .int p2), (3, .int p3)]) C dX5_line_24 (by decide) rfl ?_
  refine g_aload C 0 dX5_line_26 rfl ?_
  refine g_iload_n C 3 dX5_line_28 rfl rfl ?_
  refine g_callvi (As := [.int p2]) (n := 1) C (c_Side_shirtIn l hl D cI cJ ad o6 p2 (gOf_side gc1 h7)) ⟨rfl, rfl⟩ gcl4 (gSd (gOf_side gc1 h7)).1 qc46 (hR := ⟨Nat.le_of_ble_eq_true rfl, Nat.le_of_ble_eq_true rfl⟩) rfl rfl (Nat.le_of_ble_eq_true rfl) dX5_line_29 ⟨Nat.zero_le _, Nat.zero_le _⟩ (fun r9 σ8 => ?_)
  refine g_istore (L' := [(5, .int r9), (4, .ref (ad o6)), (0, .ref (ad 0)), (1, .int p1), (2, .int p2), (3, .int p3)]) C dX5_line_32 (by decide) rfl ?_
  refine g_aload C 1 dX5_line_34 rfl ?_
  refine g_iload_n C 4 dX5_line_36 rfl rfl ?_
  refine g_iload_n C 5 dX5_line_37 rfl rfl ?_
  refine g_callvv (As := [.int p2, .int p3]) (n := 2) C (c_Side_put l hl D cI cJ ad o6 p2 p3 (gOf_side gc1 h7)) ⟨rfl, rfl⟩ gcl4 (gSd (gOf_side gc1 h7)).1 qc47 (hR := ⟨Nat.le_of_ble_eq_true rfl, Nat.le_of_ble_eq_true rfl⟩) rfl rfl (Nat.le_of_ble_eq_true rfl) dX5_line_38 ⟨Nat.zero_le _, Nat.zero_le _⟩ (fun σ10 => ?_)
  refine g_aload_n C 2 dX5_line_41 rfl rfl ?_
  refine g_iconst (v := (-1 : Int32)) C dX5_line_42 (by decide) ?_
  refine g_putI C 0 6 gcl5 gft5 rfl (by decide) rfl rfl rfl qw197 dX5_line_43 (fun σ11 => ?_)
  refine g_iload C 0 dX5_line_46 rfl ?_
  exact g_xireti C hr dX5_line_48

def F_Game_libero (p1 : Int32) (p2 : Int32) (σ : gSt) : Option (Int32 × Int32 × gSt) := gbx (F_Game_checkTeam p1 σ) fun σ1 => gbx (F_Game_checkShirt p2 σ1) fun σ2 => gbx (F_Game_checkAheadOfSet σ2) fun σ3 => gbr (F_Court_sideOf 1 p1 σ3) fun o5 σ4 => gl (σ4 o5 2) fun x7 => gl (gup σ4 o5 2 p2) fun σ8 => gl (gup σ8 0 6 (-1 : Int32)) fun σ9 => some ((0 : Int32), x7, σ9)

set_option maxHeartbeats 4000000 in
set_option maxRecDepth 100000 in
theorem c_Game_libero (l : Launch) (hl : l.stackTraces = false) (D : va_G) (cI cJ : ClassId) (ad : Nat → Nat) (p1 : Int32) (p2 : Int32) : gMxi l D cI cJ ad yX5_libero cX5_libero 5 (some .int) { frames := 7, cells := 1, slots := 6, locals := 102 } [.ref (ad 0), .int p1, .int p2] (F_Game_libero p1 p2) := by
  refine gStartXi (L0 := [(0, .ref (ad 0)), (1, .int p1), (2, .int p2)]) RX5 (by decide) rfl rfl (Nat.le_of_ble_eq_true rfl) ?_
  intro p e s m args below meth c sz σ q C hr hnt
  unfold F_Game_libero
  refine g_iload_n C 1 dX5_libero_0 rfl rfl ?_
  refine g_callsx (As := [.int p1]) (n := 1) C hnt (c_Game_checkTeam l hl D cI cJ ad p1) ⟨rfl, rfl⟩ qc41 (hR := ⟨Nat.le_of_ble_eq_true rfl, Nat.le_of_ble_eq_true rfl⟩) rfl rfl (Nat.le_of_ble_eq_true rfl) dX5_libero_1 ⟨Nat.le_refl _, Nat.le_refl _⟩ (fun σ1 => ?_)
  refine g_iload_n C 2 dX5_libero_4 rfl rfl ?_
  refine g_callsx (As := [.int p2]) (n := 1) C hnt (c_Game_checkShirt l hl D cI cJ ad p2) ⟨rfl, rfl⟩ qc43 (hR := ⟨Nat.le_of_ble_eq_true rfl, Nat.le_of_ble_eq_true rfl⟩) rfl rfl (Nat.le_of_ble_eq_true rfl) dX5_libero_5 ⟨Nat.le_refl _, Nat.le_refl _⟩ (fun σ2 => ?_)
  refine g_aload_n C 0 dX5_libero_8 rfl rfl ?_
  refine g_callvx (As := []) (n := 0) C hnt (c_Game_checkAheadOfSet l hl D cI cJ ad) ⟨rfl, rfl⟩ gcl5 rfl qc44 (hR := ⟨Nat.le_of_ble_eq_true rfl, Nat.le_of_ble_eq_true rfl⟩) rfl rfl (Nat.le_of_ble_eq_true rfl) dX5_libero_9 ⟨Nat.le_refl _, Nat.le_refl _⟩ (fun σ3 => ?_)
  refine g_aload_n C 0 dX5_libero_12 rfl rfl ?_
  refine g_getR (o' := 1) C 0 0 gcl5 rfl (by decide) rfl qw166 dX5_libero_13 ?_
  refine g_iload_n C 1 dX5_libero_16 rfl rfl ?_
  refine g_callvr (As := [.int p1]) (n := 1) C (c_Court_sideOf l hl D cI cJ ad 1 p1 gc1) ⟨rfl, rfl⟩ gcl0 rfl qc45 (hR := ⟨Nat.le_of_ble_eq_true rfl, Nat.le_of_ble_eq_true rfl⟩) rfl rfl (Nat.le_of_ble_eq_true rfl) dX5_libero_17 ⟨Nat.zero_le _, Nat.zero_le _⟩ (fun o5 σ4 h6 => ?_)
  refine g_astore_n (L' := [(3, .ref (ad o5)), (0, .ref (ad 0)), (1, .int p1), (2, .int p2)]) C dX5_libero_20 rfl (by decide) rfl ?_
  refine g_aload_n C 0 dX5_libero_21 rfl rfl ?_
  refine g_getIN C o5 2 gcl4 (gSd (gOf_side gc1 h6)).1 (by decide) ((gSd (gOf_side gc1 h6)).2.2.2.1 2 (by decide)) qn198 dX5_libero_22 ?_
  refine g_name ?_; intro x7
  refine g_istore (L' := [(4, .int x7), (3, .ref (ad o5)), (0, .ref (ad 0)), (1, .int p1), (2, .int p2)]) C dX5_libero_25 (by decide) rfl ?_
  refine g_aload_n C 1 dX5_libero_27 rfl rfl ?_
  refine g_iload_n C 4 dX5_libero_28 rfl rfl ?_
  refine g_putIN C o5 2 gcl4 gft4 (gSd (gOf_side gc1 h6)).1 (by decide) ((gSd (gOf_side gc1 h6)).2.2.2.1 2 (by decide)) rfl rfl qn198 dX5_libero_29 (fun σ8 => ?_)
  refine g_aload_n C 2 dX5_libero_32 rfl rfl ?_
  refine g_iconst (v := (-1 : Int32)) C dX5_libero_33 (by decide) ?_
  refine g_putI C 0 6 gcl5 gft5 rfl (by decide) rfl rfl rfl qw197 dX5_libero_34 (fun σ9 => ?_)
  refine g_iload C 0 dX5_libero_37 rfl ?_
  exact g_xireti C hr dX5_libero_39

def F_Game_writeOrder_B11 (p1 : Int32) : Nat → Int32 → Nat → Int32 → gSt → Option gSt
  | 0, _, _, _, _ => none
  | n + 1, l1, l2, l3, σ => if (6 : Int32) < l3 then (if (σ l2 2) = (-1 : Int32) then (some σ) else (gbv (F_Sheet_write (1 : Int32) l1 (σ l2 2) (0 : Int32) σ) fun σ3 => some σ3)) else (gbi (F_Side_shirtIn l2 l3 σ) fun r5 σ4 => gbv (F_Sheet_write (0 : Int32) l1 l3 r5 σ4) fun σ6 => F_Game_writeOrder_B11 p1 n l1 l2 (l3 + (1 : Int32)) σ6)

def F_Game_writeOrder (p1 : Int32) (σ : gSt) : Option gSt := gbr (F_Court_sideOf 1 p1 σ) fun o2 σ1 => F_Game_writeOrder_B11 p1 100 p1 o2 (1 : Int32) σ1

set_option maxHeartbeats 4000000 in
set_option maxRecDepth 100000 in
theorem b_Game_writeOrder_B11 {p : Program} {l : Launch} {e : Env} {s : State} {m : MethodId} {args : Array Value} {below : List Frame} {meth : Method} {c : Code} {D : va_G} {cI cJ : ClassId} {ad : Nat → Nat} {sz : Nat} {σ' : gSt} (C : gC p s m args meth c D cI cJ ad (gA ad sz) cX5_writeOrder 4 RX5) (hr : meth.sig.returnType = none) (hl : l.stackTraces = false) (p1 : Int32) : ∀ (n : Nat) (l1 : Int32) (l2 : Nat) (l3 : Int32) (hl2 : gIsSide l2) (σ : gSt), gX (F_Game_writeOrder_B11 p1 n l1 l2 l3 σ) σ' (gG p l e { frames := 2, cells := 0, slots := 0, locals := 46 } s m args below meth c D cI cJ ad (gA ad sz) 4 0 0 (MQ below (va_Qv (fun (_ : Unit) => True) (fun _ t => va_P D vwCl (gw cI cJ ad σ') t.heap) (gA ad sz)) args s 0 0 (gA ad sz)) σ 11 [(0, .ref (ad 0)), (1, .int l1), (2, .ref (ad l2)), (3, .int l3)] []) := by
  intro n
  induction n with
  | zero =>
    intro l1 l2 l3 hl2 σ
    unfold F_Game_writeOrder_B11
    exact gX_none
  | succ n ih =>
    intro l1 l2 l3 hl2 σ
    unfold F_Game_writeOrder_B11
    refine g_iload_n C 3 dX5_writeOrder_11 rfl rfl ?_
    refine g_bipush (v := (6 : Int32)) C dX5_writeOrder_12 (by decide) ?_
    refine g_icmp_gt (tgt := 38) C dX5_writeOrder_14 (by decide) (fun h1 => ?_) (fun h1 => ?_)
    · refine g_aload_n C 2 dX5_writeOrder_38 rfl rfl ?_
      refine g_getIN C l2 2 gcl4 (gSd hl2).1 (by decide) ((gSd hl2).2.2.2.1 2 (by decide)) qn198 dX5_writeOrder_39 ?_
      refine g_iconst (v := (-1 : Int32)) C dX5_writeOrder_42 (by decide) ?_
      refine g_icmp_eq (tgt := 60) C dX5_writeOrder_43 (by decide) (fun h2 => ?_) (fun h2 => ?_)
      · exact g_retv C hr dX5_writeOrder_60
      · refine g_aload_n C 0 dX5_writeOrder_46 rfl rfl ?_
        refine g_getR (o' := 16) C 0 3 gcl5 rfl (by decide) rfl qw199 dX5_writeOrder_47 ?_
        refine g_iconst (v := (1 : Int32)) C dX5_writeOrder_50 (by decide) ?_
        refine g_iload_n C 1 dX5_writeOrder_51 rfl rfl ?_
        refine g_aload_n C 2 dX5_writeOrder_52 rfl rfl ?_
        refine g_getIN C l2 2 gcl4 (gSd hl2).1 (by decide) ((gSd hl2).2.2.2.1 2 (by decide)) qn198 dX5_writeOrder_53 ?_
        refine g_iconst (v := (0 : Int32)) C dX5_writeOrder_56 (by decide) ?_
        refine g_callvv (As := [.int (1 : Int32), .int l1, .int (σ l2 2), .int (0 : Int32)]) (n := 4) C (c_Sheet_write l hl D cI cJ ad (1 : Int32) l1 (σ l2 2) (0 : Int32)) ⟨rfl, rfl⟩ gcl3 rfl qc48 (hR := ⟨Nat.le_of_ble_eq_true rfl, Nat.le_of_ble_eq_true rfl⟩) rfl rfl (Nat.le_of_ble_eq_true rfl) dX5_writeOrder_57 ⟨Nat.zero_le _, Nat.zero_le _⟩ (fun σ3 => ?_)
        exact g_retv C hr dX5_writeOrder_60
    · refine g_aload_n C 0 dX5_writeOrder_17 rfl rfl ?_
      refine g_getR (o' := 16) C 0 3 gcl5 rfl (by decide) rfl qw199 dX5_writeOrder_18 ?_
      refine g_iconst (v := (0 : Int32)) C dX5_writeOrder_21 (by decide) ?_
      refine g_iload_n C 1 dX5_writeOrder_22 rfl rfl ?_
      refine g_iload_n C 3 dX5_writeOrder_23 rfl rfl ?_
      refine g_aload_n C 2 dX5_writeOrder_24 rfl rfl ?_
      refine g_iload_n C 3 dX5_writeOrder_25 rfl rfl ?_
      refine g_callvi (As := [.int l3]) (n := 1) C (c_Side_shirtIn l hl D cI cJ ad l2 l3 hl2) ⟨rfl, rfl⟩ gcl4 (gSd hl2).1 qc46 (hR := ⟨Nat.le_of_ble_eq_true rfl, Nat.le_of_ble_eq_true rfl⟩) rfl rfl (Nat.le_of_ble_eq_true rfl) dX5_writeOrder_26 ⟨Nat.zero_le _, Nat.zero_le _⟩ (fun r5 σ4 => ?_)
      refine g_callvv (As := [.int (0 : Int32), .int l1, .int l3, .int r5]) (n := 4) C (c_Sheet_write l hl D cI cJ ad (0 : Int32) l1 l3 r5) ⟨rfl, rfl⟩ gcl3 rfl qc48 (hR := ⟨Nat.le_of_ble_eq_true rfl, Nat.le_of_ble_eq_true rfl⟩) rfl rfl (Nat.le_of_ble_eq_true rfl) dX5_writeOrder_29 ⟨Nat.zero_le _, Nat.zero_le _⟩ (fun σ6 => ?_)
      refine g_iinc (v := (l3 + (1 : Int32))) (L' := [(3, .int (l3 + (1 : Int32))), (0, .ref (ad 0)), (1, .int l1), (2, .ref (ad l2))]) C 3 dX5_writeOrder_32 rfl (by rfl) (by decide) rfl ?_
      refine g_goto (tgt := 11) C dX5_writeOrder_35 (by decide) ?_
      refine g_loc [1, 2, 3, 0] rfl ?_
      exact ih l1 l2 (l3 + (1 : Int32)) hl2 σ6

set_option maxHeartbeats 4000000 in
set_option maxRecDepth 100000 in
theorem c_Game_writeOrder (l : Launch) (hl : l.stackTraces = false) (D : va_G) (cI cJ : ClassId) (ad : Nat → Nat) (p1 : Int32) : gMv l D cI cJ ad yX5_writeOrder cX5_writeOrder 4 none { frames := 2, cells := 0, slots := 0, locals := 46 } [.ref (ad 0), .int p1] (F_Game_writeOrder p1) := by
  refine gStartV (L0 := [(0, .ref (ad 0)), (1, .int p1)]) RX5 (by decide) rfl rfl (Nat.le_of_ble_eq_true rfl) ?_
  intro p e s m args below meth c sz σ σ' C hr
  unfold F_Game_writeOrder
  refine g_aload_n C 0 dX5_writeOrder_0 rfl rfl ?_
  refine g_getR (o' := 1) C 0 0 gcl5 rfl (by decide) rfl qw166 dX5_writeOrder_1 ?_
  refine g_iload_n C 1 dX5_writeOrder_4 rfl rfl ?_
  refine g_callvr (As := [.int p1]) (n := 1) C (c_Court_sideOf l hl D cI cJ ad 1 p1 gc1) ⟨rfl, rfl⟩ gcl0 rfl qc45 (hR := ⟨Nat.le_of_ble_eq_true rfl, Nat.le_of_ble_eq_true rfl⟩) rfl rfl (Nat.le_of_ble_eq_true rfl) dX5_writeOrder_5 ⟨Nat.zero_le _, Nat.zero_le _⟩ (fun o2 σ1 h3 => ?_)
  refine g_astore_n (L' := [(2, .ref (ad o2)), (0, .ref (ad 0)), (1, .int p1)]) C dX5_writeOrder_8 rfl (by decide) rfl ?_
  refine g_iconst (v := (1 : Int32)) C dX5_writeOrder_9 (by decide) ?_
  refine g_istore_n (L' := [(3, .int (1 : Int32)), (2, .ref (ad o2)), (0, .ref (ad 0)), (1, .int p1)]) C dX5_writeOrder_10 rfl (by decide) rfl ?_
  refine g_loc [2, 3, 1, 0] rfl ?_
  exact b_Game_writeOrder_B11 C hr hl p1 100 p1 o2 (1 : Int32) (gOf_side gc1 h3) σ1

def F_Game_begin_B34 (p1 : Int32) (σ : gSt) : Option (Int32 × Int32 × gSt) := some ((3 : Int32), (0 : Int32), σ)

def F_Game_begin (p1 : Int32) (σ : gSt) : Option (Int32 × Int32 × gSt) := gbx (F_Game_checkTeam p1 σ) fun σ1 => gbx (F_Game_checkAheadOfSet σ1) fun σ2 => gbi (F_Side_isReady 2 σ2) fun r4 σ3 => if r4 = (0 : Int32) then (F_Game_begin_B34 p1 σ3) else (gbi (F_Side_isReady 5 σ3) fun r7 σ6 => if r7 = (0 : Int32) then (F_Game_begin_B34 p1 σ6) else (gbv (F_Court_startSet 1 p1 σ6) fun σ9 => gbv (F_Sheet_cutTo (0 : Int32) σ9) fun σ10 => gbv (F_Game_writeOrder (0 : Int32) σ10) fun σ11 => gbv (F_Game_writeOrder (1 : Int32) σ11) fun σ12 => gbv (F_Sheet_write (2 : Int32) p1 (0 : Int32) (0 : Int32) σ12) fun σ13 => gl (gup σ13 0 6 (-1 : Int32)) fun σ14 => gl (gup σ14 0 7 (0 : Int32)) fun σ15 => gbi (F_Court_setsPlayed 1 σ15) fun r17 σ16 => some ((0 : Int32), (r17 + (1 : Int32)), σ16)))

set_option maxHeartbeats 4000000 in
set_option maxRecDepth 100000 in
theorem b_Game_begin_B34 {p : Program} {l : Launch} {e : Env} {s : State} {m : MethodId} {args : Array Value} {below : List Frame} {meth : Method} {c : Code} {D : va_G} {cI cJ : ClassId} {ad : Nat → Nat} {sz : Nat} {q : Int32 × Int32 × gSt} (C : gC p s m args meth c D cI cJ ad (gA ad sz) cX5_begin 2 RX5) (hr : meth.sig.returnType = (some .int)) (hnt : ∀ x ∈ c.exceptionTable.toList, False) (hl : l.stackTraces = false) (p1 : Int32) (σ : gSt) : gX (F_Game_begin_B34 p1 σ) q (gG p l e { frames := 7, cells := 1, slots := 6, locals := 102 } s m args below meth c D cI cJ ad (gA ad sz) 2 0 0 (vz_MQ below (gQi D cI cJ ad (gA ad sz) q) (gXC D cI cJ ad s.heap.size (gA ad sz) q) args s 1 6 (gA ad sz)) σ 34 [] []) := by
  unfold F_Game_begin_B34
  exact g_throw (text := "the orders are not as told") (names := ["java/lang/RuntimeException", "java/lang/Exception"]) C hl hnt (3) (by decide) (by decide) (by decide) (by decide) qw175 qw176 (by decide) qt2 dX5_begin_34 dX5_begin_37 dX5_begin_38 dX5_begin_40 dX5_begin_43 (Nat.le_of_ble_eq_true rfl) (Nat.le_of_ble_eq_true rfl) ⟨Nat.le_refl _, Nat.le_refl _⟩

set_option maxHeartbeats 4000000 in
set_option maxRecDepth 100000 in
theorem c_Game_begin (l : Launch) (hl : l.stackTraces = false) (D : va_G) (cI cJ : ClassId) (ad : Nat → Nat) (p1 : Int32) : gMxi l D cI cJ ad yX5_begin cX5_begin 2 (some .int) { frames := 7, cells := 1, slots := 6, locals := 102 } [.ref (ad 0), .int p1] (F_Game_begin p1) := by
  refine gStartXi (L0 := [(0, .ref (ad 0)), (1, .int p1)]) RX5 (by decide) rfl rfl (Nat.le_of_ble_eq_true rfl) ?_
  intro p e s m args below meth c sz σ q C hr hnt
  unfold F_Game_begin
  refine g_iload_n C 1 dX5_begin_0 rfl rfl ?_
  refine g_callsx (As := [.int p1]) (n := 1) C hnt (c_Game_checkTeam l hl D cI cJ ad p1) ⟨rfl, rfl⟩ qc41 (hR := ⟨Nat.le_of_ble_eq_true rfl, Nat.le_of_ble_eq_true rfl⟩) rfl rfl (Nat.le_of_ble_eq_true rfl) dX5_begin_1 ⟨Nat.le_refl _, Nat.le_refl _⟩ (fun σ1 => ?_)
  refine g_aload_n C 0 dX5_begin_4 rfl rfl ?_
  refine g_callvx (As := []) (n := 0) C hnt (c_Game_checkAheadOfSet l hl D cI cJ ad) ⟨rfl, rfl⟩ gcl5 rfl qc44 (hR := ⟨Nat.le_of_ble_eq_true rfl, Nat.le_of_ble_eq_true rfl⟩) rfl rfl (Nat.le_of_ble_eq_true rfl) dX5_begin_5 ⟨Nat.le_refl _, Nat.le_refl _⟩ (fun σ2 => ?_)
  refine g_aload_n C 0 dX5_begin_8 rfl rfl ?_
  refine g_getR (o' := 1) C 0 0 gcl5 rfl (by decide) rfl qw166 dX5_begin_9 ?_
  refine g_getRN (o' := 2) C 1 0 gcl0 rfl (by decide) rfl qn204 dX5_begin_12 ?_
  refine g_callvi (As := []) (n := 0) C (c_Side_isReady l hl D cI cJ ad 2 gs2) ⟨rfl, rfl⟩ gcl4 rfl qc49 (hR := ⟨Nat.le_of_ble_eq_true rfl, Nat.le_of_ble_eq_true rfl⟩) rfl rfl (Nat.le_of_ble_eq_true rfl) dX5_begin_15 ⟨Nat.zero_le _, Nat.zero_le _⟩ (fun r4 σ3 => ?_)
  refine g_if_eq (tgt := 34) C dX5_begin_18 (by decide) (fun h5 => ?_) (fun h5 => ?_)
  · refine g_loc [] rfl ?_
    exact b_Game_begin_B34 C hr hnt hl p1 σ3
  · refine g_aload_n C 0 dX5_begin_21 rfl rfl ?_
    refine g_getR (o' := 1) C 0 0 gcl5 rfl (by decide) rfl qw166 dX5_begin_22 ?_
    refine g_getRN (o' := 5) C 1 1 gcl0 rfl (by decide) rfl qn209 dX5_begin_25 ?_
    refine g_callvi (As := []) (n := 0) C (c_Side_isReady l hl D cI cJ ad 5 gs5) ⟨rfl, rfl⟩ gcl4 rfl qc49 (hR := ⟨Nat.le_of_ble_eq_true rfl, Nat.le_of_ble_eq_true rfl⟩) rfl rfl (Nat.le_of_ble_eq_true rfl) dX5_begin_28 ⟨Nat.zero_le _, Nat.zero_le _⟩ (fun r7 σ6 => ?_)
    refine g_if_ne (tgt := 44) C dX5_begin_31 (by decide) (fun h8 => ?_) (fun h8 => ?_)
    · refine g_loc [] rfl ?_
      exact b_Game_begin_B34 C hr hnt hl p1 σ6
    · refine g_aload_n C 0 dX5_begin_44 rfl rfl ?_
      refine g_getR (o' := 1) C 0 0 gcl5 rfl (by decide) rfl qw166 dX5_begin_45 ?_
      refine g_iload_n C 1 dX5_begin_48 rfl rfl ?_
      refine g_callvv (As := [.int p1]) (n := 1) C (c_Court_startSet l hl D cI cJ ad 1 p1 gc1) ⟨rfl, rfl⟩ gcl0 rfl qc50 (hR := ⟨Nat.le_of_ble_eq_true rfl, Nat.le_of_ble_eq_true rfl⟩) rfl rfl (Nat.le_of_ble_eq_true rfl) dX5_begin_49 ⟨Nat.zero_le _, Nat.zero_le _⟩ (fun σ9 => ?_)
      refine g_aload_n C 0 dX5_begin_52 rfl rfl ?_
      refine g_getR (o' := 16) C 0 3 gcl5 rfl (by decide) rfl qw199 dX5_begin_53 ?_
      refine g_iconst (v := (0 : Int32)) C dX5_begin_56 (by decide) ?_
      refine g_callvv (As := [.int (0 : Int32)]) (n := 1) C (c_Sheet_cutTo l hl D cI cJ ad (0 : Int32)) ⟨rfl, rfl⟩ gcl3 rfl qc51 (hR := ⟨Nat.le_of_ble_eq_true rfl, Nat.le_of_ble_eq_true rfl⟩) rfl rfl (Nat.le_of_ble_eq_true rfl) dX5_begin_57 ⟨Nat.zero_le _, Nat.zero_le _⟩ (fun σ10 => ?_)
      refine g_aload_n C 0 dX5_begin_60 rfl rfl ?_
      refine g_iconst (v := (0 : Int32)) C dX5_begin_61 (by decide) ?_
      refine g_callvv (As := [.int (0 : Int32)]) (n := 1) C (c_Game_writeOrder l hl D cI cJ ad (0 : Int32)) ⟨rfl, rfl⟩ gcl5 rfl qc52 (hR := ⟨Nat.le_of_ble_eq_true rfl, Nat.le_of_ble_eq_true rfl⟩) rfl rfl (Nat.le_of_ble_eq_true rfl) dX5_begin_62 ⟨Nat.zero_le _, Nat.zero_le _⟩ (fun σ11 => ?_)
      refine g_aload_n C 0 dX5_begin_65 rfl rfl ?_
      refine g_iconst (v := (1 : Int32)) C dX5_begin_66 (by decide) ?_
      refine g_callvv (As := [.int (1 : Int32)]) (n := 1) C (c_Game_writeOrder l hl D cI cJ ad (1 : Int32)) ⟨rfl, rfl⟩ gcl5 rfl qc52 (hR := ⟨Nat.le_of_ble_eq_true rfl, Nat.le_of_ble_eq_true rfl⟩) rfl rfl (Nat.le_of_ble_eq_true rfl) dX5_begin_67 ⟨Nat.zero_le _, Nat.zero_le _⟩ (fun σ12 => ?_)
      refine g_aload_n C 0 dX5_begin_70 rfl rfl ?_
      refine g_getR (o' := 16) C 0 3 gcl5 rfl (by decide) rfl qw199 dX5_begin_71 ?_
      refine g_iconst (v := (2 : Int32)) C dX5_begin_74 (by decide) ?_
      refine g_iload_n C 1 dX5_begin_75 rfl rfl ?_
      refine g_iconst (v := (0 : Int32)) C dX5_begin_76 (by decide) ?_
      refine g_iconst (v := (0 : Int32)) C dX5_begin_77 (by decide) ?_
      refine g_callvv (As := [.int (2 : Int32), .int p1, .int (0 : Int32), .int (0 : Int32)]) (n := 4) C (c_Sheet_write l hl D cI cJ ad (2 : Int32) p1 (0 : Int32) (0 : Int32)) ⟨rfl, rfl⟩ gcl3 rfl qc48 (hR := ⟨Nat.le_of_ble_eq_true rfl, Nat.le_of_ble_eq_true rfl⟩) rfl rfl (Nat.le_of_ble_eq_true rfl) dX5_begin_78 ⟨Nat.zero_le _, Nat.zero_le _⟩ (fun σ13 => ?_)
      refine g_aload_n C 0 dX5_begin_81 rfl rfl ?_
      refine g_iconst (v := (-1 : Int32)) C dX5_begin_82 (by decide) ?_
      refine g_putI C 0 6 gcl5 gft5 rfl (by decide) rfl rfl rfl qw197 dX5_begin_83 (fun σ14 => ?_)
      refine g_aload_n C 0 dX5_begin_86 rfl rfl ?_
      refine g_iconst (v := (0 : Int32)) C dX5_begin_87 (by decide) ?_
      refine g_putI C 0 7 gcl5 gft5 rfl (by decide) rfl rfl rfl qw219 dX5_begin_88 (fun σ15 => ?_)
      refine g_aload_n C 0 dX5_begin_91 rfl rfl ?_
      refine g_getR (o' := 1) C 0 0 gcl5 rfl (by decide) rfl qw166 dX5_begin_92 ?_
      refine g_callvi (As := []) (n := 0) C (c_Court_setsPlayed l hl D cI cJ ad 1 gc1) ⟨rfl, rfl⟩ gcl0 rfl qc53 (hR := ⟨Nat.le_of_ble_eq_true rfl, Nat.le_of_ble_eq_true rfl⟩) rfl rfl (Nat.le_of_ble_eq_true rfl) dX5_begin_95 ⟨Nat.zero_le _, Nat.zero_le _⟩ (fun r17 σ16 => ?_)
      refine g_iconst (v := (1 : Int32)) C dX5_begin_98 (by decide) ?_
      refine g_iadd C dX5_begin_99 ?_
      exact g_xireti C hr dX5_begin_100

def F_Game_checkBetweenRallies_B20  (σ : gSt) : Option (Int32 × Int32 × gSt) := some ((3 : Int32), (0 : Int32), σ)

def F_Game_checkBetweenRallies  (σ : gSt) : Option (Int32 × Int32 × gSt) := gbi (F_Court_isSetOn 1 σ) fun r2 σ1 => if r2 = (0 : Int32) then (F_Game_checkBetweenRallies_B20 σ1) else (if (σ1 15 0) = (0 : Int32) then (some ((0 : Int32), (0 : Int32), σ1)) else (F_Game_checkBetweenRallies_B20 σ1))

set_option maxHeartbeats 4000000 in
set_option maxRecDepth 100000 in
theorem b_Game_checkBetweenRallies_B20 {p : Program} {l : Launch} {e : Env} {s : State} {m : MethodId} {args : Array Value} {below : List Frame} {meth : Method} {c : Code} {D : va_G} {cI cJ : ClassId} {ad : Nat → Nat} {sz : Nat} {q : Int32 × Int32 × gSt} (C : gC p s m args meth c D cI cJ ad (gA ad sz) cX5_checkBetweenRallies 1 RX5) (hr : meth.sig.returnType = none) (hnt : ∀ x ∈ c.exceptionTable.toList, False) (hl : l.stackTraces = false) (σ : gSt) : gX (F_Game_checkBetweenRallies_B20 σ) q (gG p l e { frames := 6, cells := 1, slots := 6, locals := 82 } s m args below meth c D cI cJ ad (gA ad sz) 1 0 0 (vz_MQ below (gQv D cI cJ ad (gA ad sz) q) (gXC D cI cJ ad s.heap.size (gA ad sz) q) args s 1 6 (gA ad sz)) σ 20 [] []) := by
  unfold F_Game_checkBetweenRallies_B20
  exact g_throw (text := "no set goes on, or a rally goes on") (names := ["java/lang/RuntimeException", "java/lang/Exception"]) C hl hnt (3) (by decide) (by decide) (by decide) (by decide) qw175 qw176 (by decide) qt2 dX5_checkBetweenRallies_20 dX5_checkBetweenRallies_23 dX5_checkBetweenRallies_24 dX5_checkBetweenRallies_26 dX5_checkBetweenRallies_29 (Nat.le_of_ble_eq_true rfl) (Nat.le_of_ble_eq_true rfl) ⟨Nat.le_refl _, Nat.le_refl _⟩

set_option maxHeartbeats 4000000 in
set_option maxRecDepth 100000 in
theorem c_Game_checkBetweenRallies (l : Launch) (hl : l.stackTraces = false) (D : va_G) (cI cJ : ClassId) (ad : Nat → Nat) : gMxv l D cI cJ ad yX5_checkBetweenRallies cX5_checkBetweenRallies 1 none { frames := 6, cells := 1, slots := 6, locals := 82 } [.ref (ad 0)] (F_Game_checkBetweenRallies) := by
  refine gStartXv (L0 := [(0, .ref (ad 0))]) RX5 (by decide) rfl rfl (Nat.le_of_ble_eq_true rfl) ?_
  intro p e s m args below meth c sz σ q C hr hnt
  unfold F_Game_checkBetweenRallies
  refine g_aload_n C 0 dX5_checkBetweenRallies_0 rfl rfl ?_
  refine g_getR (o' := 1) C 0 0 gcl5 rfl (by decide) rfl qw166 dX5_checkBetweenRallies_1 ?_
  refine g_callvi (As := []) (n := 0) C (c_Court_isSetOn l hl D cI cJ ad 1 gc1) ⟨rfl, rfl⟩ gcl0 rfl qc39 (hR := ⟨Nat.le_of_ble_eq_true rfl, Nat.le_of_ble_eq_true rfl⟩) rfl rfl (Nat.le_of_ble_eq_true rfl) dX5_checkBetweenRallies_4 ⟨Nat.zero_le _, Nat.zero_le _⟩ (fun r2 σ1 => ?_)
  refine g_if_eq (tgt := 20) C dX5_checkBetweenRallies_7 (by decide) (fun h3 => ?_) (fun h3 => ?_)
  · refine g_loc [] rfl ?_
    exact b_Game_checkBetweenRallies_B20 C hr hnt hl σ1
  · refine g_aload_n C 0 dX5_checkBetweenRallies_10 rfl rfl ?_
    refine g_getR (o' := 15) C 0 2 gcl5 rfl (by decide) rfl qw221 dX5_checkBetweenRallies_11 ?_
    refine g_getIN C 15 0 gcl1 rfl (by decide) rfl qn222 dX5_checkBetweenRallies_14 ?_
    refine g_if_eq (tgt := 30) C dX5_checkBetweenRallies_17 (by decide) (fun h4 => ?_) (fun h4 => ?_)
    · exact g_xretv C hr dX5_checkBetweenRallies_30
    · refine g_loc [] rfl ?_
      exact b_Game_checkBetweenRallies_B20 C hr hnt hl σ1

def F_Game_serve (p1 : Int32) (σ : gSt) : Option (Int32 × Int32 × gSt) := gbx (F_Game_checkShirt p1 σ) fun σ1 => gbx (F_Game_checkBetweenRallies σ1) fun σ2 => gl (σ2 1 2) fun x3 => gbr (F_Court_sideOf 1 x3 σ2) fun o5 σ4 => gbi (F_Side_placeOf o5 p1 σ4) fun r8 σ7 => if r8 = (-1 : Int32) then (some ((3 : Int32), (0 : Int32), σ7)) else (gbv (F_Sheet_write (3 : Int32) x3 p1 (0 : Int32) σ7) fun σ10 => gbv (F_Rally_start x3 p1 σ10) fun σ11 => gl (gup σ11 0 6 (-1 : Int32)) fun σ12 => gbi (F_Court_takeService 1 p1 σ12) fun r14 σ13 => if r14 = 0 ∨ r14 = 1 then some ((0 : Int32), r14, σ13) else none)

set_option maxHeartbeats 4000000 in
set_option maxRecDepth 100000 in
theorem c_Game_serve (l : Launch) (hl : l.stackTraces = false) (D : va_G) (cI cJ : ClassId) (ad : Nat → Nat) (p1 : Int32) : gMxi l D cI cJ ad yX5_serve cX5_serve 3 (some .boolean) { frames := 7, cells := 1, slots := 6, locals := 102 } [.ref (ad 0), .int p1] (F_Game_serve p1) := by
  refine gStartXi (L0 := [(0, .ref (ad 0)), (1, .int p1)]) RX5 (by decide) rfl rfl (Nat.le_of_ble_eq_true rfl) ?_
  intro p e s m args below meth c sz σ q C hr hnt
  unfold F_Game_serve
  refine g_iload_n C 1 dX5_serve_0 rfl rfl ?_
  refine g_callsx (As := [.int p1]) (n := 1) C hnt (c_Game_checkShirt l hl D cI cJ ad p1) ⟨rfl, rfl⟩ qc43 (hR := ⟨Nat.le_of_ble_eq_true rfl, Nat.le_of_ble_eq_true rfl⟩) rfl rfl (Nat.le_of_ble_eq_true rfl) dX5_serve_1 ⟨Nat.le_refl _, Nat.le_refl _⟩ (fun σ1 => ?_)
  refine g_aload_n C 0 dX5_serve_4 rfl rfl ?_
  refine g_callvx (As := []) (n := 0) C hnt (c_Game_checkBetweenRallies l hl D cI cJ ad) ⟨rfl, rfl⟩ gcl5 rfl qc54 (hR := ⟨Nat.le_of_ble_eq_true rfl, Nat.le_of_ble_eq_true rfl⟩) rfl rfl (Nat.le_of_ble_eq_true rfl) dX5_serve_5 ⟨Nat.le_refl _, Nat.le_refl _⟩ (fun σ2 => ?_)
  refine g_aload_n C 0 dX5_serve_8 rfl rfl ?_
  refine g_getR (o' := 1) C 0 0 gcl5 rfl (by decide) rfl qw166 dX5_serve_9 ?_
  refine g_getIN C 1 2 gcl0 rfl (by decide) rfl qn227 dX5_serve_12 ?_
  refine g_name ?_; intro x3
  refine g_istore_n (L' := [(2, .int x3), (0, .ref (ad 0)), (1, .int p1)]) C dX5_serve_15 rfl (by decide) rfl ?_
  refine g_aload_n C 1 dX5_serve_16 rfl rfl ?_
  refine g_getR (o' := 1) C 0 0 gcl5 rfl (by decide) rfl qw166 dX5_serve_17 ?_
  refine g_iload_n C 0 dX5_serve_20 rfl rfl ?_
  refine g_callvr (As := [.int x3]) (n := 1) C (c_Court_sideOf l hl D cI cJ ad 1 x3 gc1) ⟨rfl, rfl⟩ gcl0 rfl qc45 (hR := ⟨Nat.le_of_ble_eq_true rfl, Nat.le_of_ble_eq_true rfl⟩) rfl rfl (Nat.le_of_ble_eq_true rfl) dX5_serve_21 ⟨Nat.zero_le _, Nat.zero_le _⟩ (fun o5 σ4 h6 => ?_)
  refine g_iload_n C 2 dX5_serve_24 rfl rfl ?_
  refine g_callvi (As := [.int p1]) (n := 1) C (c_Side_placeOf l hl D cI cJ ad o5 p1 (gOf_side gc1 h6)) ⟨rfl, rfl⟩ gcl4 (gSd (gOf_side gc1 h6)).1 qc55 (hR := ⟨Nat.le_of_ble_eq_true rfl, Nat.le_of_ble_eq_true rfl⟩) rfl rfl (Nat.le_of_ble_eq_true rfl) dX5_serve_25 ⟨Nat.zero_le _, Nat.zero_le _⟩ (fun r8 σ7 => ?_)
  refine g_iconst (v := (-1 : Int32)) C dX5_serve_28 (by decide) ?_
  refine g_icmp_ne (tgt := 42) C dX5_serve_29 (by decide) (fun h9 => ?_) (fun h9 => ?_)
  · exact g_throw (text := "the shirt is not on the court") (names := ["java/lang/RuntimeException", "java/lang/Exception"]) C hl hnt (3) (by decide) (by decide) (by decide) (by decide) qw175 qw176 (by decide) qt2 dX5_serve_32 dX5_serve_35 dX5_serve_36 dX5_serve_38 dX5_serve_41 (Nat.le_of_ble_eq_true rfl) (Nat.le_of_ble_eq_true rfl) ⟨Nat.le_refl _, Nat.le_refl _⟩
  · refine g_aload_n C 1 dX5_serve_42 rfl rfl ?_
    refine g_getR (o' := 16) C 0 3 gcl5 rfl (by decide) rfl qw199 dX5_serve_43 ?_
    refine g_iconst (v := (3 : Int32)) C dX5_serve_46 (by decide) ?_
    refine g_iload_n C 0 dX5_serve_47 rfl rfl ?_
    refine g_iload_n C 2 dX5_serve_48 rfl rfl ?_
    refine g_iconst (v := (0 : Int32)) C dX5_serve_49 (by decide) ?_
    refine g_callvv (As := [.int (3 : Int32), .int x3, .int p1, .int (0 : Int32)]) (n := 4) C (c_Sheet_write l hl D cI cJ ad (3 : Int32) x3 p1 (0 : Int32)) ⟨rfl, rfl⟩ gcl3 rfl qc48 (hR := ⟨Nat.le_of_ble_eq_true rfl, Nat.le_of_ble_eq_true rfl⟩) rfl rfl (Nat.le_of_ble_eq_true rfl) dX5_serve_50 ⟨Nat.zero_le _, Nat.zero_le _⟩ (fun σ10 => ?_)
    refine g_aload_n C 1 dX5_serve_53 rfl rfl ?_
    refine g_getR (o' := 15) C 0 2 gcl5 rfl (by decide) rfl qw221 dX5_serve_54 ?_
    refine g_iload_n C 0 dX5_serve_57 rfl rfl ?_
    refine g_iload_n C 2 dX5_serve_58 rfl rfl ?_
    refine g_callvv (As := [.int x3, .int p1]) (n := 2) C (c_Rally_start l hl D cI cJ ad x3 p1) ⟨rfl, rfl⟩ gcl1 rfl qc56 (hR := ⟨Nat.le_of_ble_eq_true rfl, Nat.le_of_ble_eq_true rfl⟩) rfl rfl (Nat.le_of_ble_eq_true rfl) dX5_serve_59 ⟨Nat.zero_le _, Nat.zero_le _⟩ (fun σ11 => ?_)
    refine g_aload_n C 1 dX5_serve_62 rfl rfl ?_
    refine g_iconst (v := (-1 : Int32)) C dX5_serve_63 (by decide) ?_
    refine g_putI C 0 6 gcl5 gft5 rfl (by decide) rfl rfl rfl qw197 dX5_serve_64 (fun σ12 => ?_)
    refine g_aload_n C 1 dX5_serve_67 rfl rfl ?_
    refine g_getR (o' := 1) C 0 0 gcl5 rfl (by decide) rfl qw166 dX5_serve_68 ?_
    refine g_iload_n C 2 dX5_serve_71 rfl rfl ?_
    refine g_callvi (As := [.int p1]) (n := 1) C (c_Court_takeService l hl D cI cJ ad 1 p1 gc1) ⟨rfl, rfl⟩ gcl0 rfl qc57 (hR := ⟨Nat.le_of_ble_eq_true rfl, Nat.le_of_ble_eq_true rfl⟩) rfl rfl (Nat.le_of_ble_eq_true rfl) dX5_serve_72 ⟨Nat.zero_le _, Nat.zero_le _⟩ (fun r14 σ13 => ?_)
    refine gX_z (fun z15 => ?_)
    exact g_xiretz C z15 hr dX5_serve_75

def F_Game_checkRally  (σ : gSt) : Option (Int32 × Int32 × gSt) := if (σ 15 0) = (0 : Int32) then (some ((3 : Int32), (0 : Int32), σ)) else (some ((0 : Int32), (0 : Int32), σ))

set_option maxHeartbeats 4000000 in
set_option maxRecDepth 100000 in
theorem c_Game_checkRally (l : Launch) (hl : l.stackTraces = false) (D : va_G) (cI cJ : ClassId) (ad : Nat → Nat) : gMxv l D cI cJ ad yX5_checkRally cX5_checkRally 1 none { frames := 6, cells := 1, slots := 6, locals := 82 } [.ref (ad 0)] (F_Game_checkRally) := by
  refine gStartXv (L0 := [(0, .ref (ad 0))]) RX5 (by decide) rfl rfl (Nat.le_of_ble_eq_true rfl) ?_
  intro p e s m args below meth c sz σ q C hr hnt
  unfold F_Game_checkRally
  refine g_aload_n C 0 dX5_checkRally_0 rfl rfl ?_
  refine g_getR (o' := 15) C 0 2 gcl5 rfl (by decide) rfl qw221 dX5_checkRally_1 ?_
  refine g_getIN C 15 0 gcl1 rfl (by decide) rfl qn222 dX5_checkRally_4 ?_
  refine g_if_ne (tgt := 20) C dX5_checkRally_7 (by decide) (fun h1 => ?_) (fun h1 => ?_)
  · exact g_throw (text := "no rally goes on") (names := ["java/lang/RuntimeException", "java/lang/Exception"]) C hl hnt (3) (by decide) (by decide) (by decide) (by decide) qw175 qw176 (by decide) qt2 dX5_checkRally_10 dX5_checkRally_13 dX5_checkRally_14 dX5_checkRally_16 dX5_checkRally_19 (Nat.le_of_ble_eq_true rfl) (Nat.le_of_ble_eq_true rfl) ⟨Nat.le_refl _, Nat.le_refl _⟩
  · exact g_xretv C hr dX5_checkRally_20

def F_Game_endSetIfWonBy (p1 : Int32) (σ : gSt) : Option gSt := gbi (F_Court_hasWonSet 1 p1 σ) fun r2 σ1 => if r2 = (0 : Int32) then (some σ1) else (gbv (F_Court_endSet 1 p1 σ1) fun σ4 => some σ4)

set_option maxHeartbeats 4000000 in
set_option maxRecDepth 100000 in
theorem c_Game_endSetIfWonBy (l : Launch) (hl : l.stackTraces = false) (D : va_G) (cI cJ : ClassId) (ad : Nat → Nat) (p1 : Int32) : gMv l D cI cJ ad yX5_endSetIfWonBy cX5_endSetIfWonBy 2 none { frames := 4, cells := 0, slots := 0, locals := 86 } [.ref (ad 0), .int p1] (F_Game_endSetIfWonBy p1) := by
  refine gStartV (L0 := [(0, .ref (ad 0)), (1, .int p1)]) RX5 (by decide) rfl rfl (Nat.le_of_ble_eq_true rfl) ?_
  intro p e s m args below meth c sz σ σ' C hr
  unfold F_Game_endSetIfWonBy
  refine g_aload_n C 0 dX5_endSetIfWonBy_0 rfl rfl ?_
  refine g_getR (o' := 1) C 0 0 gcl5 rfl (by decide) rfl qw166 dX5_endSetIfWonBy_1 ?_
  refine g_iload_n C 1 dX5_endSetIfWonBy_4 rfl rfl ?_
  refine g_callvi (As := [.int p1]) (n := 1) C (c_Court_hasWonSet l hl D cI cJ ad 1 p1 gc1) ⟨rfl, rfl⟩ gcl0 rfl qc58 (hR := ⟨Nat.le_of_ble_eq_true rfl, Nat.le_of_ble_eq_true rfl⟩) rfl rfl (Nat.le_of_ble_eq_true rfl) dX5_endSetIfWonBy_5 ⟨Nat.zero_le _, Nat.zero_le _⟩ (fun r2 σ1 => ?_)
  refine g_if_eq (tgt := 19) C dX5_endSetIfWonBy_8 (by decide) (fun h3 => ?_) (fun h3 => ?_)
  · exact g_retv C hr dX5_endSetIfWonBy_19
  · refine g_aload_n C 0 dX5_endSetIfWonBy_11 rfl rfl ?_
    refine g_getR (o' := 1) C 0 0 gcl5 rfl (by decide) rfl qw166 dX5_endSetIfWonBy_12 ?_
    refine g_iload_n C 1 dX5_endSetIfWonBy_15 rfl rfl ?_
    refine g_callvv (As := [.int p1]) (n := 1) C (c_Court_endSet l hl D cI cJ ad 1 p1 gc1) ⟨rfl, rfl⟩ gcl0 rfl qc59 (hR := ⟨Nat.le_of_ble_eq_true rfl, Nat.le_of_ble_eq_true rfl⟩) rfl rfl (Nat.le_of_ble_eq_true rfl) dX5_endSetIfWonBy_16 ⟨Nat.zero_le _, Nat.zero_le _⟩ (fun σ4 => ?_)
    exact g_retv C hr dX5_endSetIfWonBy_19

def F_Game_endRally (p1 : Int32) (p2 : Int32) (σ : gSt) : Option gSt := gbv (F_Court_copyFrom 8 1 σ) fun σ1 => gl (gup σ1 0 5 (σ1 16 1)) fun σ2 => gl (gup σ2 15 0 (0 : Int32)) fun σ3 => gbv (F_Sheet_write (4 : Int32) p1 (0 : Int32) (0 : Int32) σ3) fun σ4 => gbv (F_Court_givePoint 1 p1 σ4) fun σ5 => gbv (F_Game_endSetIfWonBy p1 σ5) fun σ6 => gl (gup σ6 0 6 ((1 : Int32) - p1)) fun σ7 => gl (gup σ7 0 7 p2) fun σ8 => some σ8

set_option maxHeartbeats 4000000 in
set_option maxRecDepth 100000 in
theorem c_Game_endRally (l : Launch) (hl : l.stackTraces = false) (D : va_G) (cI cJ : ClassId) (ad : Nat → Nat) (p1 : Int32) (p2 : Int32) : gMv l D cI cJ ad yX5_endRally cX5_endRally 3 none { frames := 5, cells := 0, slots := 0, locals := 107 } [.ref (ad 0), .int p1, .int p2] (F_Game_endRally p1 p2) := by
  refine gStartV (L0 := [(0, .ref (ad 0)), (1, .int p1), (2, .int p2)]) RX5 (by decide) rfl rfl (Nat.le_of_ble_eq_true rfl) ?_
  intro p e s m args below meth c sz σ σ' C hr
  unfold F_Game_endRally
  refine g_aload_n C 0 dX5_endRally_0 rfl rfl ?_
  refine g_getR (o' := 8) C 0 1 gcl5 rfl (by decide) rfl qw243 dX5_endRally_1 ?_
  refine g_aload_n C 0 dX5_endRally_4 rfl rfl ?_
  refine g_getR (o' := 1) C 0 0 gcl5 rfl (by decide) rfl qw166 dX5_endRally_5 ?_
  refine g_callvv (As := [.ref (ad 1)]) (n := 1) C (c_Court_copyFrom l hl D cI cJ ad 8 1 gc8 gc1) ⟨rfl, rfl⟩ gcl0 rfl qc60 (hR := ⟨Nat.le_of_ble_eq_true rfl, Nat.le_of_ble_eq_true rfl⟩) rfl rfl (Nat.le_of_ble_eq_true rfl) dX5_endRally_8 ⟨Nat.zero_le _, Nat.zero_le _⟩ (fun σ1 => ?_)
  refine g_aload_n C 0 dX5_endRally_11 rfl rfl ?_
  refine g_aload_n C 0 dX5_endRally_12 rfl rfl ?_
  refine g_getR (o' := 16) C 0 3 gcl5 rfl (by decide) rfl qw199 dX5_endRally_13 ?_
  refine g_getIN C 16 1 gcl3 rfl (by decide) rfl qn248 dX5_endRally_16 ?_
  refine g_putI C 0 5 gcl5 gft5 rfl (by decide) rfl rfl rfl qw249 dX5_endRally_19 (fun σ2 => ?_)
  refine g_aload_n C 0 dX5_endRally_22 rfl rfl ?_
  refine g_getR (o' := 15) C 0 2 gcl5 rfl (by decide) rfl qw221 dX5_endRally_23 ?_
  refine g_iconst (v := (0 : Int32)) C dX5_endRally_26 (by decide) ?_
  refine g_putZN C 15 0 (by decide) gcl1 gft1 rfl (by decide) rfl rfl rfl qn222 dX5_endRally_27 (fun σ3 => ?_)
  refine g_aload_n C 0 dX5_endRally_30 rfl rfl ?_
  refine g_getR (o' := 16) C 0 3 gcl5 rfl (by decide) rfl qw199 dX5_endRally_31 ?_
  refine g_iconst (v := (4 : Int32)) C dX5_endRally_34 (by decide) ?_
  refine g_iload_n C 1 dX5_endRally_35 rfl rfl ?_
  refine g_iconst (v := (0 : Int32)) C dX5_endRally_36 (by decide) ?_
  refine g_iconst (v := (0 : Int32)) C dX5_endRally_37 (by decide) ?_
  refine g_callvv (As := [.int (4 : Int32), .int p1, .int (0 : Int32), .int (0 : Int32)]) (n := 4) C (c_Sheet_write l hl D cI cJ ad (4 : Int32) p1 (0 : Int32) (0 : Int32)) ⟨rfl, rfl⟩ gcl3 rfl qc48 (hR := ⟨Nat.le_of_ble_eq_true rfl, Nat.le_of_ble_eq_true rfl⟩) rfl rfl (Nat.le_of_ble_eq_true rfl) dX5_endRally_38 ⟨Nat.zero_le _, Nat.zero_le _⟩ (fun σ4 => ?_)
  refine g_aload_n C 0 dX5_endRally_41 rfl rfl ?_
  refine g_getR (o' := 1) C 0 0 gcl5 rfl (by decide) rfl qw166 dX5_endRally_42 ?_
  refine g_iload_n C 1 dX5_endRally_45 rfl rfl ?_
  refine g_callvv (As := [.int p1]) (n := 1) C (c_Court_givePoint l hl D cI cJ ad 1 p1 gc1) ⟨rfl, rfl⟩ gcl0 rfl qc61 (hR := ⟨Nat.le_of_ble_eq_true rfl, Nat.le_of_ble_eq_true rfl⟩) rfl rfl (Nat.le_of_ble_eq_true rfl) dX5_endRally_46 ⟨Nat.zero_le _, Nat.zero_le _⟩ (fun σ5 => ?_)
  refine g_aload_n C 0 dX5_endRally_49 rfl rfl ?_
  refine g_iload_n C 1 dX5_endRally_50 rfl rfl ?_
  refine g_callvv (As := [.int p1]) (n := 1) C (c_Game_endSetIfWonBy l hl D cI cJ ad p1) ⟨rfl, rfl⟩ gcl5 rfl qc62 (hR := ⟨Nat.le_of_ble_eq_true rfl, Nat.le_of_ble_eq_true rfl⟩) rfl rfl (Nat.le_of_ble_eq_true rfl) dX5_endRally_51 ⟨Nat.zero_le _, Nat.zero_le _⟩ (fun σ6 => ?_)
  refine g_aload_n C 0 dX5_endRally_54 rfl rfl ?_
  refine g_iconst (v := (1 : Int32)) C dX5_endRally_55 (by decide) ?_
  refine g_iload_n C 1 dX5_endRally_56 rfl rfl ?_
  refine g_isub C dX5_endRally_57 ?_
  refine g_putI C 0 6 gcl5 gft5 rfl (by decide) rfl rfl rfl qw197 dX5_endRally_58 (fun σ7 => ?_)
  refine g_aload_n C 0 dX5_endRally_61 rfl rfl ?_
  refine g_iload_n C 2 dX5_endRally_62 rfl rfl ?_
  refine g_putI C 0 7 gcl5 gft5 rfl (by decide) rfl rfl rfl qw219 dX5_endRally_63 (fun σ8 => ?_)
  exact g_retv C hr dX5_endRally_66

def F_Game_touch_B17 (p1 : Int32) (p2 : Int32) (p3 : Int32) (p4 : Int32) (σ : gSt) : Option (Int32 × Int32 × gSt) := some ((2 : Int32), (0 : Int32), σ)

def F_Game_touch_B89 (p1 : Int32) (p2 : Int32) (p3 : Int32) (p4 : Int32) (l1 : Int32) (l2 : Int32) (l3 : Int32) (l6 : Int32) (σ : gSt) : Option (Int32 × Int32 × gSt) := if l6 = (0 : Int32) then (gbv (F_Rally_note l1 l2 l3 σ) fun σ2 => some ((0 : Int32), l6, σ2)) else (gbv (F_Game_endRally ((1 : Int32) - l1) l6 σ) fun σ3 => some ((0 : Int32), l6, σ3))

def F_Game_touch (p1 : Int32) (p2 : Int32) (p3 : Int32) (p4 : Int32) (σ : gSt) : Option (Int32 × Int32 × gSt) := gbx (F_Game_checkTeam p1 σ) fun σ1 => gbx (F_Game_checkShirt p2 σ1) fun σ2 => if p3 < (0 : Int32) then (F_Game_touch_B17 p1 p2 p3 p4 σ2) else (if p3 ≤ (2 : Int32) then (gbx (F_Game_checkRally σ2) fun σ5 => gbr (F_Court_sideOf 1 p1 σ5) fun o7 σ6 => gbi (F_Side_placeOf o7 p2 σ6) fun r10 σ9 => if r10 = (-1 : Int32) then (some ((3 : Int32), (0 : Int32), σ9)) else (gbi (F_Rally_faultOf p1 p2 p3 σ9) fun r13 σ12 => if r13 = (0 : Int32) then (gbi (F_Side_faultOf o7 p2 p3 p4 σ12) fun r16 σ15 => F_Game_touch_B89 p1 p2 p3 p4 p1 p2 p3 r16 σ15) else (F_Game_touch_B89 p1 p2 p3 p4 p1 p2 p3 r13 σ12))) else (F_Game_touch_B17 p1 p2 p3 p4 σ2))

set_option maxHeartbeats 4000000 in
set_option maxRecDepth 100000 in
theorem b_Game_touch_B17 {p : Program} {l : Launch} {e : Env} {s : State} {m : MethodId} {args : Array Value} {below : List Frame} {meth : Method} {c : Code} {D : va_G} {cI cJ : ClassId} {ad : Nat → Nat} {sz : Nat} {q : Int32 × Int32 × gSt} (C : gC p s m args meth c D cI cJ ad (gA ad sz) cX5_touch 7 RX5) (hr : meth.sig.returnType = (some .int)) (hnt : ∀ x ∈ c.exceptionTable.toList, False) (hl : l.stackTraces = false) (p1 : Int32) (p2 : Int32) (p3 : Int32) (p4 : Int32) (σ : gSt) : gX (F_Game_touch_B17 p1 p2 p3 p4 σ) q (gG p l e { frames := 7, cells := 1, slots := 6, locals := 129 } s m args below meth c D cI cJ ad (gA ad sz) 7 0 0 (vz_MQ below (gQi D cI cJ ad (gA ad sz) q) (gXC D cI cJ ad s.heap.size (gA ad sz) q) args s 1 6 (gA ad sz)) σ 17 [] []) := by
  unfold F_Game_touch_B17
  exact g_throw (text := "no such touch") (names := ["java/lang/RuntimeException", "java/lang/Exception"]) C hl hnt (2) (by decide) (by decide) (by decide) (by decide) qw255 qw256 (by decide) qt3 dX5_touch_17 dX5_touch_20 dX5_touch_21 dX5_touch_23 dX5_touch_26 (Nat.le_of_ble_eq_true rfl) (Nat.le_of_ble_eq_true rfl) ⟨Nat.le_refl _, Nat.le_refl _⟩

set_option maxHeartbeats 4000000 in
set_option maxRecDepth 100000 in
theorem b_Game_touch_B89 {p : Program} {l : Launch} {e : Env} {s : State} {m : MethodId} {args : Array Value} {below : List Frame} {meth : Method} {c : Code} {D : va_G} {cI cJ : ClassId} {ad : Nat → Nat} {sz : Nat} {q : Int32 × Int32 × gSt} (C : gC p s m args meth c D cI cJ ad (gA ad sz) cX5_touch 7 RX5) (hr : meth.sig.returnType = (some .int)) (hnt : ∀ x ∈ c.exceptionTable.toList, False) (hl : l.stackTraces = false) (p1 : Int32) (p2 : Int32) (p3 : Int32) (p4 : Int32) (l1 : Int32) (l2 : Int32) (l3 : Int32) (l6 : Int32) (σ : gSt) : gX (F_Game_touch_B89 p1 p2 p3 p4 l1 l2 l3 l6 σ) q (gG p l e { frames := 7, cells := 1, slots := 6, locals := 129 } s m args below meth c D cI cJ ad (gA ad sz) 7 0 0 (vz_MQ below (gQi D cI cJ ad (gA ad sz) q) (gXC D cI cJ ad s.heap.size (gA ad sz) q) args s 1 6 (gA ad sz)) σ 89 [(0, .ref (ad 0)), (1, .int l1), (2, .int l2), (3, .int l3), (6, .int l6)] []) := by
  unfold F_Game_touch_B89
  refine g_iload C 4 dX5_touch_89 rfl ?_
  refine g_if_ne (tgt := 107) C dX5_touch_91 (by decide) (fun h1 => ?_) (fun h1 => ?_)
  · refine g_aload_n C 0 dX5_touch_94 rfl rfl ?_
    refine g_getR (o' := 15) C 0 2 gcl5 rfl (by decide) rfl qw221 dX5_touch_95 ?_
    refine g_iload_n C 1 dX5_touch_98 rfl rfl ?_
    refine g_iload_n C 2 dX5_touch_99 rfl rfl ?_
    refine g_iload_n C 3 dX5_touch_100 rfl rfl ?_
    refine g_callvv (As := [.int l1, .int l2, .int l3]) (n := 3) C (c_Rally_note l hl D cI cJ ad l1 l2 l3) ⟨rfl, rfl⟩ gcl1 rfl qc66 (hR := ⟨Nat.le_of_ble_eq_true rfl, Nat.le_of_ble_eq_true rfl⟩) rfl rfl (Nat.le_of_ble_eq_true rfl) dX5_touch_101 ⟨Nat.zero_le _, Nat.zero_le _⟩ (fun σ2 => ?_)
    refine g_goto (tgt := 116) C dX5_touch_104 (by decide) ?_
    refine g_iload C 4 dX5_touch_116 rfl ?_
    exact g_xireti C hr dX5_touch_118
  · refine g_aload_n C 0 dX5_touch_107 rfl rfl ?_
    refine g_iconst (v := (1 : Int32)) C dX5_touch_108 (by decide) ?_
    refine g_iload_n C 1 dX5_touch_109 rfl rfl ?_
    refine g_isub C dX5_touch_110 ?_
    refine g_iload C 4 dX5_touch_111 rfl ?_
    refine g_callvv (As := [.int ((1 : Int32) - l1), .int l6]) (n := 2) C (c_Game_endRally l hl D cI cJ ad ((1 : Int32) - l1) l6) ⟨rfl, rfl⟩ gcl5 rfl qc67 (hR := ⟨Nat.le_of_ble_eq_true rfl, Nat.le_of_ble_eq_true rfl⟩) rfl rfl (Nat.le_of_ble_eq_true rfl) dX5_touch_113 ⟨Nat.zero_le _, Nat.zero_le _⟩ (fun σ3 => ?_)
    refine g_iload C 4 dX5_touch_116 rfl ?_
    exact g_xireti C hr dX5_touch_118

set_option maxHeartbeats 4000000 in
set_option maxRecDepth 100000 in
theorem c_Game_touch (l : Launch) (hl : l.stackTraces = false) (D : va_G) (cI cJ : ClassId) (ad : Nat → Nat) (p1 : Int32) (p2 : Int32) (p3 : Int32) (p4 : Int32) : gMxi l D cI cJ ad yX5_touch cX5_touch 7 (some .int) { frames := 7, cells := 1, slots := 6, locals := 129 } [.ref (ad 0), .int p1, .int p2, .int p3, .int p4] (F_Game_touch p1 p2 p3 p4) := by
  refine gStartXi (L0 := [(0, .ref (ad 0)), (1, .int p1), (2, .int p2), (3, .int p3), (4, .int p4)]) RX5 (by decide) rfl rfl (Nat.le_of_ble_eq_true rfl) ?_
  intro p e s m args below meth c sz σ q C hr hnt
  unfold F_Game_touch
  refine g_iload_n C 1 dX5_touch_0 rfl rfl ?_
  refine g_callsx (As := [.int p1]) (n := 1) C hnt (c_Game_checkTeam l hl D cI cJ ad p1) ⟨rfl, rfl⟩ qc41 (hR := ⟨Nat.le_of_ble_eq_true rfl, Nat.le_of_ble_eq_true rfl⟩) rfl rfl (Nat.le_of_ble_eq_true rfl) dX5_touch_1 ⟨Nat.le_refl _, Nat.le_refl _⟩ (fun σ1 => ?_)
  refine g_iload_n C 2 dX5_touch_4 rfl rfl ?_
  refine g_callsx (As := [.int p2]) (n := 1) C hnt (c_Game_checkShirt l hl D cI cJ ad p2) ⟨rfl, rfl⟩ qc43 (hR := ⟨Nat.le_of_ble_eq_true rfl, Nat.le_of_ble_eq_true rfl⟩) rfl rfl (Nat.le_of_ble_eq_true rfl) dX5_touch_5 ⟨Nat.le_refl _, Nat.le_refl _⟩ (fun σ2 => ?_)
  refine g_iload_n C 3 dX5_touch_8 rfl rfl ?_
  refine g_if_lt (tgt := 17) C dX5_touch_9 (by decide) (fun h3 => ?_) (fun h3 => ?_)
  · refine g_loc [] rfl ?_
    exact b_Game_touch_B17 C hr hnt hl p1 p2 p3 p4 σ2
  · refine g_iload_n C 3 dX5_touch_12 rfl rfl ?_
    refine g_iconst (v := (2 : Int32)) C dX5_touch_13 (by decide) ?_
    refine g_icmp_le (tgt := 27) C dX5_touch_14 (by decide) (fun h4 => ?_) (fun h4 => ?_)
    · refine g_aload_n C 0 dX5_touch_27 rfl rfl ?_
      refine g_callvx (As := []) (n := 0) C hnt (c_Game_checkRally l hl D cI cJ ad) ⟨rfl, rfl⟩ gcl5 rfl qc63 (hR := ⟨Nat.le_of_ble_eq_true rfl, Nat.le_of_ble_eq_true rfl⟩) rfl rfl (Nat.le_of_ble_eq_true rfl) dX5_touch_28 ⟨Nat.le_refl _, Nat.le_refl _⟩ (fun σ5 => ?_)
      refine g_aload_n C 0 dX5_touch_31 rfl rfl ?_
      refine g_getR (o' := 1) C 0 0 gcl5 rfl (by decide) rfl qw166 dX5_touch_32 ?_
      refine g_iload_n C 1 dX5_touch_35 rfl rfl ?_
      refine g_callvr (As := [.int p1]) (n := 1) C (c_Court_sideOf l hl D cI cJ ad 1 p1 gc1) ⟨rfl, rfl⟩ gcl0 rfl qc45 (hR := ⟨Nat.le_of_ble_eq_true rfl, Nat.le_of_ble_eq_true rfl⟩) rfl rfl (Nat.le_of_ble_eq_true rfl) dX5_touch_36 ⟨Nat.zero_le _, Nat.zero_le _⟩ (fun o7 σ6 h8 => ?_)
      refine g_astore (L' := [(5, .ref (ad o7)), (0, .ref (ad 0)), (1, .int p1), (2, .int p2), (3, .int p3), (4, .int p4)]) C dX5_touch_39 (by decide) rfl ?_
      refine g_aload C 0 dX5_touch_41 rfl ?_
      refine g_iload_n C 3 dX5_touch_43 rfl rfl ?_
      refine g_callvi (As := [.int p2]) (n := 1) C (c_Side_placeOf l hl D cI cJ ad o7 p2 (gOf_side gc1 h8)) ⟨rfl, rfl⟩ gcl4 (gSd (gOf_side gc1 h8)).1 qc55 (hR := ⟨Nat.le_of_ble_eq_true rfl, Nat.le_of_ble_eq_true rfl⟩) rfl rfl (Nat.le_of_ble_eq_true rfl) dX5_touch_44 ⟨Nat.zero_le _, Nat.zero_le _⟩ (fun r10 σ9 => ?_)
      refine g_iconst (v := (-1 : Int32)) C dX5_touch_47 (by decide) ?_
      refine g_icmp_ne (tgt := 61) C dX5_touch_48 (by decide) (fun h11 => ?_) (fun h11 => ?_)
      · exact g_throw (text := "the shirt is not on the court") (names := ["java/lang/RuntimeException", "java/lang/Exception"]) C hl hnt (3) (by decide) (by decide) (by decide) (by decide) qw175 qw176 (by decide) qt2 dX5_touch_51 dX5_touch_54 dX5_touch_55 dX5_touch_57 dX5_touch_60 (Nat.le_of_ble_eq_true rfl) (Nat.le_of_ble_eq_true rfl) ⟨Nat.le_refl _, Nat.le_refl _⟩
      · refine g_aload_n C 1 dX5_touch_61 rfl rfl ?_
        refine g_getR (o' := 15) C 0 2 gcl5 rfl (by decide) rfl qw221 dX5_touch_62 ?_
        refine g_iload_n C 2 dX5_touch_65 rfl rfl ?_
        refine g_iload_n C 3 dX5_touch_66 rfl rfl ?_
        refine g_iload_n C 4 dX5_touch_67 rfl rfl ?_
        refine g_callvi (As := [.int p1, .int p2, .int p3]) (n := 3) C (c_Rally_faultOf l hl D cI cJ ad p1 p2 p3) ⟨rfl, rfl⟩ gcl1 rfl qc64 (hR := ⟨Nat.le_of_ble_eq_true rfl, Nat.le_of_ble_eq_true rfl⟩) rfl rfl (Nat.le_of_ble_eq_true rfl) dX5_touch_68 ⟨Nat.zero_le _, Nat.zero_le _⟩ (fun r13 σ12 => ?_)
        refine g_istore (L' := [(6, .int r13), (5, .ref (ad o7)), (0, .ref (ad 0)), (1, .int p1), (2, .int p2), (3, .int p3), (4, .int p4)]) C dX5_touch_71 (by decide) rfl ?_
        refine g_iload C 0 dX5_touch_73 rfl ?_
        refine g_if_ne (tgt := 89) C dX5_touch_75 (by decide) (fun h14 => ?_) (fun h14 => ?_)
        · refine g_aload C 1 dX5_touch_78 rfl ?_
          refine g_iload_n C 4 dX5_touch_80 rfl rfl ?_
          refine g_iload_n C 5 dX5_touch_81 rfl rfl ?_
          refine g_iload C 6 dX5_touch_82 rfl ?_
          refine g_callvi (As := [.int p2, .int p3, .int p4]) (n := 3) C (c_Side_faultOf l hl D cI cJ ad o7 p2 p3 p4 (gOf_side gc1 h8)) ⟨rfl, rfl⟩ gcl4 (gSd (gOf_side gc1 h8)).1 qc65 (hR := ⟨Nat.le_of_ble_eq_true rfl, Nat.le_of_ble_eq_true rfl⟩) rfl rfl (Nat.le_of_ble_eq_true rfl) dX5_touch_84 ⟨Nat.zero_le _, Nat.zero_le _⟩ (fun r16 σ15 => ?_)
          refine g_istore (L' := [(6, .int r16), (5, .ref (ad o7)), (0, .ref (ad 0)), (1, .int p1), (2, .int p2), (3, .int p3), (4, .int p4)]) C dX5_touch_87 (by decide) rfl ?_
          refine g_loc [2, 3, 4, 5, 0] rfl ?_
          exact b_Game_touch_B89 C hr hnt hl p1 p2 p3 p4 p1 p2 p3 r16 σ15
        · refine g_loc [2, 3, 4, 5, 0] rfl ?_
          exact b_Game_touch_B89 C hr hnt hl p1 p2 p3 p4 p1 p2 p3 r13 σ12
    · refine g_loc [] rfl ?_
      exact b_Game_touch_B17 C hr hnt hl p1 p2 p3 p4 σ2

def F_Game_fall_B46 (p1 : Int32) (l2 : Int32) (s0 : Int32) (s1 : Int32) (σ : gSt) : Option (Int32 × Int32 × gSt) := gbv (F_Game_endRally s1 s0 σ) fun σ1 => some ((0 : Int32), ((1 : Int32) - l2), σ1)

def F_Game_fall_B29 (p1 : Int32) (l1 : Int32) (s0 : Int32) (σ : gSt) : Option (Int32 × Int32 × gSt) := if l1 = (-1 : Int32) then (F_Game_fall_B46 p1 s0 (7 : Int32) ((1 : Int32) - s0) σ) else (F_Game_fall_B46 p1 s0 (6 : Int32) ((1 : Int32) - s0) σ)

def F_Game_fall_B9 (p1 : Int32) (l1 : Int32) (σ : gSt) : Option (Int32 × Int32 × gSt) := gbx (F_Game_checkRally σ) fun σ1 => if l1 = (-1 : Int32) then (F_Game_fall_B29 p1 l1 (σ1 15 1) σ1) else (F_Game_fall_B29 p1 l1 l1 σ1)

def F_Game_fall (p1 : Int32) (σ : gSt) : Option (Int32 × Int32 × gSt) := if p1 = (-1 : Int32) then (F_Game_fall_B9 p1 p1 σ) else (gbx (F_Game_checkTeam p1 σ) fun σ2 => F_Game_fall_B9 p1 p1 σ2)

set_option maxHeartbeats 4000000 in
set_option maxRecDepth 100000 in
theorem b_Game_fall_B46 {p : Program} {l : Launch} {e : Env} {s : State} {m : MethodId} {args : Array Value} {below : List Frame} {meth : Method} {c : Code} {D : va_G} {cI cJ : ClassId} {ad : Nat → Nat} {sz : Nat} {q : Int32 × Int32 × gSt} (C : gC p s m args meth c D cI cJ ad (gA ad sz) cX5_fall 3 RX5) (hr : meth.sig.returnType = (some .int)) (hnt : ∀ x ∈ c.exceptionTable.toList, False) (hl : l.stackTraces = false) (p1 : Int32) (l2 : Int32) (s0 : Int32) (s1 : Int32) (σ : gSt) : gX (F_Game_fall_B46 p1 l2 s0 s1 σ) q (gG p l e { frames := 7, cells := 1, slots := 6, locals := 129 } s m args below meth c D cI cJ ad (gA ad sz) 3 0 0 (vz_MQ below (gQi D cI cJ ad (gA ad sz) q) (gXC D cI cJ ad s.heap.size (gA ad sz) q) args s 1 6 (gA ad sz)) σ 46 [(2, .int l2)] [.int s0, .int s1, .ref (ad 0)]) := by
  unfold F_Game_fall_B46
  refine g_callvv (As := [.int s1, .int s0]) (n := 2) C (c_Game_endRally l hl D cI cJ ad s1 s0) ⟨rfl, rfl⟩ gcl5 rfl qc67 (hR := ⟨Nat.le_of_ble_eq_true rfl, Nat.le_of_ble_eq_true rfl⟩) rfl rfl (Nat.le_of_ble_eq_true rfl) dX5_fall_46 ⟨Nat.zero_le _, Nat.zero_le _⟩ (fun σ1 => ?_)
  refine g_iconst (v := (1 : Int32)) C dX5_fall_49 (by decide) ?_
  refine g_iload_n C 0 dX5_fall_50 rfl rfl ?_
  refine g_isub C dX5_fall_51 ?_
  exact g_xireti C hr dX5_fall_52

set_option maxHeartbeats 4000000 in
set_option maxRecDepth 100000 in
theorem b_Game_fall_B29 {p : Program} {l : Launch} {e : Env} {s : State} {m : MethodId} {args : Array Value} {below : List Frame} {meth : Method} {c : Code} {D : va_G} {cI cJ : ClassId} {ad : Nat → Nat} {sz : Nat} {q : Int32 × Int32 × gSt} (C : gC p s m args meth c D cI cJ ad (gA ad sz) cX5_fall 3 RX5) (hr : meth.sig.returnType = (some .int)) (hnt : ∀ x ∈ c.exceptionTable.toList, False) (hl : l.stackTraces = false) (p1 : Int32) (l1 : Int32) (s0 : Int32) (σ : gSt) : gX (F_Game_fall_B29 p1 l1 s0 σ) q (gG p l e { frames := 7, cells := 1, slots := 6, locals := 129 } s m args below meth c D cI cJ ad (gA ad sz) 3 0 0 (vz_MQ below (gQi D cI cJ ad (gA ad sz) q) (gXC D cI cJ ad s.heap.size (gA ad sz) q) args s 1 6 (gA ad sz)) σ 29 [(0, .ref (ad 0)), (1, .int l1)] [.int s0]) := by
  unfold F_Game_fall_B29
  refine g_istore_n (L' := [(2, .int s0), (0, .ref (ad 0)), (1, .int l1)]) C dX5_fall_29 rfl (by decide) rfl ?_
  refine g_aload_n C 1 dX5_fall_30 rfl rfl ?_
  refine g_iconst (v := (1 : Int32)) C dX5_fall_31 (by decide) ?_
  refine g_iload_n C 0 dX5_fall_32 rfl rfl ?_
  refine g_isub C dX5_fall_33 ?_
  refine g_iload_n C 2 dX5_fall_34 rfl rfl ?_
  refine g_iconst (v := (-1 : Int32)) C dX5_fall_35 (by decide) ?_
  refine g_icmp_ne (tgt := 44) C dX5_fall_36 (by decide) (fun h1 => ?_) (fun h1 => ?_)
  · refine g_bipush (v := (7 : Int32)) C dX5_fall_39 (by decide) ?_
    refine g_goto (tgt := 46) C dX5_fall_41 (by decide) ?_
    refine g_loc [0] rfl ?_
    exact b_Game_fall_B46 C hr hnt hl p1 s0 (7 : Int32) ((1 : Int32) - s0) σ
  · refine g_bipush (v := (6 : Int32)) C dX5_fall_44 (by decide) ?_
    refine g_loc [0] rfl ?_
    exact b_Game_fall_B46 C hr hnt hl p1 s0 (6 : Int32) ((1 : Int32) - s0) σ

set_option maxHeartbeats 4000000 in
set_option maxRecDepth 100000 in
theorem b_Game_fall_B9 {p : Program} {l : Launch} {e : Env} {s : State} {m : MethodId} {args : Array Value} {below : List Frame} {meth : Method} {c : Code} {D : va_G} {cI cJ : ClassId} {ad : Nat → Nat} {sz : Nat} {q : Int32 × Int32 × gSt} (C : gC p s m args meth c D cI cJ ad (gA ad sz) cX5_fall 3 RX5) (hr : meth.sig.returnType = (some .int)) (hnt : ∀ x ∈ c.exceptionTable.toList, False) (hl : l.stackTraces = false) (p1 : Int32) (l1 : Int32) (σ : gSt) : gX (F_Game_fall_B9 p1 l1 σ) q (gG p l e { frames := 7, cells := 1, slots := 6, locals := 129 } s m args below meth c D cI cJ ad (gA ad sz) 3 0 0 (vz_MQ below (gQi D cI cJ ad (gA ad sz) q) (gXC D cI cJ ad s.heap.size (gA ad sz) q) args s 1 6 (gA ad sz)) σ 9 [(0, .ref (ad 0)), (1, .int l1)] []) := by
  unfold F_Game_fall_B9
  refine g_aload_n C 0 dX5_fall_9 rfl rfl ?_
  refine g_callvx (As := []) (n := 0) C hnt (c_Game_checkRally l hl D cI cJ ad) ⟨rfl, rfl⟩ gcl5 rfl qc63 (hR := ⟨Nat.le_of_ble_eq_true rfl, Nat.le_of_ble_eq_true rfl⟩) rfl rfl (Nat.le_of_ble_eq_true rfl) dX5_fall_10 ⟨Nat.le_refl _, Nat.le_refl _⟩ (fun σ1 => ?_)
  refine g_iload_n C 1 dX5_fall_13 rfl rfl ?_
  refine g_iconst (v := (-1 : Int32)) C dX5_fall_14 (by decide) ?_
  refine g_icmp_ne (tgt := 28) C dX5_fall_15 (by decide) (fun h2 => ?_) (fun h2 => ?_)
  · refine g_aload_n C 0 dX5_fall_18 rfl rfl ?_
    refine g_getR (o' := 15) C 0 2 gcl5 rfl (by decide) rfl qw221 dX5_fall_19 ?_
    refine g_getIN C 15 1 gcl1 rfl (by decide) rfl qn277 dX5_fall_22 ?_
    refine g_goto (tgt := 29) C dX5_fall_25 (by decide) ?_
    refine g_loc [0, 1] rfl ?_
    exact b_Game_fall_B29 C hr hnt hl p1 l1 (σ1 15 1) σ1
  · refine g_iload_n C 1 dX5_fall_28 rfl rfl ?_
    refine g_loc [0, 1] rfl ?_
    exact b_Game_fall_B29 C hr hnt hl p1 l1 l1 σ1

set_option maxHeartbeats 4000000 in
set_option maxRecDepth 100000 in
theorem c_Game_fall (l : Launch) (hl : l.stackTraces = false) (D : va_G) (cI cJ : ClassId) (ad : Nat → Nat) (p1 : Int32) : gMxi l D cI cJ ad yX5_fall cX5_fall 3 (some .int) { frames := 7, cells := 1, slots := 6, locals := 129 } [.ref (ad 0), .int p1] (F_Game_fall p1) := by
  refine gStartXi (L0 := [(0, .ref (ad 0)), (1, .int p1)]) RX5 (by decide) rfl rfl (Nat.le_of_ble_eq_true rfl) ?_
  intro p e s m args below meth c sz σ q C hr hnt
  unfold F_Game_fall
  refine g_iload_n C 1 dX5_fall_0 rfl rfl ?_
  refine g_iconst (v := (-1 : Int32)) C dX5_fall_1 (by decide) ?_
  refine g_icmp_eq (tgt := 9) C dX5_fall_2 (by decide) (fun h1 => ?_) (fun h1 => ?_)
  · refine g_loc [0, 1] rfl ?_
    exact b_Game_fall_B9 C hr hnt hl p1 p1 σ
  · refine g_iload_n C 1 dX5_fall_5 rfl rfl ?_
    refine g_callsx (As := [.int p1]) (n := 1) C hnt (c_Game_checkTeam l hl D cI cJ ad p1) ⟨rfl, rfl⟩ qc41 (hR := ⟨Nat.le_of_ble_eq_true rfl, Nat.le_of_ble_eq_true rfl⟩) rfl rfl (Nat.le_of_ble_eq_true rfl) dX5_fall_6 ⟨Nat.le_refl _, Nat.le_refl _⟩ (fun σ2 => ?_)
    refine g_loc [0, 1] rfl ?_
    exact b_Game_fall_B9 C hr hnt hl p1 p1 σ2

def F_Game_net (p1 : Int32) (p2 : Int32) (σ : gSt) : Option (Int32 × Int32 × gSt) := gbx (F_Game_checkTeam p1 σ) fun σ1 => gbx (F_Game_checkRally σ1) fun σ2 => if p2 = (0 : Int32) then (gbv (F_Rally_noteNet p1 σ2) fun σ4 => if p2 = 0 ∨ p2 = 1 then some ((0 : Int32), p2, σ4) else none) else (gbv (F_Game_endRally ((1 : Int32) - p1) (8 : Int32) σ2) fun σ6 => if p2 = 0 ∨ p2 = 1 then some ((0 : Int32), p2, σ6) else none)

set_option maxHeartbeats 4000000 in
set_option maxRecDepth 100000 in
theorem c_Game_net (l : Launch) (hl : l.stackTraces = false) (D : va_G) (cI cJ : ClassId) (ad : Nat → Nat) (p1 : Int32) (p2 : Int32) : gMxi l D cI cJ ad yX5_net cX5_net 3 (some .boolean) { frames := 7, cells := 1, slots := 6, locals := 129 } [.ref (ad 0), .int p1, .int p2] (F_Game_net p1 p2) := by
  refine gStartXi (L0 := [(0, .ref (ad 0)), (1, .int p1), (2, .int p2)]) RX5 (by decide) rfl rfl (Nat.le_of_ble_eq_true rfl) ?_
  intro p e s m args below meth c sz σ q C hr hnt
  unfold F_Game_net
  refine g_iload_n C 1 dX5_net_0 rfl rfl ?_
  refine g_callsx (As := [.int p1]) (n := 1) C hnt (c_Game_checkTeam l hl D cI cJ ad p1) ⟨rfl, rfl⟩ qc41 (hR := ⟨Nat.le_of_ble_eq_true rfl, Nat.le_of_ble_eq_true rfl⟩) rfl rfl (Nat.le_of_ble_eq_true rfl) dX5_net_1 ⟨Nat.le_refl _, Nat.le_refl _⟩ (fun σ1 => ?_)
  refine g_aload_n C 0 dX5_net_4 rfl rfl ?_
  refine g_callvx (As := []) (n := 0) C hnt (c_Game_checkRally l hl D cI cJ ad) ⟨rfl, rfl⟩ gcl5 rfl qc63 (hR := ⟨Nat.le_of_ble_eq_true rfl, Nat.le_of_ble_eq_true rfl⟩) rfl rfl (Nat.le_of_ble_eq_true rfl) dX5_net_5 ⟨Nat.le_refl _, Nat.le_refl _⟩ (fun σ2 => ?_)
  refine g_iload_n C 2 dX5_net_8 rfl rfl ?_
  refine g_if_eq (tgt := 24) C dX5_net_9 (by decide) (fun h3 => ?_) (fun h3 => ?_)
  · refine g_aload_n C 0 dX5_net_24 rfl rfl ?_
    refine g_getR (o' := 15) C 0 2 gcl5 rfl (by decide) rfl qw221 dX5_net_25 ?_
    refine g_iload_n C 1 dX5_net_28 rfl rfl ?_
    refine g_callvv (As := [.int p1]) (n := 1) C (c_Rally_noteNet l hl D cI cJ ad p1) ⟨rfl, rfl⟩ gcl1 rfl qc68 (hR := ⟨Nat.le_of_ble_eq_true rfl, Nat.le_of_ble_eq_true rfl⟩) rfl rfl (Nat.le_of_ble_eq_true rfl) dX5_net_29 ⟨Nat.zero_le _, Nat.zero_le _⟩ (fun σ4 => ?_)
    refine g_iload_n C 2 dX5_net_32 rfl rfl ?_
    refine gX_z (fun z5 => ?_)
    exact g_xiretz C z5 hr dX5_net_33
  · refine g_aload_n C 0 dX5_net_12 rfl rfl ?_
    refine g_iconst (v := (1 : Int32)) C dX5_net_13 (by decide) ?_
    refine g_iload_n C 1 dX5_net_14 rfl rfl ?_
    refine g_isub C dX5_net_15 ?_
    refine g_bipush (v := (8 : Int32)) C dX5_net_16 (by decide) ?_
    refine g_callvv (As := [.int ((1 : Int32) - p1), .int (8 : Int32)]) (n := 2) C (c_Game_endRally l hl D cI cJ ad ((1 : Int32) - p1) (8 : Int32)) ⟨rfl, rfl⟩ gcl5 rfl qc67 (hR := ⟨Nat.le_of_ble_eq_true rfl, Nat.le_of_ble_eq_true rfl⟩) rfl rfl (Nat.le_of_ble_eq_true rfl) dX5_net_18 ⟨Nat.zero_le _, Nat.zero_le _⟩ (fun σ6 => ?_)
    refine g_goto (tgt := 32) C dX5_net_21 (by decide) ?_
    refine g_iload_n C 2 dX5_net_32 rfl rfl ?_
    refine gX_z (fun z7 => ?_)
    exact g_xiretz C z7 hr dX5_net_33

def F_Game_find_B21  (σ : gSt) : Option (Int32 × Int32 × gSt) := some ((3 : Int32), (0 : Int32), σ)

def F_Game_find  (σ : gSt) : Option (Int32 × Int32 × gSt) := if (σ 15 0) = (0 : Int32) then (if (σ 1 3) = (-1 : Int32) then (F_Game_find_B21 σ) else (gbv (F_Sheet_write (5 : Int32) (σ 1 2) (0 : Int32) (0 : Int32) σ) fun σ3 => gbi (F_Court_takeBack 1 σ3) fun r5 σ4 => gbv (F_Game_endSetIfWonBy (σ4 1 2) σ4) fun σ6 => gl (gup σ6 0 6 (-1 : Int32)) fun σ7 => gl (gup σ7 0 7 (9 : Int32)) fun σ8 => some ((0 : Int32), r5, σ8))) else (F_Game_find_B21 σ)

set_option maxHeartbeats 4000000 in
set_option maxRecDepth 100000 in
theorem b_Game_find_B21 {p : Program} {l : Launch} {e : Env} {s : State} {m : MethodId} {args : Array Value} {below : List Frame} {meth : Method} {c : Code} {D : va_G} {cI cJ : ClassId} {ad : Nat → Nat} {sz : Nat} {q : Int32 × Int32 × gSt} (C : gC p s m args meth c D cI cJ ad (gA ad sz) cX5_find 2 RX5) (hr : meth.sig.returnType = (some .int)) (hnt : ∀ x ∈ c.exceptionTable.toList, False) (hl : l.stackTraces = false) (σ : gSt) : gX (F_Game_find_B21 σ) q (gG p l e { frames := 6, cells := 1, slots := 6, locals := 110 } s m args below meth c D cI cJ ad (gA ad sz) 2 0 0 (vz_MQ below (gQi D cI cJ ad (gA ad sz) q) (gXC D cI cJ ad s.heap.size (gA ad sz) q) args s 1 6 (gA ad sz)) σ 21 [] []) := by
  unfold F_Game_find_B21
  exact g_throw (text := "nothing can be found") (names := ["java/lang/RuntimeException", "java/lang/Exception"]) C hl hnt (3) (by decide) (by decide) (by decide) (by decide) qw175 qw176 (by decide) qt2 dX5_find_21 dX5_find_24 dX5_find_25 dX5_find_27 dX5_find_30 (Nat.le_of_ble_eq_true rfl) (Nat.le_of_ble_eq_true rfl) ⟨Nat.le_refl _, Nat.le_refl _⟩

set_option maxHeartbeats 4000000 in
set_option maxRecDepth 100000 in
theorem c_Game_find (l : Launch) (hl : l.stackTraces = false) (D : va_G) (cI cJ : ClassId) (ad : Nat → Nat) : gMxi l D cI cJ ad yX5_find cX5_find 2 (some .int) { frames := 6, cells := 1, slots := 6, locals := 110 } [.ref (ad 0)] (F_Game_find) := by
  refine gStartXi (L0 := [(0, .ref (ad 0))]) RX5 (by decide) rfl rfl (Nat.le_of_ble_eq_true rfl) ?_
  intro p e s m args below meth c sz σ q C hr hnt
  unfold F_Game_find
  refine g_aload_n C 0 dX5_find_0 rfl rfl ?_
  refine g_getR (o' := 15) C 0 2 gcl5 rfl (by decide) rfl qw221 dX5_find_1 ?_
  refine g_getIN C 15 0 gcl1 rfl (by decide) rfl qn222 dX5_find_4 ?_
  refine g_if_ne (tgt := 21) C dX5_find_7 (by decide) (fun h1 => ?_) (fun h1 => ?_)
  · refine g_aload_n C 0 dX5_find_10 rfl rfl ?_
    refine g_getR (o' := 1) C 0 0 gcl5 rfl (by decide) rfl qw166 dX5_find_11 ?_
    refine g_getIN C 1 3 gcl0 rfl (by decide) rfl qn282 dX5_find_14 ?_
    refine g_iconst (v := (-1 : Int32)) C dX5_find_17 (by decide) ?_
    refine g_icmp_ne (tgt := 31) C dX5_find_18 (by decide) (fun h2 => ?_) (fun h2 => ?_)
    · refine g_loc [] rfl ?_
      exact b_Game_find_B21 C hr hnt hl σ
    · refine g_aload_n C 0 dX5_find_31 rfl rfl ?_
      refine g_getR (o' := 16) C 0 3 gcl5 rfl (by decide) rfl qw199 dX5_find_32 ?_
      refine g_iconst (v := (5 : Int32)) C dX5_find_35 (by decide) ?_
      refine g_aload_n C 0 dX5_find_36 rfl rfl ?_
      refine g_getR (o' := 1) C 0 0 gcl5 rfl (by decide) rfl qw166 dX5_find_37 ?_
      refine g_getIN C 1 2 gcl0 rfl (by decide) rfl qn227 dX5_find_40 ?_
      refine g_iconst (v := (0 : Int32)) C dX5_find_43 (by decide) ?_
      refine g_iconst (v := (0 : Int32)) C dX5_find_44 (by decide) ?_
      refine g_callvv (As := [.int (5 : Int32), .int (σ 1 2), .int (0 : Int32), .int (0 : Int32)]) (n := 4) C (c_Sheet_write l hl D cI cJ ad (5 : Int32) (σ 1 2) (0 : Int32) (0 : Int32)) ⟨rfl, rfl⟩ gcl3 rfl qc48 (hR := ⟨Nat.le_of_ble_eq_true rfl, Nat.le_of_ble_eq_true rfl⟩) rfl rfl (Nat.le_of_ble_eq_true rfl) dX5_find_45 ⟨Nat.zero_le _, Nat.zero_le _⟩ (fun σ3 => ?_)
      refine g_aload_n C 0 dX5_find_48 rfl rfl ?_
      refine g_getR (o' := 1) C 0 0 gcl5 rfl (by decide) rfl qw166 dX5_find_49 ?_
      refine g_callvi (As := []) (n := 0) C (c_Court_takeBack l hl D cI cJ ad 1 gc1) ⟨rfl, rfl⟩ gcl0 rfl qc69 (hR := ⟨Nat.le_of_ble_eq_true rfl, Nat.le_of_ble_eq_true rfl⟩) rfl rfl (Nat.le_of_ble_eq_true rfl) dX5_find_52 ⟨Nat.zero_le _, Nat.zero_le _⟩ (fun r5 σ4 => ?_)
      refine g_istore_n (L' := [(1, .int r5), (0, .ref (ad 0))]) C dX5_find_55 rfl (by decide) rfl ?_
      refine g_aload_n C 1 dX5_find_56 rfl rfl ?_
      refine g_aload_n C 1 dX5_find_57 rfl rfl ?_
      refine g_getR (o' := 1) C 0 0 gcl5 rfl (by decide) rfl qw166 dX5_find_58 ?_
      refine g_getIN C 1 2 gcl0 rfl (by decide) rfl qn227 dX5_find_61 ?_
      refine g_callvv (As := [.int (σ4 1 2)]) (n := 1) C (c_Game_endSetIfWonBy l hl D cI cJ ad (σ4 1 2)) ⟨rfl, rfl⟩ gcl5 rfl qc62 (hR := ⟨Nat.le_of_ble_eq_true rfl, Nat.le_of_ble_eq_true rfl⟩) rfl rfl (Nat.le_of_ble_eq_true rfl) dX5_find_64 ⟨Nat.zero_le _, Nat.zero_le _⟩ (fun σ6 => ?_)
      refine g_aload_n C 1 dX5_find_67 rfl rfl ?_
      refine g_iconst (v := (-1 : Int32)) C dX5_find_68 (by decide) ?_
      refine g_putI C 0 6 gcl5 gft5 rfl (by decide) rfl rfl rfl qw197 dX5_find_69 (fun σ7 => ?_)
      refine g_aload_n C 1 dX5_find_72 rfl rfl ?_
      refine g_bipush (v := (9 : Int32)) C dX5_find_73 (by decide) ?_
      refine g_putI C 0 7 gcl5 gft5 rfl (by decide) rfl rfl rfl qw219 dX5_find_75 (fun σ8 => ?_)
      refine g_iload_n C 0 dX5_find_78 rfl rfl ?_
      exact g_xireti C hr dX5_find_79
  · refine g_loc [] rfl ?_
    exact b_Game_find_B21 C hr hnt hl σ

def F_Game_exchange (p1 : Int32) (p2 : Int32) (σ : gSt) : Option (Int32 × Int32 × gSt) := gbx (F_Game_checkTeam p1 σ) fun σ1 => gbx (F_Game_checkShirt p2 σ1) fun σ2 => gbx (F_Game_checkBetweenRallies σ2) fun σ3 => gbr (F_Court_sideOf 1 p1 σ3) fun o5 σ4 => gbi (F_Side_canExchange o5 p2 σ4) fun r8 σ7 => if r8 = (0 : Int32) then (some ((3 : Int32), (0 : Int32), σ7)) else (gbv (F_Sheet_write (6 : Int32) p1 p2 (0 : Int32) σ7) fun σ10 => gbv (F_Side_swapLibero o5 p2 σ10) fun σ11 => gl (gup σ11 0 6 (-1 : Int32)) fun σ12 => gbi (F_Side_isLiberoIn o5 σ12) fun r14 σ13 => if r14 = 0 ∨ r14 = 1 then some ((0 : Int32), r14, σ13) else none)

set_option maxHeartbeats 4000000 in
set_option maxRecDepth 100000 in
theorem c_Game_exchange (l : Launch) (hl : l.stackTraces = false) (D : va_G) (cI cJ : ClassId) (ad : Nat → Nat) (p1 : Int32) (p2 : Int32) : gMxi l D cI cJ ad yX5_exchange cX5_exchange 4 (some .boolean) { frames := 7, cells := 1, slots := 6, locals := 107 } [.ref (ad 0), .int p1, .int p2] (F_Game_exchange p1 p2) := by
  refine gStartXi (L0 := [(0, .ref (ad 0)), (1, .int p1), (2, .int p2)]) RX5 (by decide) rfl rfl (Nat.le_of_ble_eq_true rfl) ?_
  intro p e s m args below meth c sz σ q C hr hnt
  unfold F_Game_exchange
  refine g_iload_n C 1 dX5_exchange_0 rfl rfl ?_
  refine g_callsx (As := [.int p1]) (n := 1) C hnt (c_Game_checkTeam l hl D cI cJ ad p1) ⟨rfl, rfl⟩ qc41 (hR := ⟨Nat.le_of_ble_eq_true rfl, Nat.le_of_ble_eq_true rfl⟩) rfl rfl (Nat.le_of_ble_eq_true rfl) dX5_exchange_1 ⟨Nat.le_refl _, Nat.le_refl _⟩ (fun σ1 => ?_)
  refine g_iload_n C 2 dX5_exchange_4 rfl rfl ?_
  refine g_callsx (As := [.int p2]) (n := 1) C hnt (c_Game_checkShirt l hl D cI cJ ad p2) ⟨rfl, rfl⟩ qc43 (hR := ⟨Nat.le_of_ble_eq_true rfl, Nat.le_of_ble_eq_true rfl⟩) rfl rfl (Nat.le_of_ble_eq_true rfl) dX5_exchange_5 ⟨Nat.le_refl _, Nat.le_refl _⟩ (fun σ2 => ?_)
  refine g_aload_n C 0 dX5_exchange_8 rfl rfl ?_
  refine g_callvx (As := []) (n := 0) C hnt (c_Game_checkBetweenRallies l hl D cI cJ ad) ⟨rfl, rfl⟩ gcl5 rfl qc54 (hR := ⟨Nat.le_of_ble_eq_true rfl, Nat.le_of_ble_eq_true rfl⟩) rfl rfl (Nat.le_of_ble_eq_true rfl) dX5_exchange_9 ⟨Nat.le_refl _, Nat.le_refl _⟩ (fun σ3 => ?_)
  refine g_aload_n C 0 dX5_exchange_12 rfl rfl ?_
  refine g_getR (o' := 1) C 0 0 gcl5 rfl (by decide) rfl qw166 dX5_exchange_13 ?_
  refine g_iload_n C 1 dX5_exchange_16 rfl rfl ?_
  refine g_callvr (As := [.int p1]) (n := 1) C (c_Court_sideOf l hl D cI cJ ad 1 p1 gc1) ⟨rfl, rfl⟩ gcl0 rfl qc45 (hR := ⟨Nat.le_of_ble_eq_true rfl, Nat.le_of_ble_eq_true rfl⟩) rfl rfl (Nat.le_of_ble_eq_true rfl) dX5_exchange_17 ⟨Nat.zero_le _, Nat.zero_le _⟩ (fun o5 σ4 h6 => ?_)
  refine g_astore_n (L' := [(3, .ref (ad o5)), (0, .ref (ad 0)), (1, .int p1), (2, .int p2)]) C dX5_exchange_20 rfl (by decide) rfl ?_
  refine g_aload_n C 0 dX5_exchange_21 rfl rfl ?_
  refine g_iload_n C 3 dX5_exchange_22 rfl rfl ?_
  refine g_callvi (As := [.int p2]) (n := 1) C (c_Side_canExchange l hl D cI cJ ad o5 p2 (gOf_side gc1 h6)) ⟨rfl, rfl⟩ gcl4 (gSd (gOf_side gc1 h6)).1 qc70 (hR := ⟨Nat.le_of_ble_eq_true rfl, Nat.le_of_ble_eq_true rfl⟩) rfl rfl (Nat.le_of_ble_eq_true rfl) dX5_exchange_23 ⟨Nat.zero_le _, Nat.zero_le _⟩ (fun r8 σ7 => ?_)
  refine g_if_ne (tgt := 39) C dX5_exchange_26 (by decide) (fun h9 => ?_) (fun h9 => ?_)
  · exact g_throw (text := "it cannot be exchanged") (names := ["java/lang/RuntimeException", "java/lang/Exception"]) C hl hnt (3) (by decide) (by decide) (by decide) (by decide) qw175 qw176 (by decide) qt2 dX5_exchange_29 dX5_exchange_32 dX5_exchange_33 dX5_exchange_35 dX5_exchange_38 (Nat.le_of_ble_eq_true rfl) (Nat.le_of_ble_eq_true rfl) ⟨Nat.le_refl _, Nat.le_refl _⟩
  · refine g_aload_n C 1 dX5_exchange_39 rfl rfl ?_
    refine g_getR (o' := 16) C 0 3 gcl5 rfl (by decide) rfl qw199 dX5_exchange_40 ?_
    refine g_bipush (v := (6 : Int32)) C dX5_exchange_43 (by decide) ?_
    refine g_iload_n C 2 dX5_exchange_45 rfl rfl ?_
    refine g_iload_n C 3 dX5_exchange_46 rfl rfl ?_
    refine g_iconst (v := (0 : Int32)) C dX5_exchange_47 (by decide) ?_
    refine g_callvv (As := [.int (6 : Int32), .int p1, .int p2, .int (0 : Int32)]) (n := 4) C (c_Sheet_write l hl D cI cJ ad (6 : Int32) p1 p2 (0 : Int32)) ⟨rfl, rfl⟩ gcl3 rfl qc48 (hR := ⟨Nat.le_of_ble_eq_true rfl, Nat.le_of_ble_eq_true rfl⟩) rfl rfl (Nat.le_of_ble_eq_true rfl) dX5_exchange_48 ⟨Nat.zero_le _, Nat.zero_le _⟩ (fun σ10 => ?_)
    refine g_aload_n C 0 dX5_exchange_51 rfl rfl ?_
    refine g_iload_n C 3 dX5_exchange_52 rfl rfl ?_
    refine g_callvv (As := [.int p2]) (n := 1) C (c_Side_swapLibero l hl D cI cJ ad o5 p2 (gOf_side gc1 h6)) ⟨rfl, rfl⟩ gcl4 (gSd (gOf_side gc1 h6)).1 qc71 (hR := ⟨Nat.le_of_ble_eq_true rfl, Nat.le_of_ble_eq_true rfl⟩) rfl rfl (Nat.le_of_ble_eq_true rfl) dX5_exchange_53 ⟨Nat.zero_le _, Nat.zero_le _⟩ (fun σ11 => ?_)
    refine g_aload_n C 1 dX5_exchange_56 rfl rfl ?_
    refine g_iconst (v := (-1 : Int32)) C dX5_exchange_57 (by decide) ?_
    refine g_putI C 0 6 gcl5 gft5 rfl (by decide) rfl rfl rfl qw197 dX5_exchange_58 (fun σ12 => ?_)
    refine g_aload_n C 0 dX5_exchange_61 rfl rfl ?_
    refine g_callvi (As := []) (n := 0) C (c_Side_isLiberoIn l hl D cI cJ ad o5 (gOf_side gc1 h6)) ⟨rfl, rfl⟩ gcl4 (gSd (gOf_side gc1 h6)).1 qc72 (hR := ⟨Nat.le_of_ble_eq_true rfl, Nat.le_of_ble_eq_true rfl⟩) rfl rfl (Nat.le_of_ble_eq_true rfl) dX5_exchange_62 ⟨Nat.zero_le _, Nat.zero_le _⟩ (fun r14 σ13 => ?_)
    refine gX_z (fun z15 => ?_)
    exact g_xiretz C z15 hr dX5_exchange_65

def F_Game_substitute (p1 : Int32) (p2 : Int32) (p3 : Int32) (σ : gSt) : Option (Int32 × Int32 × gSt) := gbx (F_Game_checkTeam p1 σ) fun σ1 => gbx (F_Game_checkShirt p2 σ1) fun σ2 => gbx (F_Game_checkShirt p3 σ2) fun σ3 => gbx (F_Game_checkBetweenRallies σ3) fun σ4 => gbr (F_Court_sideOf 1 p1 σ4) fun o6 σ5 => gbi (F_Side_canSubstitute o6 p2 p3 σ5) fun r9 σ8 => if r9 = (0 : Int32) then (some ((3 : Int32), (0 : Int32), σ8)) else (gbv (F_Sheet_write (7 : Int32) p1 p2 p3 σ8) fun σ11 => gbv (F_Side_swapByPair o6 p2 p3 σ11) fun σ12 => gl (gup σ12 0 6 (-1 : Int32)) fun σ13 => some ((0 : Int32), (σ13 o6 7), σ13))

set_option maxHeartbeats 4000000 in
set_option maxRecDepth 100000 in
theorem c_Game_substitute (l : Launch) (hl : l.stackTraces = false) (D : va_G) (cI cJ : ClassId) (ad : Nat → Nat) (p1 : Int32) (p2 : Int32) (p3 : Int32) : gMxi l D cI cJ ad yX5_substitute cX5_substitute 5 (some .int) { frames := 7, cells := 1, slots := 6, locals := 102 } [.ref (ad 0), .int p1, .int p2, .int p3] (F_Game_substitute p1 p2 p3) := by
  refine gStartXi (L0 := [(0, .ref (ad 0)), (1, .int p1), (2, .int p2), (3, .int p3)]) RX5 (by decide) rfl rfl (Nat.le_of_ble_eq_true rfl) ?_
  intro p e s m args below meth c sz σ q C hr hnt
  unfold F_Game_substitute
  refine g_iload_n C 1 dX5_substitute_0 rfl rfl ?_
  refine g_callsx (As := [.int p1]) (n := 1) C hnt (c_Game_checkTeam l hl D cI cJ ad p1) ⟨rfl, rfl⟩ qc41 (hR := ⟨Nat.le_of_ble_eq_true rfl, Nat.le_of_ble_eq_true rfl⟩) rfl rfl (Nat.le_of_ble_eq_true rfl) dX5_substitute_1 ⟨Nat.le_refl _, Nat.le_refl _⟩ (fun σ1 => ?_)
  refine g_iload_n C 2 dX5_substitute_4 rfl rfl ?_
  refine g_callsx (As := [.int p2]) (n := 1) C hnt (c_Game_checkShirt l hl D cI cJ ad p2) ⟨rfl, rfl⟩ qc43 (hR := ⟨Nat.le_of_ble_eq_true rfl, Nat.le_of_ble_eq_true rfl⟩) rfl rfl (Nat.le_of_ble_eq_true rfl) dX5_substitute_5 ⟨Nat.le_refl _, Nat.le_refl _⟩ (fun σ2 => ?_)
  refine g_iload_n C 3 dX5_substitute_8 rfl rfl ?_
  refine g_callsx (As := [.int p3]) (n := 1) C hnt (c_Game_checkShirt l hl D cI cJ ad p3) ⟨rfl, rfl⟩ qc43 (hR := ⟨Nat.le_of_ble_eq_true rfl, Nat.le_of_ble_eq_true rfl⟩) rfl rfl (Nat.le_of_ble_eq_true rfl) dX5_substitute_9 ⟨Nat.le_refl _, Nat.le_refl _⟩ (fun σ3 => ?_)
  refine g_aload_n C 0 dX5_substitute_12 rfl rfl ?_
  refine g_callvx (As := []) (n := 0) C hnt (c_Game_checkBetweenRallies l hl D cI cJ ad) ⟨rfl, rfl⟩ gcl5 rfl qc54 (hR := ⟨Nat.le_of_ble_eq_true rfl, Nat.le_of_ble_eq_true rfl⟩) rfl rfl (Nat.le_of_ble_eq_true rfl) dX5_substitute_13 ⟨Nat.le_refl _, Nat.le_refl _⟩ (fun σ4 => ?_)
  refine g_aload_n C 0 dX5_substitute_16 rfl rfl ?_
  refine g_getR (o' := 1) C 0 0 gcl5 rfl (by decide) rfl qw166 dX5_substitute_17 ?_
  refine g_iload_n C 1 dX5_substitute_20 rfl rfl ?_
  refine g_callvr (As := [.int p1]) (n := 1) C (c_Court_sideOf l hl D cI cJ ad 1 p1 gc1) ⟨rfl, rfl⟩ gcl0 rfl qc45 (hR := ⟨Nat.le_of_ble_eq_true rfl, Nat.le_of_ble_eq_true rfl⟩) rfl rfl (Nat.le_of_ble_eq_true rfl) dX5_substitute_21 ⟨Nat.zero_le _, Nat.zero_le _⟩ (fun o6 σ5 h7 => ?_)
  refine g_astore (L' := [(4, .ref (ad o6)), (0, .ref (ad 0)), (1, .int p1), (2, .int p2), (3, .int p3)]) C dX5_substitute_24 (by decide) rfl ?_
  refine g_aload C 0 dX5_substitute_26 rfl ?_
  refine g_iload_n C 3 dX5_substitute_28 rfl rfl ?_
  refine g_iload_n C 4 dX5_substitute_29 rfl rfl ?_
  refine g_callvi (As := [.int p2, .int p3]) (n := 2) C (c_Side_canSubstitute l hl D cI cJ ad o6 p2 p3 (gOf_side gc1 h7)) ⟨rfl, rfl⟩ gcl4 (gSd (gOf_side gc1 h7)).1 qc73 (hR := ⟨Nat.le_of_ble_eq_true rfl, Nat.le_of_ble_eq_true rfl⟩) rfl rfl (Nat.le_of_ble_eq_true rfl) dX5_substitute_30 ⟨Nat.zero_le _, Nat.zero_le _⟩ (fun r9 σ8 => ?_)
  refine g_if_ne (tgt := 46) C dX5_substitute_33 (by decide) (fun h10 => ?_) (fun h10 => ?_)
  · exact g_throw (text := "it cannot be substituted") (names := ["java/lang/RuntimeException", "java/lang/Exception"]) C hl hnt (3) (by decide) (by decide) (by decide) (by decide) qw175 qw176 (by decide) qt2 dX5_substitute_36 dX5_substitute_39 dX5_substitute_40 dX5_substitute_42 dX5_substitute_45 (Nat.le_of_ble_eq_true rfl) (Nat.le_of_ble_eq_true rfl) ⟨Nat.le_refl _, Nat.le_refl _⟩
  · refine g_aload_n C 1 dX5_substitute_46 rfl rfl ?_
    refine g_getR (o' := 16) C 0 3 gcl5 rfl (by decide) rfl qw199 dX5_substitute_47 ?_
    refine g_bipush (v := (7 : Int32)) C dX5_substitute_50 (by decide) ?_
    refine g_iload_n C 2 dX5_substitute_52 rfl rfl ?_
    refine g_iload_n C 3 dX5_substitute_53 rfl rfl ?_
    refine g_iload_n C 4 dX5_substitute_54 rfl rfl ?_
    refine g_callvv (As := [.int (7 : Int32), .int p1, .int p2, .int p3]) (n := 4) C (c_Sheet_write l hl D cI cJ ad (7 : Int32) p1 p2 p3) ⟨rfl, rfl⟩ gcl3 rfl qc48 (hR := ⟨Nat.le_of_ble_eq_true rfl, Nat.le_of_ble_eq_true rfl⟩) rfl rfl (Nat.le_of_ble_eq_true rfl) dX5_substitute_55 ⟨Nat.zero_le _, Nat.zero_le _⟩ (fun σ11 => ?_)
    refine g_aload C 0 dX5_substitute_58 rfl ?_
    refine g_iload_n C 3 dX5_substitute_60 rfl rfl ?_
    refine g_iload_n C 4 dX5_substitute_61 rfl rfl ?_
    refine g_callvv (As := [.int p2, .int p3]) (n := 2) C (c_Side_swapByPair l hl D cI cJ ad o6 p2 p3 (gOf_side gc1 h7)) ⟨rfl, rfl⟩ gcl4 (gSd (gOf_side gc1 h7)).1 qc74 (hR := ⟨Nat.le_of_ble_eq_true rfl, Nat.le_of_ble_eq_true rfl⟩) rfl rfl (Nat.le_of_ble_eq_true rfl) dX5_substitute_62 ⟨Nat.zero_le _, Nat.zero_le _⟩ (fun σ12 => ?_)
    refine g_aload_n C 1 dX5_substitute_65 rfl rfl ?_
    refine g_iconst (v := (-1 : Int32)) C dX5_substitute_66 (by decide) ?_
    refine g_putI C 0 6 gcl5 gft5 rfl (by decide) rfl rfl rfl qw197 dX5_substitute_67 (fun σ13 => ?_)
    refine g_aload C 0 dX5_substitute_70 rfl ?_
    refine g_getIN C o6 7 gcl4 (gSd (gOf_side gc1 h7)).1 (by decide) ((gSd (gOf_side gc1 h7)).2.2.2.1 7 (by decide)) qn295 dX5_substitute_72 ?_
    exact g_xireti C hr dX5_substitute_75

def F_Game_challenge_B28 (p1 : Int32) (σ : gSt) : Option (Int32 × Int32 × gSt) := some ((3 : Int32), (0 : Int32), σ)

def F_Game_challenge (p1 : Int32) (σ : gSt) : Option (Int32 × Int32 × gSt) := gbx (F_Game_checkTeam p1 σ) fun σ1 => gbr (F_Court_sideOf 1 p1 σ1) fun o3 σ2 => if (σ2 0 6) = p1 then (if (σ2 o3 8) = (0 : Int32) then (F_Game_challenge_B28 p1 σ2) else (gbi (F_Rally_isNetNotedOf ((1 : Int32) - p1) σ2) fun r8 σ7 => if r8 = (0 : Int32) then (gl (gup σ7 o3 8 ((σ7 o3 8) - (1 : Int32))) fun σ10 => gl (gup σ10 0 6 (-1 : Int32)) fun σ11 => if r8 = 0 ∨ r8 = 1 then some ((0 : Int32), r8, σ11) else none) else (gbv (F_Court_copyFrom 1 8 σ7) fun σ13 => gbv (F_Sheet_cutTo (σ13 0 5) σ13) fun σ14 => gbv (F_Game_endRally p1 (8 : Int32) σ14) fun σ15 => gl (gup σ15 0 6 (-1 : Int32)) fun σ16 => if r8 = 0 ∨ r8 = 1 then some ((0 : Int32), r8, σ16) else none))) else (F_Game_challenge_B28 p1 σ2)

set_option maxHeartbeats 4000000 in
set_option maxRecDepth 100000 in
theorem b_Game_challenge_B28 {p : Program} {l : Launch} {e : Env} {s : State} {m : MethodId} {args : Array Value} {below : List Frame} {meth : Method} {c : Code} {D : va_G} {cI cJ : ClassId} {ad : Nat → Nat} {sz : Nat} {q : Int32 × Int32 × gSt} (C : gC p s m args meth c D cI cJ ad (gA ad sz) cX5_challenge 4 RX5) (hr : meth.sig.returnType = (some .boolean)) (hnt : ∀ x ∈ c.exceptionTable.toList, False) (hl : l.stackTraces = false) (p1 : Int32) (σ : gSt) : gX (F_Game_challenge_B28 p1 σ) q (gG p l e { frames := 7, cells := 1, slots := 6, locals := 129 } s m args below meth c D cI cJ ad (gA ad sz) 4 0 0 (vz_MQ below (gQi D cI cJ ad (gA ad sz) q) (gXC D cI cJ ad s.heap.size (gA ad sz) q) args s 1 6 (gA ad sz)) σ 28 [] []) := by
  unfold F_Game_challenge_B28
  exact g_throw (text := "the team may not challenge") (names := ["java/lang/RuntimeException", "java/lang/Exception"]) C hl hnt (3) (by decide) (by decide) (by decide) (by decide) qw175 qw176 (by decide) qt2 dX5_challenge_28 dX5_challenge_31 dX5_challenge_32 dX5_challenge_34 dX5_challenge_37 (Nat.le_of_ble_eq_true rfl) (Nat.le_of_ble_eq_true rfl) ⟨Nat.le_refl _, Nat.le_refl _⟩

set_option maxHeartbeats 4000000 in
set_option maxRecDepth 100000 in
theorem c_Game_challenge (l : Launch) (hl : l.stackTraces = false) (D : va_G) (cI cJ : ClassId) (ad : Nat → Nat) (p1 : Int32) : gMxi l D cI cJ ad yX5_challenge cX5_challenge 4 (some .boolean) { frames := 7, cells := 1, slots := 6, locals := 129 } [.ref (ad 0), .int p1] (F_Game_challenge p1) := by
  refine gStartXi (L0 := [(0, .ref (ad 0)), (1, .int p1)]) RX5 (by decide) rfl rfl (Nat.le_of_ble_eq_true rfl) ?_
  intro p e s m args below meth c sz σ q C hr hnt
  unfold F_Game_challenge
  refine g_iload_n C 1 dX5_challenge_0 rfl rfl ?_
  refine g_callsx (As := [.int p1]) (n := 1) C hnt (c_Game_checkTeam l hl D cI cJ ad p1) ⟨rfl, rfl⟩ qc41 (hR := ⟨Nat.le_of_ble_eq_true rfl, Nat.le_of_ble_eq_true rfl⟩) rfl rfl (Nat.le_of_ble_eq_true rfl) dX5_challenge_1 ⟨Nat.le_refl _, Nat.le_refl _⟩ (fun σ1 => ?_)
  refine g_aload_n C 0 dX5_challenge_4 rfl rfl ?_
  refine g_getR (o' := 1) C 0 0 gcl5 rfl (by decide) rfl qw166 dX5_challenge_5 ?_
  refine g_iload_n C 1 dX5_challenge_8 rfl rfl ?_
  refine g_callvr (As := [.int p1]) (n := 1) C (c_Court_sideOf l hl D cI cJ ad 1 p1 gc1) ⟨rfl, rfl⟩ gcl0 rfl qc45 (hR := ⟨Nat.le_of_ble_eq_true rfl, Nat.le_of_ble_eq_true rfl⟩) rfl rfl (Nat.le_of_ble_eq_true rfl) dX5_challenge_9 ⟨Nat.zero_le _, Nat.zero_le _⟩ (fun o3 σ2 h4 => ?_)
  refine g_astore_n (L' := [(2, .ref (ad o3)), (0, .ref (ad 0)), (1, .int p1)]) C dX5_challenge_12 rfl (by decide) rfl ?_
  refine g_aload_n C 1 dX5_challenge_13 rfl rfl ?_
  refine g_getI C 0 6 gcl5 rfl (by decide) rfl qw197 dX5_challenge_14 ?_
  refine g_iload_n C 2 dX5_challenge_17 rfl rfl ?_
  refine g_icmp_ne (tgt := 28) C dX5_challenge_18 (by decide) (fun h5 => ?_) (fun h5 => ?_)
  · refine g_aload_n C 0 dX5_challenge_21 rfl rfl ?_
    refine g_getIN C o3 8 gcl4 (gSd (gOf_side gc1 h4)).1 (by decide) ((gSd (gOf_side gc1 h4)).2.2.2.1 8 (by decide)) qn296 dX5_challenge_22 ?_
    refine g_if_ne (tgt := 38) C dX5_challenge_25 (by decide) (fun h6 => ?_) (fun h6 => ?_)
    · refine g_loc [] rfl ?_
      exact b_Game_challenge_B28 C hr hnt hl p1 σ2
    · refine g_aload_n C 1 dX5_challenge_38 rfl rfl ?_
      refine g_getR (o' := 15) C 0 2 gcl5 rfl (by decide) rfl qw221 dX5_challenge_39 ?_
      refine g_iconst (v := (1 : Int32)) C dX5_challenge_42 (by decide) ?_
      refine g_iload_n C 2 dX5_challenge_43 rfl rfl ?_
      refine g_isub C dX5_challenge_44 ?_
      refine g_callvi (As := [.int ((1 : Int32) - p1)]) (n := 1) C (c_Rally_isNetNotedOf l hl D cI cJ ad ((1 : Int32) - p1)) ⟨rfl, rfl⟩ gcl1 rfl qc75 (hR := ⟨Nat.le_of_ble_eq_true rfl, Nat.le_of_ble_eq_true rfl⟩) rfl rfl (Nat.le_of_ble_eq_true rfl) dX5_challenge_45 ⟨Nat.zero_le _, Nat.zero_le _⟩ (fun r8 σ7 => ?_)
      refine g_istore_n (L' := [(3, .int r8), (2, .ref (ad o3)), (0, .ref (ad 0)), (1, .int p1)]) C dX5_challenge_48 rfl (by decide) rfl ?_
      refine g_iload_n C 0 dX5_challenge_49 rfl rfl ?_
      refine g_if_eq (tgt := 85) C dX5_challenge_50 (by decide) (fun h9 => ?_) (fun h9 => ?_)
      · refine g_aload_n C 1 dX5_challenge_85 rfl rfl ?_
        refine g_dup C dX5_challenge_86 rfl ?_
        refine g_getIN C o3 8 gcl4 (gSd (gOf_side gc1 h4)).1 (by decide) ((gSd (gOf_side gc1 h4)).2.2.2.1 8 (by decide)) qn296 dX5_challenge_87 ?_
        refine g_iconst (v := (1 : Int32)) C dX5_challenge_90 (by decide) ?_
        refine g_isub C dX5_challenge_91 ?_
        refine g_putIN C o3 8 gcl4 gft4 (gSd (gOf_side gc1 h4)).1 (by decide) ((gSd (gOf_side gc1 h4)).2.2.2.1 8 (by decide)) rfl rfl qn296 dX5_challenge_92 (fun σ10 => ?_)
        refine g_aload_n C 2 dX5_challenge_95 rfl rfl ?_
        refine g_iconst (v := (-1 : Int32)) C dX5_challenge_96 (by decide) ?_
        refine g_putI C 0 6 gcl5 gft5 rfl (by decide) rfl rfl rfl qw197 dX5_challenge_97 (fun σ11 => ?_)
        refine g_iload_n C 0 dX5_challenge_100 rfl rfl ?_
        refine gX_z (fun z12 => ?_)
        exact g_xiretz C z12 hr dX5_challenge_101
      · refine g_aload_n C 2 dX5_challenge_53 rfl rfl ?_
        refine g_getR (o' := 1) C 0 0 gcl5 rfl (by decide) rfl qw166 dX5_challenge_54 ?_
        refine g_aload_n C 2 dX5_challenge_57 rfl rfl ?_
        refine g_getR (o' := 8) C 0 1 gcl5 rfl (by decide) rfl qw243 dX5_challenge_58 ?_
        refine g_callvv (As := [.ref (ad 8)]) (n := 1) C (c_Court_copyFrom l hl D cI cJ ad 1 8 gc1 gc8) ⟨rfl, rfl⟩ gcl0 rfl qc60 (hR := ⟨Nat.le_of_ble_eq_true rfl, Nat.le_of_ble_eq_true rfl⟩) rfl rfl (Nat.le_of_ble_eq_true rfl) dX5_challenge_61 ⟨Nat.zero_le _, Nat.zero_le _⟩ (fun σ13 => ?_)
        refine g_aload_n C 2 dX5_challenge_64 rfl rfl ?_
        refine g_getR (o' := 16) C 0 3 gcl5 rfl (by decide) rfl qw199 dX5_challenge_65 ?_
        refine g_aload_n C 2 dX5_challenge_68 rfl rfl ?_
        refine g_getI C 0 5 gcl5 rfl (by decide) rfl qw249 dX5_challenge_69 ?_
        refine g_callvv (As := [.int (σ13 0 5)]) (n := 1) C (c_Sheet_cutTo l hl D cI cJ ad (σ13 0 5)) ⟨rfl, rfl⟩ gcl3 rfl qc51 (hR := ⟨Nat.le_of_ble_eq_true rfl, Nat.le_of_ble_eq_true rfl⟩) rfl rfl (Nat.le_of_ble_eq_true rfl) dX5_challenge_72 ⟨Nat.zero_le _, Nat.zero_le _⟩ (fun σ14 => ?_)
        refine g_aload_n C 2 dX5_challenge_75 rfl rfl ?_
        refine g_iload_n C 3 dX5_challenge_76 rfl rfl ?_
        refine g_bipush (v := (8 : Int32)) C dX5_challenge_77 (by decide) ?_
        refine g_callvv (As := [.int p1, .int (8 : Int32)]) (n := 2) C (c_Game_endRally l hl D cI cJ ad p1 (8 : Int32)) ⟨rfl, rfl⟩ gcl5 rfl qc67 (hR := ⟨Nat.le_of_ble_eq_true rfl, Nat.le_of_ble_eq_true rfl⟩) rfl rfl (Nat.le_of_ble_eq_true rfl) dX5_challenge_79 ⟨Nat.zero_le _, Nat.zero_le _⟩ (fun σ15 => ?_)
        refine g_goto (tgt := 95) C dX5_challenge_82 (by decide) ?_
        refine g_aload_n C 2 dX5_challenge_95 rfl rfl ?_
        refine g_iconst (v := (-1 : Int32)) C dX5_challenge_96 (by decide) ?_
        refine g_putI C 0 6 gcl5 gft5 rfl (by decide) rfl rfl rfl qw197 dX5_challenge_97 (fun σ16 => ?_)
        refine g_iload_n C 0 dX5_challenge_100 rfl rfl ?_
        refine gX_z (fun z17 => ?_)
        exact g_xiretz C z17 hr dX5_challenge_101
  · refine g_loc [] rfl ?_
    exact b_Game_challenge_B28 C hr hnt hl p1 σ2

def F_Game_points (p1 : Int32) (σ : gSt) : Option (Int32 × Int32 × gSt) := gbx (F_Game_checkTeam p1 σ) fun σ1 => gbr (F_Court_sideOf 1 p1 σ1) fun o3 σ2 => some ((0 : Int32), (σ2 o3 4), σ2)

set_option maxHeartbeats 4000000 in
set_option maxRecDepth 100000 in
theorem c_Game_points (l : Launch) (hl : l.stackTraces = false) (D : va_G) (cI cJ : ClassId) (ad : Nat → Nat) (p1 : Int32) : gMxi l D cI cJ ad yX5_points cX5_points 2 (some .int) { frames := 7, cells := 1, slots := 6, locals := 102 } [.ref (ad 0), .int p1] (F_Game_points p1) := by
  refine gStartXi (L0 := [(0, .ref (ad 0)), (1, .int p1)]) RX5 (by decide) rfl rfl (Nat.le_of_ble_eq_true rfl) ?_
  intro p e s m args below meth c sz σ q C hr hnt
  unfold F_Game_points
  refine g_iload_n C 1 dX5_points_0 rfl rfl ?_
  refine g_callsx (As := [.int p1]) (n := 1) C hnt (c_Game_checkTeam l hl D cI cJ ad p1) ⟨rfl, rfl⟩ qc41 (hR := ⟨Nat.le_of_ble_eq_true rfl, Nat.le_of_ble_eq_true rfl⟩) rfl rfl (Nat.le_of_ble_eq_true rfl) dX5_points_1 ⟨Nat.le_refl _, Nat.le_refl _⟩ (fun σ1 => ?_)
  refine g_aload_n C 0 dX5_points_4 rfl rfl ?_
  refine g_getR (o' := 1) C 0 0 gcl5 rfl (by decide) rfl qw166 dX5_points_5 ?_
  refine g_iload_n C 1 dX5_points_8 rfl rfl ?_
  refine g_callvr (As := [.int p1]) (n := 1) C (c_Court_sideOf l hl D cI cJ ad 1 p1 gc1) ⟨rfl, rfl⟩ gcl0 rfl qc45 (hR := ⟨Nat.le_of_ble_eq_true rfl, Nat.le_of_ble_eq_true rfl⟩) rfl rfl (Nat.le_of_ble_eq_true rfl) dX5_points_9 ⟨Nat.zero_le _, Nat.zero_le _⟩ (fun o3 σ2 h4 => ?_)
  refine g_getIN C o3 4 gcl4 (gSd (gOf_side gc1 h4)).1 (by decide) ((gSd (gOf_side gc1 h4)).2.2.2.1 4 (by decide)) qn301 dX5_points_12 ?_
  exact g_xireti C hr dX5_points_15

def F_Game_pointsAnew (p1 : Int32) (σ : gSt) : Option (Int32 × Int32 × gSt) := gbx (F_Game_checkTeam p1 σ) fun σ1 => gbv (F_Reader_read σ1) fun σ2 => gbr (F_Court_sideOf 19 p1 σ2) fun o4 σ3 => some ((0 : Int32), (σ3 o4 4), σ3)

set_option maxHeartbeats 4000000 in
set_option maxRecDepth 100000 in
theorem c_Game_pointsAnew (l : Launch) (hl : l.stackTraces = false) (D : va_G) (cI cJ : ClassId) (ad : Nat → Nat) (p1 : Int32) : gMxi l D cI cJ ad yX5_pointsAnew cX5_pointsAnew 2 (some .int) { frames := 7, cells := 1, slots := 6, locals := 158 } [.ref (ad 0), .int p1] (F_Game_pointsAnew p1) := by
  refine gStartXi (L0 := [(0, .ref (ad 0)), (1, .int p1)]) RX5 (by decide) rfl rfl (Nat.le_of_ble_eq_true rfl) ?_
  intro p e s m args below meth c sz σ q C hr hnt
  unfold F_Game_pointsAnew
  refine g_iload_n C 1 dX5_pointsAnew_0 rfl rfl ?_
  refine g_callsx (As := [.int p1]) (n := 1) C hnt (c_Game_checkTeam l hl D cI cJ ad p1) ⟨rfl, rfl⟩ qc41 (hR := ⟨Nat.le_of_ble_eq_true rfl, Nat.le_of_ble_eq_true rfl⟩) rfl rfl (Nat.le_of_ble_eq_true rfl) dX5_pointsAnew_1 ⟨Nat.le_refl _, Nat.le_refl _⟩ (fun σ1 => ?_)
  refine g_aload_n C 0 dX5_pointsAnew_4 rfl rfl ?_
  refine g_getR (o' := 18) C 0 4 gcl5 rfl (by decide) rfl qw302 dX5_pointsAnew_5 ?_
  refine g_aload_n C 0 dX5_pointsAnew_8 rfl rfl ?_
  refine g_getR (o' := 16) C 0 3 gcl5 rfl (by decide) rfl qw199 dX5_pointsAnew_9 ?_
  refine g_callvv (As := [.ref (ad 16)]) (n := 1) C (c_Reader_read l hl D cI cJ ad) ⟨rfl, rfl⟩ gcl2 rfl qc76 (hR := ⟨Nat.le_of_ble_eq_true rfl, Nat.le_of_ble_eq_true rfl⟩) rfl rfl (Nat.le_of_ble_eq_true rfl) dX5_pointsAnew_12 ⟨Nat.zero_le _, Nat.zero_le _⟩ (fun σ2 => ?_)
  refine g_aload_n C 0 dX5_pointsAnew_15 rfl rfl ?_
  refine g_getR (o' := 18) C 0 4 gcl5 rfl (by decide) rfl qw302 dX5_pointsAnew_16 ?_
  refine g_getRN (o' := 19) C 18 0 gcl2 rfl (by decide) rfl qn307 dX5_pointsAnew_19 ?_
  refine g_iload_n C 1 dX5_pointsAnew_22 rfl rfl ?_
  refine g_callvr (As := [.int p1]) (n := 1) C (c_Court_sideOf l hl D cI cJ ad 19 p1 gc19) ⟨rfl, rfl⟩ gcl0 rfl qc45 (hR := ⟨Nat.le_of_ble_eq_true rfl, Nat.le_of_ble_eq_true rfl⟩) rfl rfl (Nat.le_of_ble_eq_true rfl) dX5_pointsAnew_23 ⟨Nat.zero_le _, Nat.zero_le _⟩ (fun o4 σ3 h5 => ?_)
  refine g_getIN C o4 4 gcl4 (gSd (gOf_side gc19 h5)).1 (by decide) ((gSd (gOf_side gc19 h5)).2.2.2.1 4 (by decide)) qn301 dX5_pointsAnew_26 ?_
  exact g_xireti C hr dX5_pointsAnew_29

def F_Game_sets (p1 : Int32) (σ : gSt) : Option (Int32 × Int32 × gSt) := gbx (F_Game_checkTeam p1 σ) fun σ1 => gbr (F_Court_sideOf 1 p1 σ1) fun o3 σ2 => some ((0 : Int32), (σ2 o3 5), σ2)

set_option maxHeartbeats 4000000 in
set_option maxRecDepth 100000 in
theorem c_Game_sets (l : Launch) (hl : l.stackTraces = false) (D : va_G) (cI cJ : ClassId) (ad : Nat → Nat) (p1 : Int32) : gMxi l D cI cJ ad yX5_sets cX5_sets 2 (some .int) { frames := 7, cells := 1, slots := 6, locals := 102 } [.ref (ad 0), .int p1] (F_Game_sets p1) := by
  refine gStartXi (L0 := [(0, .ref (ad 0)), (1, .int p1)]) RX5 (by decide) rfl rfl (Nat.le_of_ble_eq_true rfl) ?_
  intro p e s m args below meth c sz σ q C hr hnt
  unfold F_Game_sets
  refine g_iload_n C 1 dX5_sets_0 rfl rfl ?_
  refine g_callsx (As := [.int p1]) (n := 1) C hnt (c_Game_checkTeam l hl D cI cJ ad p1) ⟨rfl, rfl⟩ qc41 (hR := ⟨Nat.le_of_ble_eq_true rfl, Nat.le_of_ble_eq_true rfl⟩) rfl rfl (Nat.le_of_ble_eq_true rfl) dX5_sets_1 ⟨Nat.le_refl _, Nat.le_refl _⟩ (fun σ1 => ?_)
  refine g_aload_n C 0 dX5_sets_4 rfl rfl ?_
  refine g_getR (o' := 1) C 0 0 gcl5 rfl (by decide) rfl qw166 dX5_sets_5 ?_
  refine g_iload_n C 1 dX5_sets_8 rfl rfl ?_
  refine g_callvr (As := [.int p1]) (n := 1) C (c_Court_sideOf l hl D cI cJ ad 1 p1 gc1) ⟨rfl, rfl⟩ gcl0 rfl qc45 (hR := ⟨Nat.le_of_ble_eq_true rfl, Nat.le_of_ble_eq_true rfl⟩) rfl rfl (Nat.le_of_ble_eq_true rfl) dX5_sets_9 ⟨Nat.zero_le _, Nat.zero_le _⟩ (fun o3 σ2 h4 => ?_)
  refine g_getIN C o3 5 gcl4 (gSd (gOf_side gc1 h4)).1 (by decide) ((gSd (gOf_side gc1 h4)).2.2.2.1 5 (by decide)) qn308 dX5_sets_12 ?_
  exact g_xireti C hr dX5_sets_15

def F_Game_at (p1 : Int32) (p2 : Int32) (σ : gSt) : Option (Int32 × Int32 × gSt) := gbx (F_Game_checkTeam p1 σ) fun σ1 => gbx (F_Game_checkPlace p2 σ1) fun σ2 => gbr (F_Court_sideOf 1 p1 σ2) fun o4 σ3 => gbi (F_Side_shirtIn o4 p2 σ3) fun r7 σ6 => some ((0 : Int32), r7, σ6)

set_option maxHeartbeats 4000000 in
set_option maxRecDepth 100000 in
theorem c_Game_at (l : Launch) (hl : l.stackTraces = false) (D : va_G) (cI cJ : ClassId) (ad : Nat → Nat) (p1 : Int32) (p2 : Int32) : gMxi l D cI cJ ad yX5_at cX5_at 3 (some .int) { frames := 7, cells := 1, slots := 6, locals := 102 } [.ref (ad 0), .int p1, .int p2] (F_Game_at p1 p2) := by
  refine gStartXi (L0 := [(0, .ref (ad 0)), (1, .int p1), (2, .int p2)]) RX5 (by decide) rfl rfl (Nat.le_of_ble_eq_true rfl) ?_
  intro p e s m args below meth c sz σ q C hr hnt
  unfold F_Game_at
  refine g_iload_n C 1 dX5_at_0 rfl rfl ?_
  refine g_callsx (As := [.int p1]) (n := 1) C hnt (c_Game_checkTeam l hl D cI cJ ad p1) ⟨rfl, rfl⟩ qc41 (hR := ⟨Nat.le_of_ble_eq_true rfl, Nat.le_of_ble_eq_true rfl⟩) rfl rfl (Nat.le_of_ble_eq_true rfl) dX5_at_1 ⟨Nat.le_refl _, Nat.le_refl _⟩ (fun σ1 => ?_)
  refine g_iload_n C 2 dX5_at_4 rfl rfl ?_
  refine g_callsx (As := [.int p2]) (n := 1) C hnt (c_Game_checkPlace l hl D cI cJ ad p2) ⟨rfl, rfl⟩ qc42 (hR := ⟨Nat.le_of_ble_eq_true rfl, Nat.le_of_ble_eq_true rfl⟩) rfl rfl (Nat.le_of_ble_eq_true rfl) dX5_at_5 ⟨Nat.le_refl _, Nat.le_refl _⟩ (fun σ2 => ?_)
  refine g_aload_n C 0 dX5_at_8 rfl rfl ?_
  refine g_getR (o' := 1) C 0 0 gcl5 rfl (by decide) rfl qw166 dX5_at_9 ?_
  refine g_iload_n C 1 dX5_at_12 rfl rfl ?_
  refine g_callvr (As := [.int p1]) (n := 1) C (c_Court_sideOf l hl D cI cJ ad 1 p1 gc1) ⟨rfl, rfl⟩ gcl0 rfl qc45 (hR := ⟨Nat.le_of_ble_eq_true rfl, Nat.le_of_ble_eq_true rfl⟩) rfl rfl (Nat.le_of_ble_eq_true rfl) dX5_at_13 ⟨Nat.zero_le _, Nat.zero_le _⟩ (fun o4 σ3 h5 => ?_)
  refine g_iload_n C 2 dX5_at_16 rfl rfl ?_
  refine g_callvi (As := [.int p2]) (n := 1) C (c_Side_shirtIn l hl D cI cJ ad o4 p2 (gOf_side gc1 h5)) ⟨rfl, rfl⟩ gcl4 (gSd (gOf_side gc1 h5)).1 qc46 (hR := ⟨Nat.le_of_ble_eq_true rfl, Nat.le_of_ble_eq_true rfl⟩) rfl rfl (Nat.le_of_ble_eq_true rfl) dX5_at_17 ⟨Nat.zero_le _, Nat.zero_le _⟩ (fun r7 σ6 => ?_)
  exact g_xireti C hr dX5_at_20

def F_Game_atAnew (p1 : Int32) (p2 : Int32) (σ : gSt) : Option (Int32 × Int32 × gSt) := gbx (F_Game_checkTeam p1 σ) fun σ1 => gbx (F_Game_checkPlace p2 σ1) fun σ2 => gbi (F_Court_isSetOn 1 σ2) fun r4 σ3 => if r4 = (0 : Int32) then (some ((0 : Int32), (-1 : Int32), σ3)) else (gbv (F_Reader_read σ3) fun σ6 => gbr (F_Court_sideOf 19 p1 σ6) fun o8 σ7 => gbi (F_Side_shirtIn o8 p2 σ7) fun r11 σ10 => some ((0 : Int32), r11, σ10))

set_option maxHeartbeats 4000000 in
set_option maxRecDepth 100000 in
theorem c_Game_atAnew (l : Launch) (hl : l.stackTraces = false) (D : va_G) (cI cJ : ClassId) (ad : Nat → Nat) (p1 : Int32) (p2 : Int32) : gMxi l D cI cJ ad yX5_atAnew cX5_atAnew 3 (some .int) { frames := 7, cells := 1, slots := 6, locals := 158 } [.ref (ad 0), .int p1, .int p2] (F_Game_atAnew p1 p2) := by
  refine gStartXi (L0 := [(0, .ref (ad 0)), (1, .int p1), (2, .int p2)]) RX5 (by decide) rfl rfl (Nat.le_of_ble_eq_true rfl) ?_
  intro p e s m args below meth c sz σ q C hr hnt
  unfold F_Game_atAnew
  refine g_iload_n C 1 dX5_atAnew_0 rfl rfl ?_
  refine g_callsx (As := [.int p1]) (n := 1) C hnt (c_Game_checkTeam l hl D cI cJ ad p1) ⟨rfl, rfl⟩ qc41 (hR := ⟨Nat.le_of_ble_eq_true rfl, Nat.le_of_ble_eq_true rfl⟩) rfl rfl (Nat.le_of_ble_eq_true rfl) dX5_atAnew_1 ⟨Nat.le_refl _, Nat.le_refl _⟩ (fun σ1 => ?_)
  refine g_iload_n C 2 dX5_atAnew_4 rfl rfl ?_
  refine g_callsx (As := [.int p2]) (n := 1) C hnt (c_Game_checkPlace l hl D cI cJ ad p2) ⟨rfl, rfl⟩ qc42 (hR := ⟨Nat.le_of_ble_eq_true rfl, Nat.le_of_ble_eq_true rfl⟩) rfl rfl (Nat.le_of_ble_eq_true rfl) dX5_atAnew_5 ⟨Nat.le_refl _, Nat.le_refl _⟩ (fun σ2 => ?_)
  refine g_aload_n C 0 dX5_atAnew_8 rfl rfl ?_
  refine g_getR (o' := 1) C 0 0 gcl5 rfl (by decide) rfl qw166 dX5_atAnew_9 ?_
  refine g_callvi (As := []) (n := 0) C (c_Court_isSetOn l hl D cI cJ ad 1 gc1) ⟨rfl, rfl⟩ gcl0 rfl qc39 (hR := ⟨Nat.le_of_ble_eq_true rfl, Nat.le_of_ble_eq_true rfl⟩) rfl rfl (Nat.le_of_ble_eq_true rfl) dX5_atAnew_12 ⟨Nat.zero_le _, Nat.zero_le _⟩ (fun r4 σ3 => ?_)
  refine g_if_ne (tgt := 20) C dX5_atAnew_15 (by decide) (fun h5 => ?_) (fun h5 => ?_)
  · refine g_iconst (v := (-1 : Int32)) C dX5_atAnew_18 (by decide) ?_
    exact g_xireti C hr dX5_atAnew_19
  · refine g_aload_n C 0 dX5_atAnew_20 rfl rfl ?_
    refine g_getR (o' := 18) C 0 4 gcl5 rfl (by decide) rfl qw302 dX5_atAnew_21 ?_
    refine g_aload_n C 0 dX5_atAnew_24 rfl rfl ?_
    refine g_getR (o' := 16) C 0 3 gcl5 rfl (by decide) rfl qw199 dX5_atAnew_25 ?_
    refine g_callvv (As := [.ref (ad 16)]) (n := 1) C (c_Reader_read l hl D cI cJ ad) ⟨rfl, rfl⟩ gcl2 rfl qc76 (hR := ⟨Nat.le_of_ble_eq_true rfl, Nat.le_of_ble_eq_true rfl⟩) rfl rfl (Nat.le_of_ble_eq_true rfl) dX5_atAnew_28 ⟨Nat.zero_le _, Nat.zero_le _⟩ (fun σ6 => ?_)
    refine g_aload_n C 0 dX5_atAnew_31 rfl rfl ?_
    refine g_getR (o' := 18) C 0 4 gcl5 rfl (by decide) rfl qw302 dX5_atAnew_32 ?_
    refine g_getRN (o' := 19) C 18 0 gcl2 rfl (by decide) rfl qn307 dX5_atAnew_35 ?_
    refine g_iload_n C 1 dX5_atAnew_38 rfl rfl ?_
    refine g_callvr (As := [.int p1]) (n := 1) C (c_Court_sideOf l hl D cI cJ ad 19 p1 gc19) ⟨rfl, rfl⟩ gcl0 rfl qc45 (hR := ⟨Nat.le_of_ble_eq_true rfl, Nat.le_of_ble_eq_true rfl⟩) rfl rfl (Nat.le_of_ble_eq_true rfl) dX5_atAnew_39 ⟨Nat.zero_le _, Nat.zero_le _⟩ (fun o8 σ7 h9 => ?_)
    refine g_iload_n C 2 dX5_atAnew_42 rfl rfl ?_
    refine g_callvi (As := [.int p2]) (n := 1) C (c_Side_shirtIn l hl D cI cJ ad o8 p2 (gOf_side gc19 h9)) ⟨rfl, rfl⟩ gcl4 (gSd (gOf_side gc19 h9)).1 qc46 (hR := ⟨Nat.le_of_ble_eq_true rfl, Nat.le_of_ble_eq_true rfl⟩) rfl rfl (Nat.le_of_ble_eq_true rfl) dX5_atAnew_43 ⟨Nat.zero_le _, Nat.zero_le _⟩ (fun r11 σ10 => ?_)
    exact g_xireti C hr dX5_atAnew_46

def F_Game_about (p1 : Int32) (σ : gSt) : Option (Int32 × Int32 × gSt) := if p1 = (0 : Int32) then (gbi (F_Court_isSetOn 1 σ) fun r3 σ2 => if r3 = (0 : Int32) then (some ((0 : Int32), (0 : Int32), σ2)) else (some ((0 : Int32), (1 : Int32), σ2))) else if p1 = (1 : Int32) then (if (σ 15 0) = (0 : Int32) then (some ((0 : Int32), (0 : Int32), σ)) else (some ((0 : Int32), (1 : Int32), σ))) else if p1 = (2 : Int32) then (some ((0 : Int32), (σ 1 2), σ)) else if p1 = (3 : Int32) then (some ((0 : Int32), (σ 0 7), σ)) else if p1 = (4 : Int32) then (if (σ 15 0) = (0 : Int32) then (some ((0 : Int32), (-1 : Int32), σ)) else (some ((0 : Int32), (σ 15 2), σ))) else (some ((2 : Int32), (0 : Int32), σ))

set_option maxHeartbeats 4000000 in
set_option maxRecDepth 100000 in
theorem c_Game_about (l : Launch) (hl : l.stackTraces = false) (D : va_G) (cI cJ : ClassId) (ad : Nat → Nat) (p1 : Int32) : gMxi l D cI cJ ad yX5_about cX5_about 2 (some .int) { frames := 6, cells := 1, slots := 6, locals := 82 } [.ref (ad 0), .int p1] (F_Game_about p1) := by
  refine gStartXi (L0 := [(0, .ref (ad 0)), (1, .int p1)]) RX5 (by decide) rfl rfl (Nat.le_of_ble_eq_true rfl) ?_
  intro p e s m args below meth c sz σ q C hr hnt
  unfold F_Game_about
  refine g_iload_n C 1 dX5_about_0 rfl rfl ?_
  refine gX_if (fun h1 => ?_) (fun h1 => ?_)
  · refine g_tswIn (tgt := 36) C dX5_about_1 (0) (by rw [h1]; decide) (by decide) (by decide) rfl (by decide) ?_
    refine g_aload_n C 0 dX5_about_36 rfl rfl ?_
    refine g_getR (o' := 1) C 0 0 gcl5 rfl (by decide) rfl qw166 dX5_about_37 ?_
    refine g_callvi (As := []) (n := 0) C (c_Court_isSetOn l hl D cI cJ ad 1 gc1) ⟨rfl, rfl⟩ gcl0 rfl qc39 (hR := ⟨Nat.le_of_ble_eq_true rfl, Nat.le_of_ble_eq_true rfl⟩) rfl rfl (Nat.le_of_ble_eq_true rfl) dX5_about_40 ⟨Nat.zero_le _, Nat.zero_le _⟩ (fun r3 σ2 => ?_)
    refine g_if_eq (tgt := 50) C dX5_about_43 (by decide) (fun h4 => ?_) (fun h4 => ?_)
    · refine g_iconst (v := (0 : Int32)) C dX5_about_50 (by decide) ?_
      exact g_xireti C hr dX5_about_51
    · refine g_iconst (v := (1 : Int32)) C dX5_about_46 (by decide) ?_
      refine g_goto (tgt := 51) C dX5_about_47 (by decide) ?_
      exact g_xireti C hr dX5_about_51
  · refine gX_if (fun h5 => ?_) (fun h5 => ?_)
    · refine g_tswIn (tgt := 52) C dX5_about_1 (1) (by rw [h5]; decide) (by decide) (by decide) rfl (by decide) ?_
      refine g_aload_n C 0 dX5_about_52 rfl rfl ?_
      refine g_getR (o' := 15) C 0 2 gcl5 rfl (by decide) rfl qw221 dX5_about_53 ?_
      refine g_getIN C 15 0 gcl1 rfl (by decide) rfl qn222 dX5_about_56 ?_
      refine g_if_eq (tgt := 66) C dX5_about_59 (by decide) (fun h6 => ?_) (fun h6 => ?_)
      · refine g_iconst (v := (0 : Int32)) C dX5_about_66 (by decide) ?_
        exact g_xireti C hr dX5_about_67
      · refine g_iconst (v := (1 : Int32)) C dX5_about_62 (by decide) ?_
        refine g_goto (tgt := 67) C dX5_about_63 (by decide) ?_
        exact g_xireti C hr dX5_about_67
    · refine gX_if (fun h7 => ?_) (fun h7 => ?_)
      · refine g_tswIn (tgt := 68) C dX5_about_1 (2) (by rw [h7]; decide) (by decide) (by decide) rfl (by decide) ?_
        refine g_aload_n C 0 dX5_about_68 rfl rfl ?_
        refine g_getR (o' := 1) C 0 0 gcl5 rfl (by decide) rfl qw166 dX5_about_69 ?_
        refine g_getIN C 1 2 gcl0 rfl (by decide) rfl qn227 dX5_about_72 ?_
        exact g_xireti C hr dX5_about_75
      · refine gX_if (fun h8 => ?_) (fun h8 => ?_)
        · refine g_tswIn (tgt := 76) C dX5_about_1 (3) (by rw [h8]; decide) (by decide) (by decide) rfl (by decide) ?_
          refine g_aload_n C 0 dX5_about_76 rfl rfl ?_
          refine g_getI C 0 7 gcl5 rfl (by decide) rfl qw219 dX5_about_77 ?_
          exact g_xireti C hr dX5_about_80
        · refine gX_if (fun h9 => ?_) (fun h9 => ?_)
          · refine g_tswIn (tgt := 81) C dX5_about_1 (4) (by rw [h9]; decide) (by decide) (by decide) rfl (by decide) ?_
            refine g_aload_n C 0 dX5_about_81 rfl rfl ?_
            refine g_getR (o' := 15) C 0 2 gcl5 rfl (by decide) rfl qw221 dX5_about_82 ?_
            refine g_getIN C 15 0 gcl1 rfl (by decide) rfl qn222 dX5_about_85 ?_
            refine g_if_eq (tgt := 101) C dX5_about_88 (by decide) (fun h10 => ?_) (fun h10 => ?_)
            · refine g_iconst (v := (-1 : Int32)) C dX5_about_101 (by decide) ?_
              exact g_xireti C hr dX5_about_102
            · refine g_aload_n C 0 dX5_about_91 rfl rfl ?_
              refine g_getR (o' := 15) C 0 2 gcl5 rfl (by decide) rfl qw221 dX5_about_92 ?_
              refine g_getIN C 15 2 gcl1 rfl (by decide) rfl qn309 dX5_about_95 ?_
              refine g_goto (tgt := 102) C dX5_about_98 (by decide) ?_
              exact g_xireti C hr dX5_about_102
          · refine g_tswOut (tgt := 103) C dX5_about_1 (by have t0 := lv_neT h1 (show ((0 : Int32)).toInt = 0 by decide); have t1 := lv_neT h5 (show ((1 : Int32)).toInt = 1 by decide); have t2 := lv_neT h7 (show ((2 : Int32)).toInt = 2 by decide); have t3 := lv_neT h8 (show ((3 : Int32)).toInt = 3 by decide); have t4 := lv_neT h9 (show ((4 : Int32)).toInt = 4 by decide); omega) (by decide) ?_
            exact g_throw (text := "nothing is told about this") (names := ["java/lang/RuntimeException", "java/lang/Exception"]) C hl hnt (2) (by decide) (by decide) (by decide) (by decide) qw255 qw256 (by decide) qt3 dX5_about_103 dX5_about_106 dX5_about_107 dX5_about_109 dX5_about_112 (Nat.le_of_ble_eq_true rfl) (Nat.le_of_ble_eq_true rfl) ⟨Nat.le_refl _, Nat.le_refl _⟩

def F_Game_of_B13 (p1 : Int32) (p2 : Int32) (σ : gSt) : Option (Int32 × Int32 × gSt) := some ((2 : Int32), (0 : Int32), σ)

def F_Game_of (p1 : Int32) (p2 : Int32) (σ : gSt) : Option (Int32 × Int32 × gSt) := gbx (F_Game_checkTeam p1 σ) fun σ1 => if p2 < (0 : Int32) then (F_Game_of_B13 p1 p2 σ1) else (if p2 ≤ (1 : Int32) then (gbr (F_Court_sideOf 1 p1 σ1) fun o5 σ4 => if p2 = (0 : Int32) then (some ((0 : Int32), (σ4 o5 7), σ4)) else (some ((0 : Int32), (σ4 o5 8), σ4))) else (F_Game_of_B13 p1 p2 σ1))

set_option maxHeartbeats 4000000 in
set_option maxRecDepth 100000 in
theorem b_Game_of_B13 {p : Program} {l : Launch} {e : Env} {s : State} {m : MethodId} {args : Array Value} {below : List Frame} {meth : Method} {c : Code} {D : va_G} {cI cJ : ClassId} {ad : Nat → Nat} {sz : Nat} {q : Int32 × Int32 × gSt} (C : gC p s m args meth c D cI cJ ad (gA ad sz) cX5_of 4 RX5) (hr : meth.sig.returnType = (some .int)) (hnt : ∀ x ∈ c.exceptionTable.toList, False) (hl : l.stackTraces = false) (p1 : Int32) (p2 : Int32) (σ : gSt) : gX (F_Game_of_B13 p1 p2 σ) q (gG p l e { frames := 7, cells := 1, slots := 6, locals := 102 } s m args below meth c D cI cJ ad (gA ad sz) 4 0 0 (vz_MQ below (gQi D cI cJ ad (gA ad sz) q) (gXC D cI cJ ad s.heap.size (gA ad sz) q) args s 1 6 (gA ad sz)) σ 13 [] []) := by
  unfold F_Game_of_B13
  exact g_throw (text := "nothing is told of this") (names := ["java/lang/RuntimeException", "java/lang/Exception"]) C hl hnt (2) (by decide) (by decide) (by decide) (by decide) qw255 qw256 (by decide) qt3 dX5_of_13 dX5_of_16 dX5_of_17 dX5_of_19 dX5_of_22 (Nat.le_of_ble_eq_true rfl) (Nat.le_of_ble_eq_true rfl) ⟨Nat.le_refl _, Nat.le_refl _⟩

set_option maxHeartbeats 4000000 in
set_option maxRecDepth 100000 in
theorem c_Game_of (l : Launch) (hl : l.stackTraces = false) (D : va_G) (cI cJ : ClassId) (ad : Nat → Nat) (p1 : Int32) (p2 : Int32) : gMxi l D cI cJ ad yX5_of cX5_of 4 (some .int) { frames := 7, cells := 1, slots := 6, locals := 102 } [.ref (ad 0), .int p1, .int p2] (F_Game_of p1 p2) := by
  refine gStartXi (L0 := [(0, .ref (ad 0)), (1, .int p1), (2, .int p2)]) RX5 (by decide) rfl rfl (Nat.le_of_ble_eq_true rfl) ?_
  intro p e s m args below meth c sz σ q C hr hnt
  unfold F_Game_of
  refine g_iload_n C 1 dX5_of_0 rfl rfl ?_
  refine g_callsx (As := [.int p1]) (n := 1) C hnt (c_Game_checkTeam l hl D cI cJ ad p1) ⟨rfl, rfl⟩ qc41 (hR := ⟨Nat.le_of_ble_eq_true rfl, Nat.le_of_ble_eq_true rfl⟩) rfl rfl (Nat.le_of_ble_eq_true rfl) dX5_of_1 ⟨Nat.le_refl _, Nat.le_refl _⟩ (fun σ1 => ?_)
  refine g_iload_n C 2 dX5_of_4 rfl rfl ?_
  refine g_if_lt (tgt := 13) C dX5_of_5 (by decide) (fun h2 => ?_) (fun h2 => ?_)
  · refine g_loc [] rfl ?_
    exact b_Game_of_B13 C hr hnt hl p1 p2 σ1
  · refine g_iload_n C 2 dX5_of_8 rfl rfl ?_
    refine g_iconst (v := (1 : Int32)) C dX5_of_9 (by decide) ?_
    refine g_icmp_le (tgt := 23) C dX5_of_10 (by decide) (fun h3 => ?_) (fun h3 => ?_)
    · refine g_aload_n C 0 dX5_of_23 rfl rfl ?_
      refine g_getR (o' := 1) C 0 0 gcl5 rfl (by decide) rfl qw166 dX5_of_24 ?_
      refine g_iload_n C 1 dX5_of_27 rfl rfl ?_
      refine g_callvr (As := [.int p1]) (n := 1) C (c_Court_sideOf l hl D cI cJ ad 1 p1 gc1) ⟨rfl, rfl⟩ gcl0 rfl qc45 (hR := ⟨Nat.le_of_ble_eq_true rfl, Nat.le_of_ble_eq_true rfl⟩) rfl rfl (Nat.le_of_ble_eq_true rfl) dX5_of_28 ⟨Nat.zero_le _, Nat.zero_le _⟩ (fun o5 σ4 h6 => ?_)
      refine g_astore_n (L' := [(3, .ref (ad o5)), (0, .ref (ad 0)), (1, .int p1), (2, .int p2)]) C dX5_of_31 rfl (by decide) rfl ?_
      refine g_iload_n C 3 dX5_of_32 rfl rfl ?_
      refine g_if_ne (tgt := 43) C dX5_of_33 (by decide) (fun h7 => ?_) (fun h7 => ?_)
      · refine g_aload_n C 0 dX5_of_36 rfl rfl ?_
        refine g_getIN C o5 7 gcl4 (gSd (gOf_side gc1 h6)).1 (by decide) ((gSd (gOf_side gc1 h6)).2.2.2.1 7 (by decide)) qn295 dX5_of_37 ?_
        refine g_goto (tgt := 47) C dX5_of_40 (by decide) ?_
        exact g_xireti C hr dX5_of_47
      · refine g_aload_n C 0 dX5_of_43 rfl rfl ?_
        refine g_getIN C o5 8 gcl4 (gSd (gOf_side gc1 h6)).1 (by decide) ((gSd (gOf_side gc1 h6)).2.2.2.1 8 (by decide)) qn296 dX5_of_44 ?_
        exact g_xireti C hr dX5_of_47
    · refine g_loc [] rfl ?_
      exact b_Game_of_B13 C hr hnt hl p1 p2 σ1

def F_Game_lost_B14 (p1 : Int32) (p2 : Int32) (σ : gSt) : Option (Int32 × Int32 × gSt) := some ((2 : Int32), (0 : Int32), σ)

def F_Game_lost (p1 : Int32) (p2 : Int32) (σ : gSt) : Option (Int32 × Int32 × gSt) := gbx (F_Game_checkTeam p1 σ) fun σ1 => if p2 < (0 : Int32) then (F_Game_lost_B14 p1 p2 σ1) else (if p2 < (6 : Int32) then (gbv (F_Reader_read σ1) fun σ4 => gbi (F_Reader_lostBy p1 p2 σ4) fun r6 σ5 => some ((0 : Int32), r6, σ5)) else (F_Game_lost_B14 p1 p2 σ1))

set_option maxHeartbeats 4000000 in
set_option maxRecDepth 100000 in
theorem b_Game_lost_B14 {p : Program} {l : Launch} {e : Env} {s : State} {m : MethodId} {args : Array Value} {below : List Frame} {meth : Method} {c : Code} {D : va_G} {cI cJ : ClassId} {ad : Nat → Nat} {sz : Nat} {q : Int32 × Int32 × gSt} (C : gC p s m args meth c D cI cJ ad (gA ad sz) cX5_lost 3 RX5) (hr : meth.sig.returnType = (some .int)) (hnt : ∀ x ∈ c.exceptionTable.toList, False) (hl : l.stackTraces = false) (p1 : Int32) (p2 : Int32) (σ : gSt) : gX (F_Game_lost_B14 p1 p2 σ) q (gG p l e { frames := 7, cells := 1, slots := 6, locals := 158 } s m args below meth c D cI cJ ad (gA ad sz) 3 0 0 (vz_MQ below (gQi D cI cJ ad (gA ad sz) q) (gXC D cI cJ ad s.heap.size (gA ad sz) q) args s 1 6 (gA ad sz)) σ 14 [] []) := by
  unfold F_Game_lost_B14
  exact g_throw (text := "no such remainder") (names := ["java/lang/RuntimeException", "java/lang/Exception"]) C hl hnt (2) (by decide) (by decide) (by decide) (by decide) qw255 qw256 (by decide) qt3 dX5_lost_14 dX5_lost_17 dX5_lost_18 dX5_lost_20 dX5_lost_23 (Nat.le_of_ble_eq_true rfl) (Nat.le_of_ble_eq_true rfl) ⟨Nat.le_refl _, Nat.le_refl _⟩

set_option maxHeartbeats 4000000 in
set_option maxRecDepth 100000 in
theorem c_Game_lost (l : Launch) (hl : l.stackTraces = false) (D : va_G) (cI cJ : ClassId) (ad : Nat → Nat) (p1 : Int32) (p2 : Int32) : gMxi l D cI cJ ad yX5_lost cX5_lost 3 (some .int) { frames := 7, cells := 1, slots := 6, locals := 158 } [.ref (ad 0), .int p1, .int p2] (F_Game_lost p1 p2) := by
  refine gStartXi (L0 := [(0, .ref (ad 0)), (1, .int p1), (2, .int p2)]) RX5 (by decide) rfl rfl (Nat.le_of_ble_eq_true rfl) ?_
  intro p e s m args below meth c sz σ q C hr hnt
  unfold F_Game_lost
  refine g_iload_n C 1 dX5_lost_0 rfl rfl ?_
  refine g_callsx (As := [.int p1]) (n := 1) C hnt (c_Game_checkTeam l hl D cI cJ ad p1) ⟨rfl, rfl⟩ qc41 (hR := ⟨Nat.le_of_ble_eq_true rfl, Nat.le_of_ble_eq_true rfl⟩) rfl rfl (Nat.le_of_ble_eq_true rfl) dX5_lost_1 ⟨Nat.le_refl _, Nat.le_refl _⟩ (fun σ1 => ?_)
  refine g_iload_n C 2 dX5_lost_4 rfl rfl ?_
  refine g_if_lt (tgt := 14) C dX5_lost_5 (by decide) (fun h2 => ?_) (fun h2 => ?_)
  · refine g_loc [] rfl ?_
    exact b_Game_lost_B14 C hr hnt hl p1 p2 σ1
  · refine g_iload_n C 2 dX5_lost_8 rfl rfl ?_
    refine g_bipush (v := (6 : Int32)) C dX5_lost_9 (by decide) ?_
    refine g_icmp_lt (tgt := 24) C dX5_lost_11 (by decide) (fun h3 => ?_) (fun h3 => ?_)
    · refine g_aload_n C 0 dX5_lost_24 rfl rfl ?_
      refine g_getR (o' := 18) C 0 4 gcl5 rfl (by decide) rfl qw302 dX5_lost_25 ?_
      refine g_aload_n C 0 dX5_lost_28 rfl rfl ?_
      refine g_getR (o' := 16) C 0 3 gcl5 rfl (by decide) rfl qw199 dX5_lost_29 ?_
      refine g_callvv (As := [.ref (ad 16)]) (n := 1) C (c_Reader_read l hl D cI cJ ad) ⟨rfl, rfl⟩ gcl2 rfl qc76 (hR := ⟨Nat.le_of_ble_eq_true rfl, Nat.le_of_ble_eq_true rfl⟩) rfl rfl (Nat.le_of_ble_eq_true rfl) dX5_lost_32 ⟨Nat.zero_le _, Nat.zero_le _⟩ (fun σ4 => ?_)
      refine g_aload_n C 0 dX5_lost_35 rfl rfl ?_
      refine g_getR (o' := 18) C 0 4 gcl5 rfl (by decide) rfl qw302 dX5_lost_36 ?_
      refine g_iload_n C 1 dX5_lost_39 rfl rfl ?_
      refine g_iload_n C 2 dX5_lost_40 rfl rfl ?_
      refine g_callvi (As := [.int p1, .int p2]) (n := 2) C (c_Reader_lostBy l hl D cI cJ ad p1 p2) ⟨rfl, rfl⟩ gcl2 rfl qc77 (hR := ⟨Nat.le_of_ble_eq_true rfl, Nat.le_of_ble_eq_true rfl⟩) rfl rfl (Nat.le_of_ble_eq_true rfl) dX5_lost_41 ⟨Nat.zero_le _, Nat.zero_le _⟩ (fun r6 σ5 => ?_)
      exact g_xireti C hr dX5_lost_44
    · refine g_loc [] rfl ?_
      exact b_Game_lost_B14 C hr hnt hl p1 p2 σ1
