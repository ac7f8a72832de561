def F_Court_sideOf (k : Nat) (p1 : Int32) (σ : gSt) : Option (Nat × gSt) := if p1 = (1 : Int32) then (some ((k + 4), σ)) else (some ((k + 1), σ))

set_option maxHeartbeats 4000000 in
set_option maxRecDepth 100000 in
theorem c_Court_sideOf (l : Launch) (hl : l.stackTraces = false) (D : va_G) (cI cJ : ClassId) (ad : Nat → Nat) (k : Nat) (p1 : Int32) (hk : gIsCourt k) : gMr l D cI cJ ad yX0_sideOf cX0_sideOf 2 (some (.object "Rotationary$Side")) { frames := 0, cells := 0, slots := 0, locals := 0 } [.ref (ad k), .int p1] (F_Court_sideOf k p1) := by
  refine gStartR (L0 := [(0, .ref (ad k)), (1, .int p1)]) RX0 (by decide) rfl rfl (Nat.le_of_ble_eq_true rfl) ?_
  intro p e s m args below meth c sz σ r σ' C hr
  unfold F_Court_sideOf
  refine g_iload_n C 1 dX0_sideOf_0 rfl rfl ?_
  refine g_iconst (v := (1 : Int32)) C dX0_sideOf_1 (by decide) ?_
  refine g_icmp_ne (tgt := 12) C dX0_sideOf_2 (by decide) (fun h1 => ?_) (fun h1 => ?_)
  · refine g_aload_n C 0 dX0_sideOf_5 rfl rfl ?_
    refine g_getR (o' := (k + 4)) C k 1 gcl0 (gCt hk).1 (by decide) (gCt hk).2.2.1 qw1 dX0_sideOf_6 ?_
    refine g_goto (tgt := 16) C dX0_sideOf_9 (by decide) ?_
    exact g_areto C hr (by first | exact Or.inl ⟨_, rfl⟩ | exact Or.inr ⟨_, rfl⟩) dX0_sideOf_16
  · refine g_aload_n C 0 dX0_sideOf_12 rfl rfl ?_
    refine g_getR (o' := (k + 1)) C k 0 gcl0 (gCt hk).1 (by decide) (gCt hk).2.1 qw2 dX0_sideOf_13 ?_
    exact g_areto C hr (by first | exact Or.inl ⟨_, rfl⟩ | exact Or.inr ⟨_, rfl⟩) dX0_sideOf_16

theorem gOf_side {k : Nat} {t : Int32} {σ : gSt} {o : Nat} {σ' : gSt} (hk : gIsCourt k) (h : F_Court_sideOf k t σ = some (o, σ')) : gIsSide o := by
  unfold F_Court_sideOf at h
  split at h
  · cases h; first | exact (gCt hk).2.2.2.2.2 | exact (gCt hk).2.2.2.2.1
  · cases h; first | exact (gCt hk).2.2.2.2.1 | exact (gCt hk).2.2.2.2.2

def F_Court_isSetOn (k : Nat) (σ : gSt) : Option (Int32 × gSt) := if (σ k 2) = (-1 : Int32) then (some ((0 : Int32), σ)) else (some ((1 : Int32), σ))

set_option maxHeartbeats 4000000 in
set_option maxRecDepth 100000 in
theorem c_Court_isSetOn (l : Launch) (hl : l.stackTraces = false) (D : va_G) (cI cJ : ClassId) (ad : Nat → Nat) (k : Nat) (hk : gIsCourt k) : gMi l D cI cJ ad yX0_isSetOn cX0_isSetOn 1 (some .boolean) { frames := 0, cells := 0, slots := 0, locals := 0 } [.ref (ad k)] (F_Court_isSetOn k) := by
  refine gStartI (L0 := [(0, .ref (ad k))]) RX0 (by decide) rfl rfl (Nat.le_of_ble_eq_true rfl) ?_
  intro p e s m args below meth c sz σ r σ' C hr
  unfold F_Court_isSetOn
  refine g_aload_n C 0 dX0_isSetOn_0 rfl rfl ?_
  refine g_getI C k 2 gcl0 (gCt hk).1 (by decide) ((gCt hk).2.2.2.1 2 (by decide)) qw3 dX0_isSetOn_1 ?_
  refine g_iconst (v := (-1 : Int32)) C dX0_isSetOn_4 (by decide) ?_
  refine g_icmp_eq (tgt := 12) C dX0_isSetOn_5 (by decide) (fun h1 => ?_) (fun h1 => ?_)
  · refine g_iconst (v := (0 : Int32)) C dX0_isSetOn_12 (by decide) ?_
    exact g_iretz C (by decide) hr dX0_isSetOn_13
  · refine g_iconst (v := (1 : Int32)) C dX0_isSetOn_8 (by decide) ?_
    refine g_goto (tgt := 13) C dX0_isSetOn_9 (by decide) ?_
    exact g_iretz C (by decide) hr dX0_isSetOn_13

def F_Court_isMatchOver (k : Nat) (σ : gSt) : Option (Int32 × gSt) := if (σ (k + 1) 5) = (3 : Int32) then (some ((1 : Int32), σ)) else (if (σ (k + 4) 5) = (3 : Int32) then (some ((1 : Int32), σ)) else (some ((0 : Int32), σ)))

set_option maxHeartbeats 4000000 in
set_option maxRecDepth 100000 in
theorem c_Court_isMatchOver (l : Launch) (hl : l.stackTraces = false) (D : va_G) (cI cJ : ClassId) (ad : Nat → Nat) (k : Nat) (hk : gIsCourt k) : gMi l D cI cJ ad yX0_isMatchOver cX0_isMatchOver 1 (some .boolean) { frames := 0, cells := 0, slots := 0, locals := 0 } [.ref (ad k)] (F_Court_isMatchOver k) := by
  refine gStartI (L0 := [(0, .ref (ad k))]) RX0 (by decide) rfl rfl (Nat.le_of_ble_eq_true rfl) ?_
  intro p e s m args below meth c sz σ r σ' C hr
  unfold F_Court_isMatchOver
  refine g_aload_n C 0 dX0_isMatchOver_0 rfl rfl ?_
  refine g_getR (o' := (k + 1)) C k 0 gcl0 (gCt hk).1 (by decide) (gCt hk).2.1 qw2 dX0_isMatchOver_1 ?_
  refine g_getIN C (k + 1) 5 gcl4 (gSd (gCt hk).2.2.2.2.1).1 (by decide) ((gSd (gCt hk).2.2.2.2.1).2.2.2.1 5 (by decide)) qn4 dX0_isMatchOver_4 ?_
  refine g_iconst (v := (3 : Int32)) C dX0_isMatchOver_7 (by decide) ?_
  refine g_icmp_eq (tgt := 22) C dX0_isMatchOver_8 (by decide) (fun h1 => ?_) (fun h1 => ?_)
  · refine g_iconst (v := (1 : Int32)) C dX0_isMatchOver_22 (by decide) ?_
    refine g_goto (tgt := 27) C dX0_isMatchOver_23 (by decide) ?_
    exact g_iretz C (by decide) hr dX0_isMatchOver_27
  · refine g_aload_n C 0 dX0_isMatchOver_11 rfl rfl ?_
    refine g_getR (o' := (k + 4)) C k 1 gcl0 (gCt hk).1 (by decide) (gCt hk).2.2.1 qw1 dX0_isMatchOver_12 ?_
    refine g_getIN C (k + 4) 5 gcl4 (gSd (gCt hk).2.2.2.2.2).1 (by decide) ((gSd (gCt hk).2.2.2.2.2).2.2.2.1 5 (by decide)) qn4 dX0_isMatchOver_15 ?_
    refine g_iconst (v := (3 : Int32)) C dX0_isMatchOver_18 (by decide) ?_
    refine g_icmp_ne (tgt := 26) C dX0_isMatchOver_19 (by decide) (fun h2 => ?_) (fun h2 => ?_)
    · refine g_iconst (v := (1 : Int32)) C dX0_isMatchOver_22 (by decide) ?_
      refine g_goto (tgt := 27) C dX0_isMatchOver_23 (by decide) ?_
      exact g_iretz C (by decide) hr dX0_isMatchOver_27
    · refine g_iconst (v := (0 : Int32)) C dX0_isMatchOver_26 (by decide) ?_
      exact g_iretz C (by decide) hr dX0_isMatchOver_27

def F_Court_setsPlayed (k : Nat) (σ : gSt) : Option (Int32 × gSt) := some (((σ (k + 1) 5) + (σ (k + 4) 5)), σ)

set_option maxHeartbeats 4000000 in
set_option maxRecDepth 100000 in
theorem c_Court_setsPlayed (l : Launch) (hl : l.stackTraces = false) (D : va_G) (cI cJ : ClassId) (ad : Nat → Nat) (k : Nat) (hk : gIsCourt k) : gMi l D cI cJ ad yX0_setsPlayed cX0_setsPlayed 1 (some .int) { frames := 0, cells := 0, slots := 0, locals := 0 } [.ref (ad k)] (F_Court_setsPlayed k) := by
  refine gStartI (L0 := [(0, .ref (ad k))]) RX0 (by decide) rfl rfl (Nat.le_of_ble_eq_true rfl) ?_
  intro p e s m args below meth c sz σ r σ' C hr
  unfold F_Court_setsPlayed
  refine g_aload_n C 0 dX0_setsPlayed_0 rfl rfl ?_
  refine g_getR (o' := (k + 1)) C k 0 gcl0 (gCt hk).1 (by decide) (gCt hk).2.1 qw2 dX0_setsPlayed_1 ?_
  refine g_getIN C (k + 1) 5 gcl4 (gSd (gCt hk).2.2.2.2.1).1 (by decide) ((gSd (gCt hk).2.2.2.2.1).2.2.2.1 5 (by decide)) qn4 dX0_setsPlayed_4 ?_
  refine g_aload_n C 0 dX0_setsPlayed_7 rfl rfl ?_
  refine g_getR (o' := (k + 4)) C k 1 gcl0 (gCt hk).1 (by decide) (gCt hk).2.2.1 qw1 dX0_setsPlayed_8 ?_
  refine g_getIN C (k + 4) 5 gcl4 (gSd (gCt hk).2.2.2.2.2).1 (by decide) ((gSd (gCt hk).2.2.2.2.2).2.2.2.1 5 (by decide)) qn4 dX0_setsPlayed_11 ?_
  refine g_iadd C dX0_setsPlayed_14 ?_
  exact g_ireti C hr dX0_setsPlayed_15

def F_Court_startSet (k : Nat) (p1 : Int32) (σ : gSt) : Option gSt := gbv (F_Side_startSet (k + 1) σ) fun σ1 => gbv (F_Side_startSet (k + 4) σ1) fun σ2 => gl (gup σ2 k 2 p1) fun σ3 => gl (gup σ3 k 3 (-1 : Int32)) fun σ4 => some σ4

set_option maxHeartbeats 4000000 in
set_option maxRecDepth 100000 in
theorem c_Court_startSet (l : Launch) (hl : l.stackTraces = false) (D : va_G) (cI cJ : ClassId) (ad : Nat → Nat) (k : Nat) (p1 : Int32) (hk : gIsCourt k) : gMv l D cI cJ ad yX0_startSet cX0_startSet 2 none { frames := 2, cells := 0, slots := 0, locals := 43 } [.ref (ad k), .int p1] (F_Court_startSet k p1) := by
  refine gStartV (L0 := [(0, .ref (ad k)), (1, .int p1)]) RX0 (by decide) rfl rfl (Nat.le_of_ble_eq_true rfl) ?_
  intro p e s m args below meth c sz σ σ' C hr
  unfold F_Court_startSet
  refine g_aload_n C 0 dX0_startSet_0 rfl rfl ?_
  refine g_getR (o' := (k + 1)) C k 0 gcl0 (gCt hk).1 (by decide) (gCt hk).2.1 qw2 dX0_startSet_1 ?_
  refine g_callvv (As := []) (n := 0) C (c_Side_startSet l hl D cI cJ ad (k + 1) (gCt hk).2.2.2.2.1) ⟨rfl, rfl⟩ gcl4 (gSd (gCt hk).2.2.2.2.1).1 qc2 (hR := ⟨Nat.le_of_ble_eq_true rfl, Nat.le_of_ble_eq_true rfl⟩) rfl rfl (Nat.le_of_ble_eq_true rfl) dX0_startSet_4 ⟨Nat.zero_le _, Nat.zero_le _⟩ (fun σ1 => ?_)
  refine g_aload_n C 0 dX0_startSet_7 rfl rfl ?_
  refine g_getR (o' := (k + 4)) C k 1 gcl0 (gCt hk).1 (by decide) (gCt hk).2.2.1 qw1 dX0_startSet_8 ?_
  refine g_callvv (As := []) (n := 0) C (c_Side_startSet l hl D cI cJ ad (k + 4) (gCt hk).2.2.2.2.2) ⟨rfl, rfl⟩ gcl4 (gSd (gCt hk).2.2.2.2.2).1 qc2 (hR := ⟨Nat.le_of_ble_eq_true rfl, Nat.le_of_ble_eq_true rfl⟩) rfl rfl (Nat.le_of_ble_eq_true rfl) dX0_startSet_11 ⟨Nat.zero_le _, Nat.zero_le _⟩ (fun σ2 => ?_)
  refine g_aload_n C 0 dX0_startSet_14 rfl rfl ?_
  refine g_iload_n C 1 dX0_startSet_15 rfl rfl ?_
  refine g_putI C k 2 gcl0 gft0 (gCt hk).1 (by decide) ((gCt hk).2.2.2.1 2 (by decide)) rfl rfl qw3 dX0_startSet_16 (fun σ3 => ?_)
  refine g_aload_n C 0 dX0_startSet_19 rfl rfl ?_
  refine g_iconst (v := (-1 : Int32)) C dX0_startSet_20 (by decide) ?_
  refine g_putI C k 3 gcl0 gft0 (gCt hk).1 (by decide) ((gCt hk).2.2.2.1 3 (by decide)) rfl rfl qw20 dX0_startSet_21 (fun σ4 => ?_)
  exact g_retv C hr dX0_startSet_24

def F_Court_takeService_B44 (k : Nat) (p1 : Int32) (l3 : Int32) (σ : gSt) : Option (Int32 × gSt) := gl (gup σ (k + 1) 9 (0 : Int32)) fun σ1 => gl (gup σ1 (k + 4) 9 (0 : Int32)) fun σ2 => if l3 = 0 ∨ l3 = 1 then some (l3, σ2) else none

def F_Court_takeService_B23 (k : Nat) (p1 : Int32) (l2 : Nat) (s0 : Int32) (σ : gSt) : Option (Int32 × gSt) := if s0 = (0 : Int32) then (if (σ k 3) = (-1 : Int32) then (gl (gup σ k 3 (σ l2 4)) fun σ3 => F_Court_takeService_B44 k p1 s0 σ3) else (F_Court_takeService_B44 k p1 s0 σ)) else (F_Court_takeService_B44 k p1 s0 σ)

def F_Court_takeService (k : Nat) (p1 : Int32) (σ : gSt) : Option (Int32 × gSt) := gbr (F_Court_sideOf k (σ k 2) σ) fun o2 σ1 => gbi (F_Side_shirtIn o2 (1 : Int32) σ1) fun r5 σ4 => if r5 = p1 then (F_Court_takeService_B23 k p1 o2 (1 : Int32) σ4) else (F_Court_takeService_B23 k p1 o2 (0 : Int32) σ4)

set_option maxHeartbeats 4000000 in
set_option maxRecDepth 100000 in
theorem b_Court_takeService_B44 {p : Program} {l : Launch} {e : Env} {s : State} {m : MethodId} {args : Array Value} {below : List Frame} {meth : Method} {c : Code} {D : va_G} {cI cJ : ClassId} {ad : Nat → Nat} {sz : Nat} {r : Int32} {σ' : gSt} (C : gC p s m args meth c D cI cJ ad (gA ad sz) cX0_takeService 4 RX0) (hr : meth.sig.returnType = (some .boolean)) (hl : l.stackTraces = false) (k : Nat) (p1 : Int32) (hk : gIsCourt k) (l3 : Int32) (σ : gSt) : gX (F_Court_takeService_B44 k p1 l3 σ) (r, σ') (gG p l e { frames := 2, cells := 0, slots := 0, locals := 42 } s m args below meth c D cI cJ ad (gA ad sz) 4 0 0 (MQ below (va_Qi (fun r1 (_ : Unit) => r1 = r) (fun _ t => va_P D vwCl (gw cI cJ ad σ') t.heap) (gA ad sz)) args s 0 0 (gA ad sz)) σ 44 [(0, .ref (ad k)), (3, .int l3)] []) := by
  unfold F_Court_takeService_B44
  refine g_aload_n C 0 dX0_takeService_44 rfl rfl ?_
  refine g_getR (o' := (k + 1)) C k 0 gcl0 (gCt hk).1 (by decide) (gCt hk).2.1 qw2 dX0_takeService_45 ?_
  refine g_iconst (v := (0 : Int32)) C dX0_takeService_48 (by decide) ?_
  refine g_putZN C (k + 1) 9 (by decide) gcl4 gft4 (gSd (gCt hk).2.2.2.2.1).1 (by decide) ((gSd (gCt hk).2.2.2.2.1).2.2.2.1 9 (by decide)) rfl rfl qn36 dX0_takeService_49 (fun σ1 => ?_)
  refine g_aload_n C 0 dX0_takeService_52 rfl rfl ?_
  refine g_getR (o' := (k + 4)) C k 1 gcl0 (gCt hk).1 (by decide) (gCt hk).2.2.1 qw1 dX0_takeService_53 ?_
  refine g_iconst (v := (0 : Int32)) C dX0_takeService_56 (by decide) ?_
  refine g_putZN C (k + 4) 9 (by decide) gcl4 gft4 (gSd (gCt hk).2.2.2.2.2).1 (by decide) ((gSd (gCt hk).2.2.2.2.2).2.2.2.1 9 (by decide)) rfl rfl qn36 dX0_takeService_57 (fun σ2 => ?_)
  refine g_iload_n C 1 dX0_takeService_60 rfl rfl ?_
  refine gX_z (fun z3 => ?_)
  exact g_iretz C z3 hr dX0_takeService_61

set_option maxHeartbeats 4000000 in
set_option maxRecDepth 100000 in
theorem b_Court_takeService_B23 {p : Program} {l : Launch} {e : Env} {s : State} {m : MethodId} {args : Array Value} {below : List Frame} {meth : Method} {c : Code} {D : va_G} {cI cJ : ClassId} {ad : Nat → Nat} {sz : Nat} {r : Int32} {σ' : gSt} (C : gC p s m args meth c D cI cJ ad (gA ad sz) cX0_takeService 4 RX0) (hr : meth.sig.returnType = (some .boolean)) (hl : l.stackTraces = false) (k : Nat) (p1 : Int32) (hk : gIsCourt k) (l2 : Nat) (s0 : Int32) (hl2 : gIsSide l2) (σ : gSt) : gX (F_Court_takeService_B23 k p1 l2 s0 σ) (r, σ') (gG p l e { frames := 2, cells := 0, slots := 0, locals := 42 } s m args below meth c D cI cJ ad (gA ad sz) 4 0 0 (MQ below (va_Qi (fun r1 (_ : Unit) => r1 = r) (fun _ t => va_P D vwCl (gw cI cJ ad σ') t.heap) (gA ad sz)) args s 0 0 (gA ad sz)) σ 23 [(0, .ref (ad k)), (2, .ref (ad l2))] [.int s0]) := by
  unfold F_Court_takeService_B23
  refine g_istore_n (L' := [(3, .int s0), (0, .ref (ad k)), (2, .ref (ad l2))]) C dX0_takeService_23 rfl (by decide) rfl ?_
  refine g_iload_n C 0 dX0_takeService_24 rfl rfl ?_
  refine g_if_ne (tgt := 44) C dX0_takeService_25 (by decide) (fun h1 => ?_) (fun h1 => ?_)
  · refine g_aload_n C 1 dX0_takeService_28 rfl rfl ?_
    refine g_getI C k 3 gcl0 (gCt hk).1 (by decide) ((gCt hk).2.2.2.1 3 (by decide)) qw20 dX0_takeService_29 ?_
    refine g_iconst (v := (-1 : Int32)) C dX0_takeService_32 (by decide) ?_
    refine g_icmp_ne (tgt := 44) C dX0_takeService_33 (by decide) (fun h2 => ?_) (fun h2 => ?_)
    · refine g_aload_n C 1 dX0_takeService_36 rfl rfl ?_
      refine g_aload_n C 2 dX0_takeService_37 rfl rfl ?_
      refine g_getIN C l2 4 gcl4 (gSd hl2).1 (by decide) ((gSd hl2).2.2.2.1 4 (by decide)) qn35 dX0_takeService_38 ?_
      refine g_putI C k 3 gcl0 gft0 (gCt hk).1 (by decide) ((gCt hk).2.2.2.1 3 (by decide)) rfl rfl qw20 dX0_takeService_41 (fun σ3 => ?_)
      refine g_loc [1, 0] rfl ?_
      exact b_Court_takeService_B44 C hr hl k p1 hk s0 σ3
    · refine g_loc [1, 0] rfl ?_
      exact b_Court_takeService_B44 C hr hl k p1 hk s0 σ
  · refine g_loc [1, 0] rfl ?_
    exact b_Court_takeService_B44 C hr hl k p1 hk s0 σ

set_option maxHeartbeats 4000000 in
set_option maxRecDepth 100000 in
theorem c_Court_takeService (l : Launch) (hl : l.stackTraces = false) (D : va_G) (cI cJ : ClassId) (ad : Nat → Nat) (k : Nat) (p1 : Int32) (hk : gIsCourt k) : gMi l D cI cJ ad yX0_takeService cX0_takeService 4 (some .boolean) { frames := 2, cells := 0, slots := 0, locals := 42 } [.ref (ad k), .int p1] (F_Court_takeService k p1) := by
  refine gStartI (L0 := [(0, .ref (ad k)), (1, .int p1)]) RX0 (by decide) rfl rfl (Nat.le_of_ble_eq_true rfl) ?_
  intro p e s m args below meth c sz σ r σ' C hr
  unfold F_Court_takeService
  refine g_aload_n C 0 dX0_takeService_0 rfl rfl ?_
  refine g_aload_n C 0 dX0_takeService_1 rfl rfl ?_
  refine g_getI C k 2 gcl0 (gCt hk).1 (by decide) ((gCt hk).2.2.2.1 2 (by decide)) qw3 dX0_takeService_2 ?_
  refine g_callvr (As := [.int (σ k 2)]) (n := 1) C (c_Court_sideOf l hl D cI cJ ad k (σ k 2) hk) ⟨rfl, rfl⟩ gcl0 (gCt hk).1 qc4 (hR := ⟨Nat.le_of_ble_eq_true rfl, Nat.le_of_ble_eq_true rfl⟩) rfl rfl (Nat.le_of_ble_eq_true rfl) dX0_takeService_5 ⟨Nat.zero_le _, Nat.zero_le _⟩ (fun o2 σ1 h3 => ?_)
  refine g_astore_n (L' := [(2, .ref (ad o2)), (0, .ref (ad k)), (1, .int p1)]) C dX0_takeService_8 rfl (by decide) rfl ?_
  refine g_aload_n C 0 dX0_takeService_9 rfl rfl ?_
  refine g_iconst (v := (1 : Int32)) C dX0_takeService_10 (by decide) ?_
  refine g_callvi (As := [.int (1 : Int32)]) (n := 1) C (c_Side_shirtIn l hl D cI cJ ad o2 (1 : Int32) (gOf_side hk h3)) ⟨rfl, rfl⟩ gcl4 (gSd (gOf_side hk h3)).1 qc5 (hR := ⟨Nat.le_of_ble_eq_true rfl, Nat.le_of_ble_eq_true rfl⟩) rfl rfl (Nat.le_of_ble_eq_true rfl) dX0_takeService_11 ⟨Nat.zero_le _, Nat.zero_le _⟩ (fun r5 σ4 => ?_)
  refine g_iload_n C 2 dX0_takeService_14 rfl rfl ?_
  refine g_icmp_ne (tgt := 22) C dX0_takeService_15 (by decide) (fun h6 => ?_) (fun h6 => ?_)
  · refine g_iconst (v := (1 : Int32)) C dX0_takeService_18 (by decide) ?_
    refine g_goto (tgt := 23) C dX0_takeService_19 (by decide) ?_
    refine g_loc [1, 0] rfl ?_
    exact b_Court_takeService_B23 C hr hl k p1 hk o2 (1 : Int32) (gOf_side hk h3) σ4
  · refine g_iconst (v := (0 : Int32)) C dX0_takeService_22 (by decide) ?_
    refine g_loc [1, 0] rfl ?_
    exact b_Court_takeService_B23 C hr hl k p1 hk o2 (0 : Int32) (gOf_side hk h3) σ4

def F_Court_givePoint (k : Nat) (p1 : Int32) (σ : gSt) : Option gSt := gbr (F_Court_sideOf k p1 σ) fun o2 σ1 => gl (gup σ1 o2 4 ((σ1 o2 4) + (1 : Int32))) fun σ4 => if (σ4 k 2) = p1 then (some σ4) else (gl (gup σ4 k 2 p1) fun σ6 => gl (gup σ6 k 3 (-1 : Int32)) fun σ7 => gbv (F_Side_rotate o2 σ7) fun σ8 => some σ8)

set_option maxHeartbeats 4000000 in
set_option maxRecDepth 100000 in
theorem c_Court_givePoint (l : Launch) (hl : l.stackTraces = false) (D : va_G) (cI cJ : ClassId) (ad : Nat → Nat) (k : Nat) (p1 : Int32) (hk : gIsCourt k) : gMv l D cI cJ ad yX0_givePoint cX0_givePoint 3 none { frames := 3, cells := 0, slots := 0, locals := 66 } [.ref (ad k), .int p1] (F_Court_givePoint k p1) := by
  refine gStartV (L0 := [(0, .ref (ad k)), (1, .int p1)]) RX0 (by decide) rfl rfl (Nat.le_of_ble_eq_true rfl) ?_
  intro p e s m args below meth c sz σ σ' C hr
  unfold F_Court_givePoint
  refine g_aload_n C 0 dX0_givePoint_0 rfl rfl ?_
  refine g_iload_n C 1 dX0_givePoint_1 rfl rfl ?_
  refine g_callvr (As := [.int p1]) (n := 1) C (c_Court_sideOf l hl D cI cJ ad k p1 hk) ⟨rfl, rfl⟩ gcl0 (gCt hk).1 qc4 (hR := ⟨Nat.le_of_ble_eq_true rfl, Nat.le_of_ble_eq_true rfl⟩) rfl rfl (Nat.le_of_ble_eq_true rfl) dX0_givePoint_2 ⟨Nat.zero_le _, Nat.zero_le _⟩ (fun o2 σ1 h3 => ?_)
  refine g_astore_n (L' := [(2, .ref (ad o2)), (0, .ref (ad k)), (1, .int p1)]) C dX0_givePoint_5 rfl (by decide) rfl ?_
  refine g_aload_n C 0 dX0_givePoint_6 rfl rfl ?_
  refine g_dup C dX0_givePoint_7 rfl ?_
  refine g_getIN C o2 4 gcl4 (gSd (gOf_side hk h3)).1 (by decide) ((gSd (gOf_side hk h3)).2.2.2.1 4 (by decide)) qn35 dX0_givePoint_8 ?_
  refine g_iconst (v := (1 : Int32)) C dX0_givePoint_11 (by decide) ?_
  refine g_iadd C dX0_givePoint_12 ?_
  refine g_putIN C o2 4 gcl4 gft4 (gSd (gOf_side hk h3)).1 (by decide) ((gSd (gOf_side hk h3)).2.2.2.1 4 (by decide)) rfl rfl qn35 dX0_givePoint_13 (fun σ4 => ?_)
  refine g_aload_n C 1 dX0_givePoint_16 rfl rfl ?_
  refine g_getI C k 2 gcl0 (gCt hk).1 (by decide) ((gCt hk).2.2.2.1 2 (by decide)) qw3 dX0_givePoint_17 ?_
  refine g_iload_n C 2 dX0_givePoint_20 rfl rfl ?_
  refine g_icmp_eq (tgt := 38) C dX0_givePoint_21 (by decide) (fun h5 => ?_) (fun h5 => ?_)
  · exact g_retv C hr dX0_givePoint_38
  · refine g_aload_n C 1 dX0_givePoint_24 rfl rfl ?_
    refine g_iload_n C 2 dX0_givePoint_25 rfl rfl ?_
    refine g_putI C k 2 gcl0 gft0 (gCt hk).1 (by decide) ((gCt hk).2.2.2.1 2 (by decide)) rfl rfl qw3 dX0_givePoint_26 (fun σ6 => ?_)
    refine g_aload_n C 1 dX0_givePoint_29 rfl rfl ?_
    refine g_iconst (v := (-1 : Int32)) C dX0_givePoint_30 (by decide) ?_
    refine g_putI C k 3 gcl0 gft0 (gCt hk).1 (by decide) ((gCt hk).2.2.2.1 3 (by decide)) rfl rfl qw20 dX0_givePoint_31 (fun σ7 => ?_)
    refine g_aload_n C 0 dX0_givePoint_34 rfl rfl ?_
    refine g_callvv (As := []) (n := 0) C (c_Side_rotate l hl D cI cJ ad o2 (gOf_side hk h3)) ⟨rfl, rfl⟩ gcl4 (gSd (gOf_side hk h3)).1 qc9 (hR := ⟨Nat.le_of_ble_eq_true rfl, Nat.le_of_ble_eq_true rfl⟩) rfl rfl (Nat.le_of_ble_eq_true rfl) dX0_givePoint_35 ⟨Nat.zero_le _, Nat.zero_le _⟩ (fun σ8 => ?_)
    exact g_retv C hr dX0_givePoint_38

def F_Court_takeBack (k : Nat) (σ : gSt) : Option (Int32 × gSt) := gbr (F_Court_sideOf k (σ k 2) σ) fun o2 σ1 => gl ((σ1 o2 4) - (σ1 k 3)) fun x4 => gl (gup σ1 o2 4 (σ1 k 3)) fun σ5 => gbv (F_Court_givePoint k ((1 : Int32) - (σ5 k 2)) σ5) fun σ6 => some (x4, σ6)

set_option maxHeartbeats 4000000 in
set_option maxRecDepth 100000 in
theorem c_Court_takeBack (l : Launch) (hl : l.stackTraces = false) (D : va_G) (cI cJ : ClassId) (ad : Nat → Nat) (k : Nat) (hk : gIsCourt k) : gMi l D cI cJ ad yX0_takeBack cX0_takeBack 3 (some .int) { frames := 4, cells := 0, slots := 0, locals := 88 } [.ref (ad k)] (F_Court_takeBack k) := by
  refine gStartI (L0 := [(0, .ref (ad k))]) RX0 (by decide) rfl rfl (Nat.le_of_ble_eq_true rfl) ?_
  intro p e s m args below meth c sz σ r σ' C hr
  unfold F_Court_takeBack
  refine g_aload_n C 0 dX0_takeBack_0 rfl rfl ?_
  refine g_aload_n C 0 dX0_takeBack_1 rfl rfl ?_
  refine g_getI C k 2 gcl0 (gCt hk).1 (by decide) ((gCt hk).2.2.2.1 2 (by decide)) qw3 dX0_takeBack_2 ?_
  refine g_callvr (As := [.int (σ k 2)]) (n := 1) C (c_Court_sideOf l hl D cI cJ ad k (σ k 2) hk) ⟨rfl, rfl⟩ gcl0 (gCt hk).1 qc4 (hR := ⟨Nat.le_of_ble_eq_true rfl, Nat.le_of_ble_eq_true rfl⟩) rfl rfl (Nat.le_of_ble_eq_true rfl) dX0_takeBack_5 ⟨Nat.zero_le _, Nat.zero_le _⟩ (fun o2 σ1 h3 => ?_)
  refine g_astore_n (L' := [(1, .ref (ad o2)), (0, .ref (ad k))]) C dX0_takeBack_8 rfl (by decide) rfl ?_
  refine g_aload_n C 0 dX0_takeBack_9 rfl rfl ?_
  refine g_getIN C o2 4 gcl4 (gSd (gOf_side hk h3)).1 (by decide) ((gSd (gOf_side hk h3)).2.2.2.1 4 (by decide)) qn35 dX0_takeBack_10 ?_
  refine g_aload_n C 1 dX0_takeBack_13 rfl rfl ?_
  refine g_getI C k 3 gcl0 (gCt hk).1 (by decide) ((gCt hk).2.2.2.1 3 (by decide)) qw20 dX0_takeBack_14 ?_
  refine g_isub C dX0_takeBack_17 ?_
  refine g_name ?_; intro x4
  refine g_istore_n (L' := [(2, .int x4), (1, .ref (ad o2)), (0, .ref (ad k))]) C dX0_takeBack_18 rfl (by decide) rfl ?_
  refine g_aload_n C 1 dX0_takeBack_19 rfl rfl ?_
  refine g_aload_n C 2 dX0_takeBack_20 rfl rfl ?_
  refine g_getI C k 3 gcl0 (gCt hk).1 (by decide) ((gCt hk).2.2.2.1 3 (by decide)) qw20 dX0_takeBack_21 ?_
  refine g_putIN C o2 4 gcl4 gft4 (gSd (gOf_side hk h3)).1 (by decide) ((gSd (gOf_side hk h3)).2.2.2.1 4 (by decide)) rfl rfl qn35 dX0_takeBack_24 (fun σ5 => ?_)
  refine g_aload_n C 2 dX0_takeBack_27 rfl rfl ?_
  refine g_iconst (v := (1 : Int32)) C dX0_takeBack_28 (by decide) ?_
  refine g_aload_n C 2 dX0_takeBack_29 rfl rfl ?_
  refine g_getI C k 2 gcl0 (gCt hk).1 (by decide) ((gCt hk).2.2.2.1 2 (by decide)) qw3 dX0_takeBack_30 ?_
  refine g_isub C dX0_takeBack_33 ?_
  refine g_callvv (As := [.int ((1 : Int32) - (σ5 k 2))]) (n := 1) C (c_Court_givePoint l hl D cI cJ ad k ((1 : Int32) - (σ5 k 2)) hk) ⟨rfl, rfl⟩ gcl0 (gCt hk).1 qc10 (hR := ⟨Nat.le_of_ble_eq_true rfl, Nat.le_of_ble_eq_true rfl⟩) rfl rfl (Nat.le_of_ble_eq_true rfl) dX0_takeBack_34 ⟨Nat.zero_le _, Nat.zero_le _⟩ (fun σ6 => ?_)
  refine g_iload_n C 0 dX0_takeBack_37 rfl rfl ?_
  exact g_ireti C hr dX0_takeBack_38

def F_Court_hasWonSet_B15 (k : Nat) (p1 : Int32) (l1 : Int32) (s0 : Int32) (σ : gSt) : Option (Int32 × gSt) := gbr (F_Court_sideOf k l1 σ) fun o2 σ1 => gl (σ1 o2 4) fun x4 => if x4 < s0 then (some ((0 : Int32), σ1)) else (gbr (F_Court_sideOf k ((1 : Int32) - l1) σ1) fun o7 σ6 => if x4 < ((σ6 o7 4) + (2 : Int32)) then (some ((0 : Int32), σ6)) else (some ((1 : Int32), σ6)))

def F_Court_hasWonSet (k : Nat) (p1 : Int32) (σ : gSt) : Option (Int32 × gSt) := gbi (F_Court_setsPlayed k σ) fun r2 σ1 => if r2 = (4 : Int32) then (F_Court_hasWonSet_B15 k p1 p1 (15 : Int32) σ1) else (F_Court_hasWonSet_B15 k p1 p1 (25 : Int32) σ1)

set_option maxHeartbeats 4000000 in
set_option maxRecDepth 100000 in
theorem b_Court_hasWonSet_B15 {p : Program} {l : Launch} {e : Env} {s : State} {m : MethodId} {args : Array Value} {below : List Frame} {meth : Method} {c : Code} {D : va_G} {cI cJ : ClassId} {ad : Nat → Nat} {sz : Nat} {r : Int32} {σ' : gSt} (C : gC p s m args meth c D cI cJ ad (gA ad sz) cX0_hasWonSet 4 RX0) (hr : meth.sig.returnType = (some .boolean)) (hl : l.stackTraces = false) (k : Nat) (p1 : Int32) (hk : gIsCourt k) (l1 : Int32) (s0 : Int32) (σ : gSt) : gX (F_Court_hasWonSet_B15 k p1 l1 s0 σ) (r, σ') (gG p l e { frames := 1, cells := 0, slots := 0, locals := 21 } s m args below meth c D cI cJ ad (gA ad sz) 4 0 0 (MQ below (va_Qi (fun r1 (_ : Unit) => r1 = r) (fun _ t => va_P D vwCl (gw cI cJ ad σ') t.heap) (gA ad sz)) args s 0 0 (gA ad sz)) σ 15 [(0, .ref (ad k)), (1, .int l1)] [.int s0]) := by
  unfold F_Court_hasWonSet_B15
  refine g_istore_n (L' := [(2, .int s0), (0, .ref (ad k)), (1, .int l1)]) C dX0_hasWonSet_15 rfl (by decide) rfl ?_
  refine g_aload_n C 1 dX0_hasWonSet_16 rfl rfl ?_
  refine g_iload_n C 2 dX0_hasWonSet_17 rfl rfl ?_
  refine g_callvr (As := [.int l1]) (n := 1) C (c_Court_sideOf l hl D cI cJ ad k l1 hk) ⟨rfl, rfl⟩ gcl0 (gCt hk).1 qc4 (hR := ⟨Nat.le_of_ble_eq_true rfl, Nat.le_of_ble_eq_true rfl⟩) rfl rfl (Nat.le_of_ble_eq_true rfl) dX0_hasWonSet_18 ⟨Nat.zero_le _, Nat.zero_le _⟩ (fun o2 σ1 h3 => ?_)
  refine g_getIN C o2 4 gcl4 (gSd (gOf_side hk h3)).1 (by decide) ((gSd (gOf_side hk h3)).2.2.2.1 4 (by decide)) qn35 dX0_hasWonSet_21 ?_
  refine g_name ?_; intro x4
  refine g_istore_n (L' := [(3, .int x4), (2, .int s0), (0, .ref (ad k)), (1, .int l1)]) C dX0_hasWonSet_24 rfl (by decide) rfl ?_
  refine g_iload_n C 0 dX0_hasWonSet_25 rfl rfl ?_
  refine g_iload_n C 1 dX0_hasWonSet_26 rfl rfl ?_
  refine g_icmp_lt (tgt := 50) C dX0_hasWonSet_27 (by decide) (fun h5 => ?_) (fun h5 => ?_)
  · refine g_iconst (v := (0 : Int32)) C dX0_hasWonSet_50 (by decide) ?_
    exact g_iretz C (by decide) hr dX0_hasWonSet_51
  · refine g_iload_n C 0 dX0_hasWonSet_30 rfl rfl ?_
    refine g_aload_n C 2 dX0_hasWonSet_31 rfl rfl ?_
    refine g_iconst (v := (1 : Int32)) C dX0_hasWonSet_32 (by decide) ?_
    refine g_iload_n C 3 dX0_hasWonSet_33 rfl rfl ?_
    refine g_isub C dX0_hasWonSet_34 ?_
    refine g_callvr (As := [.int ((1 : Int32) - l1)]) (n := 1) C (c_Court_sideOf l hl D cI cJ ad k ((1 : Int32) - l1) hk) ⟨rfl, rfl⟩ gcl0 (gCt hk).1 qc4 (hR := ⟨Nat.le_of_ble_eq_true rfl, Nat.le_of_ble_eq_true rfl⟩) rfl rfl (Nat.le_of_ble_eq_true rfl) dX0_hasWonSet_35 ⟨Nat.zero_le _, Nat.zero_le _⟩ (fun o7 σ6 h8 => ?_)
    refine g_getIN C o7 4 gcl4 (gSd (gOf_side hk h8)).1 (by decide) ((gSd (gOf_side hk h8)).2.2.2.1 4 (by decide)) qn35 dX0_hasWonSet_38 ?_
    refine g_iconst (v := (2 : Int32)) C dX0_hasWonSet_41 (by decide) ?_
    refine g_iadd C dX0_hasWonSet_42 ?_
    refine g_icmp_lt (tgt := 50) C dX0_hasWonSet_43 (by decide) (fun h9 => ?_) (fun h9 => ?_)
    · refine g_iconst (v := (0 : Int32)) C dX0_hasWonSet_50 (by decide) ?_
      exact g_iretz C (by decide) hr dX0_hasWonSet_51
    · refine g_iconst (v := (1 : Int32)) C dX0_hasWonSet_46 (by decide) ?_
      refine g_goto (tgt := 51) C dX0_hasWonSet_47 (by decide) ?_
      exact g_iretz C (by decide) hr dX0_hasWonSet_51

set_option maxHeartbeats 4000000 in
set_option maxRecDepth 100000 in
theorem c_Court_hasWonSet (l : Launch) (hl : l.stackTraces = false) (D : va_G) (cI cJ : ClassId) (ad : Nat → Nat) (k : Nat) (p1 : Int32) (hk : gIsCourt k) : gMi l D cI cJ ad yX0_hasWonSet cX0_hasWonSet 4 (some .boolean) { frames := 1, cells := 0, slots := 0, locals := 21 } [.ref (ad k), .int p1] (F_Court_hasWonSet k p1) := by
  refine gStartI (L0 := [(0, .ref (ad k)), (1, .int p1)]) RX0 (by decide) rfl rfl (Nat.le_of_ble_eq_true rfl) ?_
  intro p e s m args below meth c sz σ r σ' C hr
  unfold F_Court_hasWonSet
  refine g_aload_n C 0 dX0_hasWonSet_0 rfl rfl ?_
  refine g_callvi (As := []) (n := 0) C (c_Court_setsPlayed l hl D cI cJ ad k hk) ⟨rfl, rfl⟩ gcl0 (gCt hk).1 qc11 (hR := ⟨Nat.le_of_ble_eq_true rfl, Nat.le_of_ble_eq_true rfl⟩) rfl rfl (Nat.le_of_ble_eq_true rfl) dX0_hasWonSet_1 ⟨Nat.zero_le _, Nat.zero_le _⟩ (fun r2 σ1 => ?_)
  refine g_iconst (v := (4 : Int32)) C dX0_hasWonSet_4 (by decide) ?_
  refine g_icmp_ne (tgt := 13) C dX0_hasWonSet_5 (by decide) (fun h3 => ?_) (fun h3 => ?_)
  · refine g_bipush (v := (15 : Int32)) C dX0_hasWonSet_8 (by decide) ?_
    refine g_goto (tgt := 15) C dX0_hasWonSet_10 (by decide) ?_
    refine g_loc [0, 1] rfl ?_
    exact b_Court_hasWonSet_B15 C hr hl k p1 hk p1 (15 : Int32) σ1
  · refine g_bipush (v := (25 : Int32)) C dX0_hasWonSet_13 (by decide) ?_
    refine g_loc [0, 1] rfl ?_
    exact b_Court_hasWonSet_B15 C hr hl k p1 hk p1 (25 : Int32) σ1

def F_Court_endSet (k : Nat) (p1 : Int32) (σ : gSt) : Option gSt := gbr (F_Court_sideOf k p1 σ) fun o2 σ1 => gl (gup σ1 o2 5 ((σ1 o2 5) + (1 : Int32))) fun σ4 => gbv (F_Side_clearOrder (k + 1) σ4) fun σ5 => gbv (F_Side_clearOrder (k + 4) σ5) fun σ6 => gl (gup σ6 k 2 (-1 : Int32)) fun σ7 => gl (gup σ7 k 3 (-1 : Int32)) fun σ8 => some σ8

set_option maxHeartbeats 4000000 in
set_option maxRecDepth 100000 in
theorem c_Court_endSet (l : Launch) (hl : l.stackTraces = false) (D : va_G) (cI cJ : ClassId) (ad : Nat → Nat) (k : Nat) (p1 : Int32) (hk : gIsCourt k) : gMv l D cI cJ ad yX0_endSet cX0_endSet 2 none { frames := 3, cells := 0, slots := 0, locals := 65 } [.ref (ad k), .int p1] (F_Court_endSet k p1) := by
  refine gStartV (L0 := [(0, .ref (ad k)), (1, .int p1)]) RX0 (by decide) rfl rfl (Nat.le_of_ble_eq_true rfl) ?_
  intro p e s m args below meth c sz σ σ' C hr
  unfold F_Court_endSet
  refine g_aload_n C 0 dX0_endSet_0 rfl rfl ?_
  refine g_iload_n C 1 dX0_endSet_1 rfl rfl ?_
  refine g_callvr (As := [.int p1]) (n := 1) C (c_Court_sideOf l hl D cI cJ ad k p1 hk) ⟨rfl, rfl⟩ gcl0 (gCt hk).1 qc4 (hR := ⟨Nat.le_of_ble_eq_true rfl, Nat.le_of_ble_eq_true rfl⟩) rfl rfl (Nat.le_of_ble_eq_true rfl) dX0_endSet_2 ⟨Nat.zero_le _, Nat.zero_le _⟩ (fun o2 σ1 h3 => ?_)
  refine g_dup C dX0_endSet_5 rfl ?_
  refine g_getIN C o2 5 gcl4 (gSd (gOf_side hk h3)).1 (by decide) ((gSd (gOf_side hk h3)).2.2.2.1 5 (by decide)) qn4 dX0_endSet_6 ?_
  refine g_iconst (v := (1 : Int32)) C dX0_endSet_9 (by decide) ?_
  refine g_iadd C dX0_endSet_10 ?_
  refine g_putIN C o2 5 gcl4 gft4 (gSd (gOf_side hk h3)).1 (by decide) ((gSd (gOf_side hk h3)).2.2.2.1 5 (by decide)) rfl rfl qn4 dX0_endSet_11 (fun σ4 => ?_)
  refine g_aload_n C 0 dX0_endSet_14 rfl rfl ?_
  refine g_getR (o' := (k + 1)) C k 0 gcl0 (gCt hk).1 (by decide) (gCt hk).2.1 qw2 dX0_endSet_15 ?_
  refine g_callvv (As := []) (n := 0) C (c_Side_clearOrder l hl D cI cJ ad (k + 1) (gCt hk).2.2.2.2.1) ⟨rfl, rfl⟩ gcl4 (gSd (gCt hk).2.2.2.2.1).1 qc12 (hR := ⟨Nat.le_of_ble_eq_true rfl, Nat.le_of_ble_eq_true rfl⟩) rfl rfl (Nat.le_of_ble_eq_true rfl) dX0_endSet_18 ⟨Nat.zero_le _, Nat.zero_le _⟩ (fun σ5 => ?_)
  refine g_aload_n C 0 dX0_endSet_21 rfl rfl ?_
  refine g_getR (o' := (k + 4)) C k 1 gcl0 (gCt hk).1 (by decide) (gCt hk).2.2.1 qw1 dX0_endSet_22 ?_
  refine g_callvv (As := []) (n := 0) C (c_Side_clearOrder l hl D cI cJ ad (k + 4) (gCt hk).2.2.2.2.2) ⟨rfl, rfl⟩ gcl4 (gSd (gCt hk).2.2.2.2.2).1 qc12 (hR := ⟨Nat.le_of_ble_eq_true rfl, Nat.le_of_ble_eq_true rfl⟩) rfl rfl (Nat.le_of_ble_eq_true rfl) dX0_endSet_25 ⟨Nat.zero_le _, Nat.zero_le _⟩ (fun σ6 => ?_)
  refine g_aload_n C 0 dX0_endSet_28 rfl rfl ?_
  refine g_iconst (v := (-1 : Int32)) C dX0_endSet_29 (by decide) ?_
  refine g_putI C k 2 gcl0 gft0 (gCt hk).1 (by decide) ((gCt hk).2.2.2.1 2 (by decide)) rfl rfl qw3 dX0_endSet_30 (fun σ7 => ?_)
  refine g_aload_n C 0 dX0_endSet_33 rfl rfl ?_
  refine g_iconst (v := (-1 : Int32)) C dX0_endSet_34 (by decide) ?_
  refine g_putI C k 3 gcl0 gft0 (gCt hk).1 (by decide) ((gCt hk).2.2.2.1 3 (by decide)) rfl rfl qw20 dX0_endSet_35 (fun σ8 => ?_)
  exact g_retv C hr dX0_endSet_38

def F_Court_copyFrom (k : Nat) (a1 : Nat) (σ : gSt) : Option gSt := gbv (F_Side_copyFrom (k + 1) (a1 + 1) σ) fun σ1 => gbv (F_Side_copyFrom (k + 4) (a1 + 4) σ1) fun σ2 => gl (gup σ2 k 2 (σ2 a1 2)) fun σ3 => gl (gup σ3 k 3 (σ3 a1 3)) fun σ4 => some σ4

set_option maxHeartbeats 4000000 in
set_option maxRecDepth 100000 in
theorem c_Court_copyFrom (l : Launch) (hl : l.stackTraces = false) (D : va_G) (cI cJ : ClassId) (ad : Nat → Nat) (k : Nat) (a1 : Nat) (hk : gIsCourt k) (ha1 : gIsCourt a1) : gMv l D cI cJ ad yX0_copyFrom cX0_copyFrom 2 none { frames := 3, cells := 0, slots := 0, locals := 66 } [.ref (ad k), .ref (ad a1)] (F_Court_copyFrom k a1) := by
  refine gStartV (L0 := [(0, .ref (ad k)), (1, .ref (ad a1))]) RX0 (by decide) rfl rfl (Nat.le_of_ble_eq_true rfl) ?_
  intro p e s m args below meth c sz σ σ' C hr
  unfold F_Court_copyFrom
  refine g_aload_n C 0 dX0_copyFrom_0 rfl rfl ?_
  refine g_getR (o' := (k + 1)) C k 0 gcl0 (gCt hk).1 (by decide) (gCt hk).2.1 qw2 dX0_copyFrom_1 ?_
  refine g_aload_n C 1 dX0_copyFrom_4 rfl rfl ?_
  refine g_getR (o' := (a1 + 1)) C a1 0 gcl0 (gCt ha1).1 (by decide) (gCt ha1).2.1 qw2 dX0_copyFrom_5 ?_
  refine g_callvv (As := [.ref (ad (a1 + 1))]) (n := 1) C (c_Side_copyFrom l hl D cI cJ ad (k + 1) (a1 + 1) (gCt hk).2.2.2.2.1 (gCt ha1).2.2.2.2.1) ⟨rfl, rfl⟩ gcl4 (gSd (gCt hk).2.2.2.2.1).1 qc13 (hR := ⟨Nat.le_of_ble_eq_true rfl, Nat.le_of_ble_eq_true rfl⟩) rfl rfl (Nat.le_of_ble_eq_true rfl) dX0_copyFrom_8 ⟨Nat.zero_le _, Nat.zero_le _⟩ (fun σ1 => ?_)
  refine g_aload_n C 0 dX0_copyFrom_11 rfl rfl ?_
  refine g_getR (o' := (k + 4)) C k 1 gcl0 (gCt hk).1 (by decide) (gCt hk).2.2.1 qw1 dX0_copyFrom_12 ?_
  refine g_aload_n C 1 dX0_copyFrom_15 rfl rfl ?_
  refine g_getR (o' := (a1 + 4)) C a1 1 gcl0 (gCt ha1).1 (by decide) (gCt ha1).2.2.1 qw1 dX0_copyFrom_16 ?_
  refine g_callvv (As := [.ref (ad (a1 + 4))]) (n := 1) C (c_Side_copyFrom l hl D cI cJ ad (k + 4) (a1 + 4) (gCt hk).2.2.2.2.2 (gCt ha1).2.2.2.2.2) ⟨rfl, rfl⟩ gcl4 (gSd (gCt hk).2.2.2.2.2).1 qc13 (hR := ⟨Nat.le_of_ble_eq_true rfl, Nat.le_of_ble_eq_true rfl⟩) rfl rfl (Nat.le_of_ble_eq_true rfl) dX0_copyFrom_19 ⟨Nat.zero_le _, Nat.zero_le _⟩ (fun σ2 => ?_)
  refine g_aload_n C 0 dX0_copyFrom_22 rfl rfl ?_
  refine g_aload_n C 1 dX0_copyFrom_23 rfl rfl ?_
  refine g_getI C a1 2 gcl0 (gCt ha1).1 (by decide) ((gCt ha1).2.2.2.1 2 (by decide)) qw3 dX0_copyFrom_24 ?_
  refine g_putI C k 2 gcl0 gft0 (gCt hk).1 (by decide) ((gCt hk).2.2.2.1 2 (by decide)) rfl rfl qw3 dX0_copyFrom_27 (fun σ3 => ?_)
  refine g_aload_n C 0 dX0_copyFrom_30 rfl rfl ?_
  refine g_aload_n C 1 dX0_copyFrom_31 rfl rfl ?_
  refine g_getI C a1 3 gcl0 (gCt ha1).1 (by decide) ((gCt ha1).2.2.2.1 3 (by decide)) qw20 dX0_copyFrom_32 ?_
  refine g_putI C k 3 gcl0 gft0 (gCt hk).1 (by decide) ((gCt hk).2.2.2.1 3 (by decide)) rfl rfl qw20 dX0_copyFrom_35 (fun σ4 => ?_)
  exact g_retv C hr dX0_copyFrom_38
