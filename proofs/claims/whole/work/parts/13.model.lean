def F_Model_thrown  (σ : gSt) : Option (Int32 × gSt) := some ((σ 28 2), σ)

set_option maxHeartbeats 4000000 in
set_option maxRecDepth 100000 in
theorem c_Model_thrown (l : Launch) (hl : l.stackTraces = false) (D : va_G) (cI cJ : ClassId) (ad : Nat → Nat) : gMi l D cI cJ ad yX6_thrown cX6_thrown 1 (some .int) { frames := 0, cells := 0, slots := 0, locals := 0 } [.ref (ad 28)] (F_Model_thrown) := by
  refine gStartI (L0 := [(0, .ref (ad 28))]) RX6 (by decide) rfl rfl (Nat.le_of_ble_eq_true rfl) ?_
  intro p e s m args below meth c sz σ r σ' C hr
  unfold F_Model_thrown
  refine g_aload_n C 0 dX6_thrown_0 rfl rfl ?_
  refine g_getI C 28 2 gcl6 rfl (by decide) rfl qw311 dX6_thrown_1 ?_
  exact g_ireti C hr dX6_thrown_4

def F_Model_goes (p1 : Int32) (σ : gSt) : Option (Int32 × gSt) := gl (gup σ 28 2 p1) fun σ1 => if p1 = (0 : Int32) then (some ((1 : Int32), σ1)) else (some ((0 : Int32), σ1))

set_option maxHeartbeats 4000000 in
set_option maxRecDepth 100000 in
theorem c_Model_goes (l : Launch) (hl : l.stackTraces = false) (D : va_G) (cI cJ : ClassId) (ad : Nat → Nat) (p1 : Int32) : gMi l D cI cJ ad yX6_goes cX6_goes 2 (some .boolean) { frames := 0, cells := 0, slots := 0, locals := 0 } [.ref (ad 28), .int p1] (F_Model_goes p1) := by
  refine gStartI (L0 := [(0, .ref (ad 28)), (1, .int p1)]) RX6 (by decide) rfl rfl (Nat.le_of_ble_eq_true rfl) ?_
  intro p e s m args below meth c sz σ r σ' C hr
  unfold F_Model_goes
  refine g_aload_n C 0 dX6_goes_0 rfl rfl ?_
  refine g_iload_n C 1 dX6_goes_1 rfl rfl ?_
  refine g_putI C 28 2 gcl6 gft6 rfl (by decide) rfl rfl rfl qw311 dX6_goes_2 (fun σ1 => ?_)
  refine g_iload_n C 1 dX6_goes_5 rfl rfl ?_
  refine g_if_ne (tgt := 13) C dX6_goes_6 (by decide) (fun h2 => ?_) (fun h2 => ?_)
  · refine g_iconst (v := (1 : Int32)) C dX6_goes_9 (by decide) ?_
    refine g_goto (tgt := 14) C dX6_goes_10 (by decide) ?_
    exact g_iretz C (by decide) hr dX6_goes_14
  · refine g_iconst (v := (0 : Int32)) C dX6_goes_13 (by decide) ?_
    exact g_iretz C (by decide) hr dX6_goes_14

def F_Model_isIn (p1 : Int32) (p2 : Int32) (p3 : Int32) (σ : gSt) : Option (Int32 × gSt) := if p1 < p2 then (some ((0 : Int32), σ)) else (if p3 < p1 then (some ((0 : Int32), σ)) else (some ((1 : Int32), σ)))

set_option maxHeartbeats 4000000 in
set_option maxRecDepth 100000 in
theorem c_Model_isIn (l : Launch) (hl : l.stackTraces = false) (D : va_G) (cI cJ : ClassId) (ad : Nat → Nat) (p1 : Int32) (p2 : Int32) (p3 : Int32) : gMi l D cI cJ ad yX6_isIn cX6_isIn 3 (some .boolean) { frames := 0, cells := 0, slots := 0, locals := 0 } [.int p1, .int p2, .int p3] (F_Model_isIn p1 p2 p3) := by
  refine gStartI (L0 := [(0, .int p1), (1, .int p2), (2, .int p3)]) RX6 (by decide) rfl rfl (Nat.le_of_ble_eq_true rfl) ?_
  intro p e s m args below meth c sz σ r σ' C hr
  unfold F_Model_isIn
  refine g_iload_n C 0 dX6_isIn_0 rfl rfl ?_
  refine g_iload_n C 1 dX6_isIn_1 rfl rfl ?_
  refine g_icmp_lt (tgt := 14) C dX6_isIn_2 (by decide) (fun h1 => ?_) (fun h1 => ?_)
  · refine g_iconst (v := (0 : Int32)) C dX6_isIn_14 (by decide) ?_
    exact g_iretz C (by decide) hr dX6_isIn_15
  · refine g_iload_n C 0 dX6_isIn_5 rfl rfl ?_
    refine g_iload_n C 2 dX6_isIn_6 rfl rfl ?_
    refine g_icmp_gt (tgt := 14) C dX6_isIn_7 (by decide) (fun h2 => ?_) (fun h2 => ?_)
    · refine g_iconst (v := (0 : Int32)) C dX6_isIn_14 (by decide) ?_
      exact g_iretz C (by decide) hr dX6_isIn_15
    · refine g_iconst (v := (1 : Int32)) C dX6_isIn_10 (by decide) ?_
      refine g_goto (tgt := 15) C dX6_isIn_11 (by decide) ?_
      exact g_iretz C (by decide) hr dX6_isIn_15

def F_Model_isTeam (p1 : Int32) (σ : gSt) : Option (Int32 × gSt) := gbi (F_Model_isIn p1 (0 : Int32) (1 : Int32) σ) fun r2 σ1 => if r2 = 0 ∨ r2 = 1 then some (r2, σ1) else none

set_option maxHeartbeats 4000000 in
set_option maxRecDepth 100000 in
theorem c_Model_isTeam (l : Launch) (hl : l.stackTraces = false) (D : va_G) (cI cJ : ClassId) (ad : Nat → Nat) (p1 : Int32) : gMi l D cI cJ ad yX6_isTeam cX6_isTeam 1 (some .boolean) { frames := 1, cells := 0, slots := 0, locals := 22 } [.int p1] (F_Model_isTeam p1) := by
  refine gStartI (L0 := [(0, .int p1)]) RX6 (by decide) rfl rfl (Nat.le_of_ble_eq_true rfl) ?_
  intro p e s m args below meth c sz σ r σ' C hr
  unfold F_Model_isTeam
  refine g_iload_n C 0 dX6_isTeam_0 rfl rfl ?_
  refine g_iconst (v := (0 : Int32)) C dX6_isTeam_1 (by decide) ?_
  refine g_iconst (v := (1 : Int32)) C dX6_isTeam_2 (by decide) ?_
  refine g_callsi (As := [.int p1, .int (0 : Int32), .int (1 : Int32)]) (n := 3) C (c_Model_isIn l hl D cI cJ ad p1 (0 : Int32) (1 : Int32)) ⟨rfl, rfl⟩ qc78 (hR := ⟨Nat.le_of_ble_eq_true rfl, Nat.le_of_ble_eq_true rfl⟩) rfl rfl (Nat.le_of_ble_eq_true rfl) dX6_isTeam_3 ⟨Nat.zero_le _, Nat.zero_le _⟩ (fun r2 σ1 => ?_)
  refine gX_z (fun z3 => ?_)
  exact g_iretz C z3 hr dX6_isTeam_6

def F_Model_isShirt (p1 : Int32) (σ : gSt) : Option (Int32 × gSt) := gbi (F_Model_isIn p1 (1 : Int32) (20 : Int32) σ) fun r2 σ1 => if r2 = 0 ∨ r2 = 1 then some (r2, σ1) else none

set_option maxHeartbeats 4000000 in
set_option maxRecDepth 100000 in
theorem c_Model_isShirt (l : Launch) (hl : l.stackTraces = false) (D : va_G) (cI cJ : ClassId) (ad : Nat → Nat) (p1 : Int32) : gMi l D cI cJ ad yX6_isShirt cX6_isShirt 1 (some .boolean) { frames := 1, cells := 0, slots := 0, locals := 22 } [.int p1] (F_Model_isShirt p1) := by
  refine gStartI (L0 := [(0, .int p1)]) RX6 (by decide) rfl rfl (Nat.le_of_ble_eq_true rfl) ?_
  intro p e s m args below meth c sz σ r σ' C hr
  unfold F_Model_isShirt
  refine g_iload_n C 0 dX6_isShirt_0 rfl rfl ?_
  refine g_iconst (v := (1 : Int32)) C dX6_isShirt_1 (by decide) ?_
  refine g_bipush (v := (20 : Int32)) C dX6_isShirt_2 (by decide) ?_
  refine g_callsi (As := [.int p1, .int (1 : Int32), .int (20 : Int32)]) (n := 3) C (c_Model_isIn l hl D cI cJ ad p1 (1 : Int32) (20 : Int32)) ⟨rfl, rfl⟩ qc78 (hR := ⟨Nat.le_of_ble_eq_true rfl, Nat.le_of_ble_eq_true rfl⟩) rfl rfl (Nat.le_of_ble_eq_true rfl) dX6_isShirt_4 ⟨Nat.zero_le _, Nat.zero_le _⟩ (fun r2 σ1 => ?_)
  refine gX_z (fun z3 => ?_)
  exact g_iretz C z3 hr dX6_isShirt_7

def F_Model_isOver  (σ : gSt) : Option (Int32 × gSt) := if (σ 29 12) = (3 : Int32) then (some ((1 : Int32), σ)) else (if (σ 29 13) = (3 : Int32) then (some ((1 : Int32), σ)) else (some ((0 : Int32), σ)))

set_option maxHeartbeats 4000000 in
set_option maxRecDepth 100000 in
theorem c_Model_isOver (l : Launch) (hl : l.stackTraces = false) (D : va_G) (cI cJ : ClassId) (ad : Nat → Nat) : gMi l D cI cJ ad yX6_isOver cX6_isOver 1 (some .boolean) { frames := 0, cells := 0, slots := 0, locals := 0 } [.ref (ad 28)] (F_Model_isOver) := by
  refine gStartI (L0 := [(0, .ref (ad 28))]) RX6 (by decide) rfl rfl (Nat.le_of_ble_eq_true rfl) ?_
  intro p e s m args below meth c sz σ r σ' C hr
  unfold F_Model_isOver
  refine g_aload_n C 0 dX6_isOver_0 rfl rfl ?_
  refine g_getR (o' := 29) C 28 0 gcl6 rfl (by decide) rfl qw316 dX6_isOver_1 ?_
  refine g_bipush (v := (12 : Int32)) C dX6_isOver_4 (by decide) ?_
  refine g_ialdL (o := 29) (n := 92) C 12 ⟨by decide, by unfold vp_in; decide⟩ rfl rfl dX6_isOver_6 ?_
  refine g_iconst (v := (3 : Int32)) C dX6_isOver_7 (by decide) ?_
  refine g_icmp_eq (tgt := 22) C dX6_isOver_8 (by decide) (fun h1 => ?_) (fun h1 => ?_)
  · refine g_iconst (v := (1 : Int32)) C dX6_isOver_22 (by decide) ?_
    refine g_goto (tgt := 27) C dX6_isOver_23 (by decide) ?_
    exact g_iretz C (by decide) hr dX6_isOver_27
  · refine g_aload_n C 0 dX6_isOver_11 rfl rfl ?_
    refine g_getR (o' := 29) C 28 0 gcl6 rfl (by decide) rfl qw316 dX6_isOver_12 ?_
    refine g_bipush (v := (13 : Int32)) C dX6_isOver_15 (by decide) ?_
    refine g_ialdL (o := 29) (n := 92) C 13 ⟨by decide, by unfold vp_in; decide⟩ rfl rfl dX6_isOver_17 ?_
    refine g_iconst (v := (3 : Int32)) C dX6_isOver_18 (by decide) ?_
    refine g_icmp_ne (tgt := 26) C dX6_isOver_19 (by decide) (fun h2 => ?_) (fun h2 => ?_)
    · refine g_iconst (v := (1 : Int32)) C dX6_isOver_22 (by decide) ?_
      refine g_goto (tgt := 27) C dX6_isOver_23 (by decide) ?_
      exact g_iretz C (by decide) hr dX6_isOver_27
    · refine g_iconst (v := (0 : Int32)) C dX6_isOver_26 (by decide) ?_
      exact g_iretz C (by decide) hr dX6_isOver_27

def F_Model_slot (p1 : Int32) (p2 : Int32) (σ : gSt) : Option (Int32 × gSt) := some (((((14 : Int32) + ((6 : Int32) * p1)) + p2) - (1 : Int32)), σ)

set_option maxHeartbeats 4000000 in
set_option maxRecDepth 100000 in
theorem c_Model_slot (l : Launch) (hl : l.stackTraces = false) (D : va_G) (cI cJ : ClassId) (ad : Nat → Nat) (p1 : Int32) (p2 : Int32) : gMi l D cI cJ ad yX6_slot cX6_slot 2 (some .int) { frames := 0, cells := 0, slots := 0, locals := 0 } [.int p1, .int p2] (F_Model_slot p1 p2) := by
  refine gStartI (L0 := [(0, .int p1), (1, .int p2)]) RX6 (by decide) rfl rfl (Nat.le_of_ble_eq_true rfl) ?_
  intro p e s m args below meth c sz σ r σ' C hr
  unfold F_Model_slot
  refine g_bipush (v := (14 : Int32)) C dX6_slot_0 (by decide) ?_
  refine g_bipush (v := (6 : Int32)) C dX6_slot_2 (by decide) ?_
  refine g_iload_n C 0 dX6_slot_4 rfl rfl ?_
  refine g_imul C dX6_slot_5 ?_
  refine g_iadd C dX6_slot_6 ?_
  refine g_iload_n C 1 dX6_slot_7 rfl rfl ?_
  refine g_iadd C dX6_slot_8 ?_
  refine g_iconst (v := (1 : Int32)) C dX6_slot_9 (by decide) ?_
  refine g_isub C dX6_slot_10 ?_
  exact g_ireti C hr dX6_slot_11

def F_Model_place_B5 (p1 : Int32) (p2 : Int32) : Nat → Int32 → Int32 → Int32 → Int32 → gSt → Option (Int32 × gSt)
  | 0, _, _, _, _, _ => none
  | n + 1, l1, l2, l3, l4, σ => if (6 : Int32) < l4 then (some (l3, σ)) else (gbi (F_Model_slot l1 l4 σ) fun r3 σ2 => if r3 < 0 ∨ 92 ≤ r3.toNatClampNeg then none else if (σ2 29 r3.toNatClampNeg) = l2 then (F_Model_place_B5 p1 p2 n l1 l2 l4 (l4 + (1 : Int32)) σ2) else (F_Model_place_B5 p1 p2 n l1 l2 l3 (l4 + (1 : Int32)) σ2))

def F_Model_place (p1 : Int32) (p2 : Int32) (σ : gSt) : Option (Int32 × gSt) := F_Model_place_B5 p1 p2 100 p1 p2 (0 : Int32) (1 : Int32) σ

set_option maxHeartbeats 4000000 in
set_option maxRecDepth 100000 in
theorem b_Model_place_B5 {p : Program} {l : Launch} {e : Env} {s : State} {m : MethodId} {args : Array Value} {below : List Frame} {meth : Method} {c : Code} {D : va_G} {cI cJ : ClassId} {ad : Nat → Nat} {sz : Nat} {r : Int32} {σ' : gSt} (C : gC p s m args meth c D cI cJ ad (gA ad sz) cX6_place 5 RX6) (hr : meth.sig.returnType = (some .int)) (hl : l.stackTraces = false) (p1 : Int32) (p2 : Int32) : ∀ (n : Nat) (l1 : Int32) (l2 : Int32) (l3 : Int32) (l4 : Int32) (σ : gSt), gX (F_Model_place_B5 p1 p2 n l1 l2 l3 l4 σ) (r, σ') (gG p l e { frames := 1, cells := 0, slots := 0, locals := 21 } s m args below meth c D cI cJ ad (gA ad sz) 5 0 0 (MQ below (va_Qi (fun r1 (_ : Unit) => r1 = r) (fun _ t => va_P D vwCl (gw cI cJ ad σ') t.heap) (gA ad sz)) args s 0 0 (gA ad sz)) σ 5 [(0, .ref (ad 28)), (1, .int l1), (2, .int l2), (3, .int l3), (4, .int l4)] []) := by
  intro n
  induction n with
  | zero =>
    intro l1 l2 l3 l4 σ
    unfold F_Model_place_B5
    exact gX_none
  | succ n ih =>
    intro l1 l2 l3 l4 σ
    unfold F_Model_place_B5
    refine g_iload C 4 dX6_place_5 rfl ?_
    refine g_bipush (v := (6 : Int32)) C dX6_place_7 (by decide) ?_
    refine g_icmp_gt (tgt := 40) C dX6_place_9 (by decide) (fun h1 => ?_) (fun h1 => ?_)
    · refine g_iload_n C 3 dX6_place_40 rfl rfl ?_
      exact g_ireti C hr dX6_place_41
    · refine g_aload_n C 0 dX6_place_12 rfl rfl ?_
      refine g_getR (o' := 29) C 28 0 gcl6 rfl (by decide) rfl qw316 dX6_place_13 ?_
      refine g_iload_n C 1 dX6_place_16 rfl rfl ?_
      refine g_iload C 4 dX6_place_17 rfl ?_
      refine g_callsi (As := [.int l1, .int l4]) (n := 2) C (c_Model_slot l hl D cI cJ ad l1 l4) ⟨rfl, rfl⟩ qc79 (hR := ⟨Nat.le_of_ble_eq_true rfl, Nat.le_of_ble_eq_true rfl⟩) rfl rfl (Nat.le_of_ble_eq_true rfl) dX6_place_19 ⟨Nat.zero_le _, Nat.zero_le _⟩ (fun r3 σ2 => ?_)
      refine g_iald (o := 29) (n := 92) C rfl rfl dX6_place_22 ?_
      refine g_iload_n C 2 dX6_place_23 rfl rfl ?_
      refine g_icmp_ne (tgt := 32) C dX6_place_24 (by decide) (fun h4 => ?_) (fun h4 => ?_)
      · refine g_iload C 4 dX6_place_27 rfl ?_
        refine g_goto (tgt := 33) C dX6_place_29 (by decide) ?_
        refine g_istore_n (L' := [(3, .int l4), (0, .ref (ad 28)), (1, .int l1), (2, .int l2), (4, .int l4)]) C dX6_place_33 rfl (by decide) rfl ?_
        refine g_iinc (v := (l4 + (1 : Int32))) (L' := [(4, .int (l4 + (1 : Int32))), (3, .int l4), (0, .ref (ad 28)), (1, .int l1), (2, .int l2)]) C 4 dX6_place_34 rfl (by rfl) (by decide) rfl ?_
        refine g_goto (tgt := 5) C dX6_place_37 (by decide) ?_
        refine g_loc [2, 3, 4, 1, 0] rfl ?_
        exact ih l1 l2 l4 (l4 + (1 : Int32)) σ2
      · refine g_iload_n C 3 dX6_place_32 rfl rfl ?_
        refine g_istore_n (L' := [(3, .int l3), (0, .ref (ad 28)), (1, .int l1), (2, .int l2), (4, .int l4)]) C dX6_place_33 rfl (by decide) rfl ?_
        refine g_iinc (v := (l4 + (1 : Int32))) (L' := [(4, .int (l4 + (1 : Int32))), (3, .int l3), (0, .ref (ad 28)), (1, .int l1), (2, .int l2)]) C 4 dX6_place_34 rfl (by rfl) (by decide) rfl ?_
        refine g_goto (tgt := 5) C dX6_place_37 (by decide) ?_
        refine g_loc [2, 3, 4, 1, 0] rfl ?_
        exact ih l1 l2 l3 (l4 + (1 : Int32)) σ2

set_option maxHeartbeats 4000000 in
set_option maxRecDepth 100000 in
theorem c_Model_place (l : Launch) (hl : l.stackTraces = false) (D : va_G) (cI cJ : ClassId) (ad : Nat → Nat) (p1 : Int32) (p2 : Int32) : gMi l D cI cJ ad yX6_place cX6_place 5 (some .int) { frames := 1, cells := 0, slots := 0, locals := 21 } [.ref (ad 28), .int p1, .int p2] (F_Model_place p1 p2) := by
  refine gStartI (L0 := [(0, .ref (ad 28)), (1, .int p1), (2, .int p2)]) RX6 (by decide) rfl rfl (Nat.le_of_ble_eq_true rfl) ?_
  intro p e s m args below meth c sz σ r σ' C hr
  unfold F_Model_place
  refine g_iconst (v := (0 : Int32)) C dX6_place_0 (by decide) ?_
  refine g_istore_n (L' := [(3, .int (0 : Int32)), (0, .ref (ad 28)), (1, .int p1), (2, .int p2)]) C dX6_place_1 rfl (by decide) rfl ?_
  refine g_iconst (v := (1 : Int32)) C dX6_place_2 (by decide) ?_
  refine g_istore (L' := [(4, .int (1 : Int32)), (3, .int (0 : Int32)), (0, .ref (ad 28)), (1, .int p1), (2, .int p2)]) C dX6_place_3 (by decide) rfl ?_
  refine g_loc [2, 3, 4, 1, 0] rfl ?_
  exact b_Model_place_B5 C hr hl p1 p2 100 p1 p2 (0 : Int32) (1 : Int32) σ

def F_Model_isBehind (p1 : Int32) (σ : gSt) : Option (Int32 × gSt) := if p1 = (1 : Int32) then (some ((1 : Int32), σ)) else (if p1 = (5 : Int32) then (some ((1 : Int32), σ)) else (if p1 = (6 : Int32) then (some ((1 : Int32), σ)) else (some ((0 : Int32), σ))))

set_option maxHeartbeats 4000000 in
set_option maxRecDepth 100000 in
theorem c_Model_isBehind (l : Launch) (hl : l.stackTraces = false) (D : va_G) (cI cJ : ClassId) (ad : Nat → Nat) (p1 : Int32) : gMi l D cI cJ ad yX6_isBehind cX6_isBehind 1 (some .boolean) { frames := 0, cells := 0, slots := 0, locals := 0 } [.int p1] (F_Model_isBehind p1) := by
  refine gStartI (L0 := [(0, .int p1)]) RX6 (by decide) rfl rfl (Nat.le_of_ble_eq_true rfl) ?_
  intro p e s m args below meth c sz σ r σ' C hr
  unfold F_Model_isBehind
  refine g_iload_n C 0 dX6_isBehind_0 rfl rfl ?_
  refine g_iconst (v := (1 : Int32)) C dX6_isBehind_1 (by decide) ?_
  refine g_icmp_eq (tgt := 16) C dX6_isBehind_2 (by decide) (fun h1 => ?_) (fun h1 => ?_)
  · refine g_iconst (v := (1 : Int32)) C dX6_isBehind_16 (by decide) ?_
    refine g_goto (tgt := 21) C dX6_isBehind_17 (by decide) ?_
    exact g_iretz C (by decide) hr dX6_isBehind_21
  · refine g_iload_n C 0 dX6_isBehind_5 rfl rfl ?_
    refine g_iconst (v := (5 : Int32)) C dX6_isBehind_6 (by decide) ?_
    refine g_icmp_eq (tgt := 16) C dX6_isBehind_7 (by decide) (fun h2 => ?_) (fun h2 => ?_)
    · refine g_iconst (v := (1 : Int32)) C dX6_isBehind_16 (by decide) ?_
      refine g_goto (tgt := 21) C dX6_isBehind_17 (by decide) ?_
      exact g_iretz C (by decide) hr dX6_isBehind_21
    · refine g_iload_n C 0 dX6_isBehind_10 rfl rfl ?_
      refine g_bipush (v := (6 : Int32)) C dX6_isBehind_11 (by decide) ?_
      refine g_icmp_ne (tgt := 20) C dX6_isBehind_13 (by decide) (fun h3 => ?_) (fun h3 => ?_)
      · refine g_iconst (v := (1 : Int32)) C dX6_isBehind_16 (by decide) ?_
        refine g_goto (tgt := 21) C dX6_isBehind_17 (by decide) ?_
        exact g_iretz C (by decide) hr dX6_isBehind_21
      · refine g_iconst (v := (0 : Int32)) C dX6_isBehind_20 (by decide) ?_
        exact g_iretz C (by decide) hr dX6_isBehind_21

def F_Model_line_B63 (p1 : Int32) (p2 : Int32) (p3 : Int32) (l1 : Int32) (l2 : Int32) (l3 : Int32) (s0 : Int32) (σ : gSt) : Option (Int32 × gSt) := gbi (F_Model_goes s0 σ) fun r2 σ1 => if r2 = (0 : Int32) then (some ((0 : Int32), σ1)) else (gl (gup σ1 29 41 (0 : Int32)) fun σ4 => gbi (F_Model_slot l1 l2 σ4) fun r6 σ5 => if r6 < 0 ∨ 92 ≤ r6.toNatClampNeg then none else gl (σ5 29 r6.toNatClampNeg) fun x7 => gbi (F_Model_slot l1 l2 σ5) fun r9 σ8 => if r9 < 0 ∨ 92 ≤ r9.toNatClampNeg then none else gl (gup σ8 29 r9.toNatClampNeg l3) fun σ10 => some (x7, σ10))

def F_Model_line_B58 (p1 : Int32) (p2 : Int32) (p3 : Int32) (l1 : Int32) (l2 : Int32) (l3 : Int32) (σ : gSt) : Option (Int32 × gSt) := F_Model_line_B63 p1 p2 p3 l1 l2 l3 (2 : Int32) σ

def F_Model_line_B29 (p1 : Int32) (p2 : Int32) (p3 : Int32) (l1 : Int32) (l2 : Int32) (l3 : Int32) (s0 : Int32) (σ : gSt) : Option (Int32 × gSt) := if s0 = (0 : Int32) then (F_Model_line_B63 p1 p2 p3 l1 l2 l3 (1 : Int32) σ) else (if (σ 29 0) = (1 : Int32) then (F_Model_line_B58 p1 p2 p3 l1 l2 l3 σ) else (gbi (F_Model_isOver σ) fun r4 σ3 => if r4 = (0 : Int32) then (F_Model_line_B63 p1 p2 p3 l1 l2 l3 (0 : Int32) σ3) else (F_Model_line_B58 p1 p2 p3 l1 l2 l3 σ3)))

def F_Model_line_B28 (p1 : Int32) (p2 : Int32) (p3 : Int32) (l1 : Int32) (l2 : Int32) (l3 : Int32) (σ : gSt) : Option (Int32 × gSt) := F_Model_line_B29 p1 p2 p3 l1 l2 l3 (0 : Int32) σ

def F_Model_line (p1 : Int32) (p2 : Int32) (p3 : Int32) (σ : gSt) : Option (Int32 × gSt) := gbi (F_Model_isTeam p1 σ) fun r2 σ1 => if r2 = (0 : Int32) then (F_Model_line_B28 p1 p2 p3 p1 p2 p3 σ1) else (gbi (F_Model_isIn p2 (1 : Int32) (6 : Int32) σ1) fun r5 σ4 => if r5 = (0 : Int32) then (F_Model_line_B28 p1 p2 p3 p1 p2 p3 σ4) else (gbi (F_Model_isShirt p3 σ4) fun r8 σ7 => if r8 = (0 : Int32) then (F_Model_line_B28 p1 p2 p3 p1 p2 p3 σ7) else (F_Model_line_B29 p1 p2 p3 p1 p2 p3 (1 : Int32) σ7)))

set_option maxHeartbeats 4000000 in
set_option maxRecDepth 100000 in
theorem b_Model_line_B63 {p : Program} {l : Launch} {e : Env} {s : State} {m : MethodId} {args : Array Value} {below : List Frame} {meth : Method} {c : Code} {D : va_G} {cI cJ : ClassId} {ad : Nat → Nat} {sz : Nat} {r : Int32} {σ' : gSt} (C : gC p s m args meth c D cI cJ ad (gA ad sz) cX6_line 6 RX6) (hr : meth.sig.returnType = (some .int)) (hl : l.stackTraces = false) (p1 : Int32) (p2 : Int32) (p3 : Int32) (l1 : Int32) (l2 : Int32) (l3 : Int32) (s0 : Int32) (σ : gSt) : gX (F_Model_line_B63 p1 p2 p3 l1 l2 l3 s0 σ) (r, σ') (gG p l e { frames := 2, cells := 0, slots := 0, locals := 42 } s m args below meth c D cI cJ ad (gA ad sz) 6 0 0 (MQ below (va_Qi (fun r1 (_ : Unit) => r1 = r) (fun _ t => va_P D vwCl (gw cI cJ ad σ') t.heap) (gA ad sz)) args s 0 0 (gA ad sz)) σ 63 [(0, .ref (ad 28)), (1, .int l1), (2, .int l2), (3, .int l3)] [.int s0, .ref (ad 28)]) := by
  unfold F_Model_line_B63
  refine g_callvi (As := [.int s0]) (n := 1) C (c_Model_goes l hl D cI cJ ad s0) ⟨rfl, rfl⟩ gcl6 rfl qc81 (hR := ⟨Nat.le_of_ble_eq_true rfl, Nat.le_of_ble_eq_true rfl⟩) rfl rfl (Nat.le_of_ble_eq_true rfl) dX6_line_63 ⟨Nat.zero_le _, Nat.zero_le _⟩ (fun r2 σ1 => ?_)
  refine g_if_ne (tgt := 71) C dX6_line_66 (by decide) (fun h3 => ?_) (fun h3 => ?_)
  · refine g_iconst (v := (0 : Int32)) C dX6_line_69 (by decide) ?_
    exact g_ireti C hr dX6_line_70
  · refine g_aload_n C 0 dX6_line_71 rfl rfl ?_
    refine g_getR (o' := 29) C 28 0 gcl6 rfl (by decide) rfl qw316 dX6_line_72 ?_
    refine g_bipush (v := (41 : Int32)) C dX6_line_75 (by decide) ?_
    refine g_iconst (v := (0 : Int32)) C dX6_line_77 (by decide) ?_
    refine g_iastL (o := 29) (n := 92) C 41 ⟨by decide, by unfold vp_in; decide⟩ rfl rfl dX6_line_78 (fun σ4 => ?_)
    refine g_aload_n C 0 dX6_line_79 rfl rfl ?_
    refine g_getR (o' := 29) C 28 0 gcl6 rfl (by decide) rfl qw316 dX6_line_80 ?_
    refine g_iload_n C 1 dX6_line_83 rfl rfl ?_
    refine g_iload_n C 2 dX6_line_84 rfl rfl ?_
    refine g_callsi (As := [.int l1, .int l2]) (n := 2) C (c_Model_slot l hl D cI cJ ad l1 l2) ⟨rfl, rfl⟩ qc79 (hR := ⟨Nat.le_of_ble_eq_true rfl, Nat.le_of_ble_eq_true rfl⟩) rfl rfl (Nat.le_of_ble_eq_true rfl) dX6_line_85 ⟨Nat.zero_le _, Nat.zero_le _⟩ (fun r6 σ5 => ?_)
    refine g_iald (o := 29) (n := 92) C rfl rfl dX6_line_88 ?_
    refine g_name ?_; intro x7
    refine g_istore (L' := [(5, .int x7), (0, .ref (ad 28)), (1, .int l1), (2, .int l2), (3, .int l3)]) C dX6_line_89 (by decide) rfl ?_
    refine g_aload_n C 1 dX6_line_91 rfl rfl ?_
    refine g_getR (o' := 29) C 28 0 gcl6 rfl (by decide) rfl qw316 dX6_line_92 ?_
    refine g_iload_n C 2 dX6_line_95 rfl rfl ?_
    refine g_iload_n C 3 dX6_line_96 rfl rfl ?_
    refine g_callsi (As := [.int l1, .int l2]) (n := 2) C (c_Model_slot l hl D cI cJ ad l1 l2) ⟨rfl, rfl⟩ qc79 (hR := ⟨Nat.le_of_ble_eq_true rfl, Nat.le_of_ble_eq_true rfl⟩) rfl rfl (Nat.le_of_ble_eq_true rfl) dX6_line_97 ⟨Nat.zero_le _, Nat.zero_le _⟩ (fun r9 σ8 => ?_)
    refine g_iload_n C 4 dX6_line_100 rfl rfl ?_
    refine g_iast (o := 29) (n := 92) C rfl rfl dX6_line_101 (fun σ10 => ?_)
    refine g_iload C 0 dX6_line_102 rfl ?_
    exact g_ireti C hr dX6_line_104

set_option maxHeartbeats 4000000 in
set_option maxRecDepth 100000 in
theorem b_Model_line_B58 {p : Program} {l : Launch} {e : Env} {s : State} {m : MethodId} {args : Array Value} {below : List Frame} {meth : Method} {c : Code} {D : va_G} {cI cJ : ClassId} {ad : Nat → Nat} {sz : Nat} {r : Int32} {σ' : gSt} (C : gC p s m args meth c D cI cJ ad (gA ad sz) cX6_line 6 RX6) (hr : meth.sig.returnType = (some .int)) (hl : l.stackTraces = false) (p1 : Int32) (p2 : Int32) (p3 : Int32) (l1 : Int32) (l2 : Int32) (l3 : Int32) (σ : gSt) : gX (F_Model_line_B58 p1 p2 p3 l1 l2 l3 σ) (r, σ') (gG p l e { frames := 2, cells := 0, slots := 0, locals := 42 } s m args below meth c D cI cJ ad (gA ad sz) 6 0 0 (MQ below (va_Qi (fun r1 (_ : Unit) => r1 = r) (fun _ t => va_P D vwCl (gw cI cJ ad σ') t.heap) (gA ad sz)) args s 0 0 (gA ad sz)) σ 58 [(0, .ref (ad 28)), (1, .int l1), (2, .int l2), (3, .int l3)] [.ref (ad 28)]) := by
  unfold F_Model_line_B58
  refine g_iconst (v := (2 : Int32)) C dX6_line_58 (by decide) ?_
  refine g_goto (tgt := 63) C dX6_line_59 (by decide) ?_
  refine g_loc [0, 1, 2, 3] rfl ?_
  exact b_Model_line_B63 C hr hl p1 p2 p3 l1 l2 l3 (2 : Int32) σ

set_option maxHeartbeats 4000000 in
set_option maxRecDepth 100000 in
theorem b_Model_line_B29 {p : Program} {l : Launch} {e : Env} {s : State} {m : MethodId} {args : Array Value} {below : List Frame} {meth : Method} {c : Code} {D : va_G} {cI cJ : ClassId} {ad : Nat → Nat} {sz : Nat} {r : Int32} {σ' : gSt} (C : gC p s m args meth c D cI cJ ad (gA ad sz) cX6_line 6 RX6) (hr : meth.sig.returnType = (some .int)) (hl : l.stackTraces = false) (p1 : Int32) (p2 : Int32) (p3 : Int32) (l1 : Int32) (l2 : Int32) (l3 : Int32) (s0 : Int32) (σ : gSt) : gX (F_Model_line_B29 p1 p2 p3 l1 l2 l3 s0 σ) (r, σ') (gG p l e { frames := 2, cells := 0, slots := 0, locals := 42 } s m args below meth c D cI cJ ad (gA ad sz) 6 0 0 (MQ below (va_Qi (fun r1 (_ : Unit) => r1 = r) (fun _ t => va_P D vwCl (gw cI cJ ad σ') t.heap) (gA ad sz)) args s 0 0 (gA ad sz)) σ 29 [(0, .ref (ad 28)), (1, .int l1), (2, .int l2), (3, .int l3)] [.int s0]) := by
  unfold F_Model_line_B29
  refine g_istore (L' := [(4, .int s0), (0, .ref (ad 28)), (1, .int l1), (2, .int l2), (3, .int l3)]) C dX6_line_29 (by decide) rfl ?_
  refine g_aload_n C 1 dX6_line_31 rfl rfl ?_
  refine g_iload C 0 dX6_line_32 rfl ?_
  refine g_if_ne (tgt := 41) C dX6_line_34 (by decide) (fun h1 => ?_) (fun h1 => ?_)
  · refine g_iconst (v := (1 : Int32)) C dX6_line_37 (by decide) ?_
    refine g_goto (tgt := 63) C dX6_line_38 (by decide) ?_
    refine g_loc [1, 2, 3, 4] rfl ?_
    exact b_Model_line_B63 C hr hl p1 p2 p3 l1 l2 l3 (1 : Int32) σ
  · refine g_aload_n C 1 dX6_line_41 rfl rfl ?_
    refine g_getR (o' := 29) C 28 0 gcl6 rfl (by decide) rfl qw316 dX6_line_42 ?_
    refine g_iconst (v := (0 : Int32)) C dX6_line_45 (by decide) ?_
    refine g_ialdL (o := 29) (n := 92) C 0 ⟨by decide, by unfold vp_in; decide⟩ rfl rfl dX6_line_46 ?_
    refine g_iconst (v := (1 : Int32)) C dX6_line_47 (by decide) ?_
    refine g_icmp_eq (tgt := 58) C dX6_line_48 (by decide) (fun h2 => ?_) (fun h2 => ?_)
    · refine g_loc [1, 2, 3, 4] rfl ?_
      exact b_Model_line_B58 C hr hl p1 p2 p3 l1 l2 l3 σ
    · refine g_aload_n C 1 dX6_line_51 rfl rfl ?_
      refine g_callvi (As := []) (n := 0) C (c_Model_isOver l hl D cI cJ ad) ⟨rfl, rfl⟩ gcl6 rfl qc82 (hR := ⟨Nat.le_of_ble_eq_true rfl, Nat.le_of_ble_eq_true rfl⟩) rfl rfl (Nat.le_of_ble_eq_true rfl) dX6_line_52 ⟨Nat.zero_le _, Nat.zero_le _⟩ (fun r4 σ3 => ?_)
      refine g_if_eq (tgt := 62) C dX6_line_55 (by decide) (fun h5 => ?_) (fun h5 => ?_)
      · refine g_iconst (v := (0 : Int32)) C dX6_line_62 (by decide) ?_
        refine g_loc [1, 2, 3, 4] rfl ?_
        exact b_Model_line_B63 C hr hl p1 p2 p3 l1 l2 l3 (0 : Int32) σ3
      · refine g_loc [1, 2, 3, 4] rfl ?_
        exact b_Model_line_B58 C hr hl p1 p2 p3 l1 l2 l3 σ3

set_option maxHeartbeats 4000000 in
set_option maxRecDepth 100000 in
theorem b_Model_line_B28 {p : Program} {l : Launch} {e : Env} {s : State} {m : MethodId} {args : Array Value} {below : List Frame} {meth : Method} {c : Code} {D : va_G} {cI cJ : ClassId} {ad : Nat → Nat} {sz : Nat} {r : Int32} {σ' : gSt} (C : gC p s m args meth c D cI cJ ad (gA ad sz) cX6_line 6 RX6) (hr : meth.sig.returnType = (some .int)) (hl : l.stackTraces = false) (p1 : Int32) (p2 : Int32) (p3 : Int32) (l1 : Int32) (l2 : Int32) (l3 : Int32) (σ : gSt) : gX (F_Model_line_B28 p1 p2 p3 l1 l2 l3 σ) (r, σ') (gG p l e { frames := 2, cells := 0, slots := 0, locals := 42 } s m args below meth c D cI cJ ad (gA ad sz) 6 0 0 (MQ below (va_Qi (fun r1 (_ : Unit) => r1 = r) (fun _ t => va_P D vwCl (gw cI cJ ad σ') t.heap) (gA ad sz)) args s 0 0 (gA ad sz)) σ 28 [(0, .ref (ad 28)), (1, .int l1), (2, .int l2), (3, .int l3)] []) := by
  unfold F_Model_line_B28
  refine g_iconst (v := (0 : Int32)) C dX6_line_28 (by decide) ?_
  refine g_loc [0, 1, 2, 3] rfl ?_
  exact b_Model_line_B29 C hr hl p1 p2 p3 l1 l2 l3 (0 : Int32) σ

set_option maxHeartbeats 4000000 in
set_option maxRecDepth 100000 in
theorem c_Model_line (l : Launch) (hl : l.stackTraces = false) (D : va_G) (cI cJ : ClassId) (ad : Nat → Nat) (p1 : Int32) (p2 : Int32) (p3 : Int32) : gMi l D cI cJ ad yX6_line cX6_line 6 (some .int) { frames := 2, cells := 0, slots := 0, locals := 42 } [.ref (ad 28), .int p1, .int p2, .int p3] (F_Model_line p1 p2 p3) := by
  refine gStartI (L0 := [(0, .ref (ad 28)), (1, .int p1), (2, .int p2), (3, .int p3)]) RX6 (by decide) rfl rfl (Nat.le_of_ble_eq_true rfl) ?_
  intro p e s m args below meth c sz σ r σ' C hr
  unfold F_Model_line
  refine g_iload_n C 1 dX6_line_0 rfl rfl ?_
  refine g_callsi (As := [.int p1]) (n := 1) C (c_Model_isTeam l hl D cI cJ ad p1) ⟨rfl, rfl⟩ qc80 (hR := ⟨Nat.le_of_ble_eq_true rfl, Nat.le_of_ble_eq_true rfl⟩) rfl rfl (Nat.le_of_ble_eq_true rfl) dX6_line_1 ⟨Nat.zero_le _, Nat.zero_le _⟩ (fun r2 σ1 => ?_)
  refine g_if_eq (tgt := 28) C dX6_line_4 (by decide) (fun h3 => ?_) (fun h3 => ?_)
  · refine g_loc [0, 1, 2, 3] rfl ?_
    exact b_Model_line_B28 C hr hl p1 p2 p3 p1 p2 p3 σ1
  · refine g_iload_n C 2 dX6_line_7 rfl rfl ?_
    refine g_iconst (v := (1 : Int32)) C dX6_line_8 (by decide) ?_
    refine g_bipush (v := (6 : Int32)) C dX6_line_9 (by decide) ?_
    refine g_callsi (As := [.int p2, .int (1 : Int32), .int (6 : Int32)]) (n := 3) C (c_Model_isIn l hl D cI cJ ad p2 (1 : Int32) (6 : Int32)) ⟨rfl, rfl⟩ qc78 (hR := ⟨Nat.le_of_ble_eq_true rfl, Nat.le_of_ble_eq_true rfl⟩) rfl rfl (Nat.le_of_ble_eq_true rfl) dX6_line_11 ⟨Nat.zero_le _, Nat.zero_le _⟩ (fun r5 σ4 => ?_)
    refine g_if_eq (tgt := 28) C dX6_line_14 (by decide) (fun h6 => ?_) (fun h6 => ?_)
    · refine g_loc [0, 1, 2, 3] rfl ?_
      exact b_Model_line_B28 C hr hl p1 p2 p3 p1 p2 p3 σ4
    · refine g_iload_n C 3 dX6_line_17 rfl rfl ?_
      refine g_callsi (As := [.int p3]) (n := 1) C (c_Model_isShirt l hl D cI cJ ad p3) ⟨rfl, rfl⟩ qc83 (hR := ⟨Nat.le_of_ble_eq_true rfl, Nat.le_of_ble_eq_true rfl⟩) rfl rfl (Nat.le_of_ble_eq_true rfl) dX6_line_18 ⟨Nat.zero_le _, Nat.zero_le _⟩ (fun r8 σ7 => ?_)
      refine g_if_eq (tgt := 28) C dX6_line_21 (by decide) (fun h9 => ?_) (fun h9 => ?_)
      · refine g_loc [0, 1, 2, 3] rfl ?_
        exact b_Model_line_B28 C hr hl p1 p2 p3 p1 p2 p3 σ7
      · refine g_iconst (v := (1 : Int32)) C dX6_line_24 (by decide) ?_
        refine g_goto (tgt := 29) C dX6_line_25 (by decide) ?_
        refine g_loc [0, 1, 2, 3] rfl ?_
        exact b_Model_line_B29 C hr hl p1 p2 p3 p1 p2 p3 (1 : Int32) σ7

def F_Model_libero_B51 (p1 : Int32) (p2 : Int32) (l1 : Int32) (l2 : Int32) (s0 : Int32) (σ : gSt) : Option (Int32 × gSt) := gbi (F_Model_goes s0 σ) fun r2 σ1 => if r2 = (0 : Int32) then (some ((0 : Int32), σ1)) else (gl (gup σ1 29 41 (0 : Int32)) fun σ4 => if ((26 : Int32) + l1) < 0 ∨ 92 ≤ ((26 : Int32) + l1).toNatClampNeg then none else gl (σ4 29 ((26 : Int32) + l1).toNatClampNeg) fun x5 => if ((26 : Int32) + l1) < 0 ∨ 92 ≤ ((26 : Int32) + l1).toNatClampNeg then none else gl (gup σ4 29 ((26 : Int32) + l1).toNatClampNeg l2) fun σ6 => some (x5, σ6))

def F_Model_libero_B46 (p1 : Int32) (p2 : Int32) (l1 : Int32) (l2 : Int32) (σ : gSt) : Option (Int32 × gSt) := F_Model_libero_B51 p1 p2 l1 l2 (2 : Int32) σ

def F_Model_libero_B19 (p1 : Int32) (p2 : Int32) (l1 : Int32) (l2 : Int32) (s0 : Int32) (σ : gSt) : Option (Int32 × gSt) := if s0 = (0 : Int32) then (F_Model_libero_B51 p1 p2 l1 l2 (1 : Int32) σ) else (if (σ 29 0) = (1 : Int32) then (F_Model_libero_B46 p1 p2 l1 l2 σ) else (gbi (F_Model_isOver σ) fun r4 σ3 => if r4 = (0 : Int32) then (F_Model_libero_B51 p1 p2 l1 l2 (0 : Int32) σ3) else (F_Model_libero_B46 p1 p2 l1 l2 σ3)))

def F_Model_libero_B18 (p1 : Int32) (p2 : Int32) (l1 : Int32) (l2 : Int32) (σ : gSt) : Option (Int32 × gSt) := F_Model_libero_B19 p1 p2 l1 l2 (0 : Int32) σ

def F_Model_libero (p1 : Int32) (p2 : Int32) (σ : gSt) : Option (Int32 × gSt) := gbi (F_Model_isTeam p1 σ) fun r2 σ1 => if r2 = (0 : Int32) then (F_Model_libero_B18 p1 p2 p1 p2 σ1) else (gbi (F_Model_isShirt p2 σ1) fun r5 σ4 => if r5 = (0 : Int32) then (F_Model_libero_B18 p1 p2 p1 p2 σ4) else (F_Model_libero_B19 p1 p2 p1 p2 (1 : Int32) σ4))

set_option maxHeartbeats 4000000 in
set_option maxRecDepth 100000 in
theorem b_Model_libero_B51 {p : Program} {l : Launch} {e : Env} {s : State} {m : MethodId} {args : Array Value} {below : List Frame} {meth : Method} {c : Code} {D : va_G} {cI cJ : ClassId} {ad : Nat → Nat} {sz : Nat} {r : Int32} {σ' : gSt} (C : gC p s m args meth c D cI cJ ad (gA ad sz) cX6_libero 5 RX6) (hr : meth.sig.returnType = (some .int)) (hl : l.stackTraces = false) (p1 : Int32) (p2 : Int32) (l1 : Int32) (l2 : Int32) (s0 : Int32) (σ : gSt) : gX (F_Model_libero_B51 p1 p2 l1 l2 s0 σ) (r, σ') (gG p l e { frames := 2, cells := 0, slots := 0, locals := 42 } s m args below meth c D cI cJ ad (gA ad sz) 5 0 0 (MQ below (va_Qi (fun r1 (_ : Unit) => r1 = r) (fun _ t => va_P D vwCl (gw cI cJ ad σ') t.heap) (gA ad sz)) args s 0 0 (gA ad sz)) σ 51 [(0, .ref (ad 28)), (1, .int l1), (2, .int l2)] [.int s0, .ref (ad 28)]) := by
  unfold F_Model_libero_B51
  refine g_callvi (As := [.int s0]) (n := 1) C (c_Model_goes l hl D cI cJ ad s0) ⟨rfl, rfl⟩ gcl6 rfl qc81 (hR := ⟨Nat.le_of_ble_eq_true rfl, Nat.le_of_ble_eq_true rfl⟩) rfl rfl (Nat.le_of_ble_eq_true rfl) dX6_libero_51 ⟨Nat.zero_le _, Nat.zero_le _⟩ (fun r2 σ1 => ?_)
  refine g_if_ne (tgt := 59) C dX6_libero_54 (by decide) (fun h3 => ?_) (fun h3 => ?_)
  · refine g_iconst (v := (0 : Int32)) C dX6_libero_57 (by decide) ?_
    exact g_ireti C hr dX6_libero_58
  · refine g_aload_n C 0 dX6_libero_59 rfl rfl ?_
    refine g_getR (o' := 29) C 28 0 gcl6 rfl (by decide) rfl qw316 dX6_libero_60 ?_
    refine g_bipush (v := (41 : Int32)) C dX6_libero_63 (by decide) ?_
    refine g_iconst (v := (0 : Int32)) C dX6_libero_65 (by decide) ?_
    refine g_iastL (o := 29) (n := 92) C 41 ⟨by decide, by unfold vp_in; decide⟩ rfl rfl dX6_libero_66 (fun σ4 => ?_)
    refine g_aload_n C 0 dX6_libero_67 rfl rfl ?_
    refine g_getR (o' := 29) C 28 0 gcl6 rfl (by decide) rfl qw316 dX6_libero_68 ?_
    refine g_bipush (v := (26 : Int32)) C dX6_libero_71 (by decide) ?_
    refine g_iload_n C 1 dX6_libero_73 rfl rfl ?_
    refine g_iadd C dX6_libero_74 ?_
    refine g_iald (o := 29) (n := 92) C rfl rfl dX6_libero_75 ?_
    refine g_name ?_; intro x5
    refine g_istore (L' := [(4, .int x5), (0, .ref (ad 28)), (1, .int l1), (2, .int l2)]) C dX6_libero_76 (by decide) rfl ?_
    refine g_aload_n C 1 dX6_libero_78 rfl rfl ?_
    refine g_getR (o' := 29) C 28 0 gcl6 rfl (by decide) rfl qw316 dX6_libero_79 ?_
    refine g_bipush (v := (26 : Int32)) C dX6_libero_82 (by decide) ?_
    refine g_iload_n C 2 dX6_libero_84 rfl rfl ?_
    refine g_iadd C dX6_libero_85 ?_
    refine g_iload_n C 3 dX6_libero_86 rfl rfl ?_
    refine g_iast (o := 29) (n := 92) C rfl rfl dX6_libero_87 (fun σ6 => ?_)
    refine g_iload C 0 dX6_libero_88 rfl ?_
    exact g_ireti C hr dX6_libero_90

set_option maxHeartbeats 4000000 in
set_option maxRecDepth 100000 in
theorem b_Model_libero_B46 {p : Program} {l : Launch} {e : Env} {s : State} {m : MethodId} {args : Array Value} {below : List Frame} {meth : Method} {c : Code} {D : va_G} {cI cJ : ClassId} {ad : Nat → Nat} {sz : Nat} {r : Int32} {σ' : gSt} (C : gC p s m args meth c D cI cJ ad (gA ad sz) cX6_libero 5 RX6) (hr : meth.sig.returnType = (some .int)) (hl : l.stackTraces = false) (p1 : Int32) (p2 : Int32) (l1 : Int32) (l2 : Int32) (σ : gSt) : gX (F_Model_libero_B46 p1 p2 l1 l2 σ) (r, σ') (gG p l e { frames := 2, cells := 0, slots := 0, locals := 42 } s m args below meth c D cI cJ ad (gA ad sz) 5 0 0 (MQ below (va_Qi (fun r1 (_ : Unit) => r1 = r) (fun _ t => va_P D vwCl (gw cI cJ ad σ') t.heap) (gA ad sz)) args s 0 0 (gA ad sz)) σ 46 [(0, .ref (ad 28)), (1, .int l1), (2, .int l2)] [.ref (ad 28)]) := by
  unfold F_Model_libero_B46
  refine g_iconst (v := (2 : Int32)) C dX6_libero_46 (by decide) ?_
  refine g_goto (tgt := 51) C dX6_libero_47 (by decide) ?_
  refine g_loc [0, 1, 2] rfl ?_
  exact b_Model_libero_B51 C hr hl p1 p2 l1 l2 (2 : Int32) σ

set_option maxHeartbeats 4000000 in
set_option maxRecDepth 100000 in
theorem b_Model_libero_B19 {p : Program} {l : Launch} {e : Env} {s : State} {m : MethodId} {args : Array Value} {below : List Frame} {meth : Method} {c : Code} {D : va_G} {cI cJ : ClassId} {ad : Nat → Nat} {sz : Nat} {r : Int32} {σ' : gSt} (C : gC p s m args meth c D cI cJ ad (gA ad sz) cX6_libero 5 RX6) (hr : meth.sig.returnType = (some .int)) (hl : l.stackTraces = false) (p1 : Int32) (p2 : Int32) (l1 : Int32) (l2 : Int32) (s0 : Int32) (σ : gSt) : gX (F_Model_libero_B19 p1 p2 l1 l2 s0 σ) (r, σ') (gG p l e { frames := 2, cells := 0, slots := 0, locals := 42 } s m args below meth c D cI cJ ad (gA ad sz) 5 0 0 (MQ below (va_Qi (fun r1 (_ : Unit) => r1 = r) (fun _ t => va_P D vwCl (gw cI cJ ad σ') t.heap) (gA ad sz)) args s 0 0 (gA ad sz)) σ 19 [(0, .ref (ad 28)), (1, .int l1), (2, .int l2)] [.int s0]) := by
  unfold F_Model_libero_B19
  refine g_istore_n (L' := [(3, .int s0), (0, .ref (ad 28)), (1, .int l1), (2, .int l2)]) C dX6_libero_19 rfl (by decide) rfl ?_
  refine g_aload_n C 1 dX6_libero_20 rfl rfl ?_
  refine g_iload_n C 0 dX6_libero_21 rfl rfl ?_
  refine g_if_ne (tgt := 29) C dX6_libero_22 (by decide) (fun h1 => ?_) (fun h1 => ?_)
  · refine g_iconst (v := (1 : Int32)) C dX6_libero_25 (by decide) ?_
    refine g_goto (tgt := 51) C dX6_libero_26 (by decide) ?_
    refine g_loc [1, 2, 3] rfl ?_
    exact b_Model_libero_B51 C hr hl p1 p2 l1 l2 (1 : Int32) σ
  · refine g_aload_n C 1 dX6_libero_29 rfl rfl ?_
    refine g_getR (o' := 29) C 28 0 gcl6 rfl (by decide) rfl qw316 dX6_libero_30 ?_
    refine g_iconst (v := (0 : Int32)) C dX6_libero_33 (by decide) ?_
    refine g_ialdL (o := 29) (n := 92) C 0 ⟨by decide, by unfold vp_in; decide⟩ rfl rfl dX6_libero_34 ?_
    refine g_iconst (v := (1 : Int32)) C dX6_libero_35 (by decide) ?_
    refine g_icmp_eq (tgt := 46) C dX6_libero_36 (by decide) (fun h2 => ?_) (fun h2 => ?_)
    · refine g_loc [1, 2, 3] rfl ?_
      exact b_Model_libero_B46 C hr hl p1 p2 l1 l2 σ
    · refine g_aload_n C 1 dX6_libero_39 rfl rfl ?_
      refine g_callvi (As := []) (n := 0) C (c_Model_isOver l hl D cI cJ ad) ⟨rfl, rfl⟩ gcl6 rfl qc82 (hR := ⟨Nat.le_of_ble_eq_true rfl, Nat.le_of_ble_eq_true rfl⟩) rfl rfl (Nat.le_of_ble_eq_true rfl) dX6_libero_40 ⟨Nat.zero_le _, Nat.zero_le _⟩ (fun r4 σ3 => ?_)
      refine g_if_eq (tgt := 50) C dX6_libero_43 (by decide) (fun h5 => ?_) (fun h5 => ?_)
      · refine g_iconst (v := (0 : Int32)) C dX6_libero_50 (by decide) ?_
        refine g_loc [1, 2, 3] rfl ?_
        exact b_Model_libero_B51 C hr hl p1 p2 l1 l2 (0 : Int32) σ3
      · refine g_loc [1, 2, 3] rfl ?_
        exact b_Model_libero_B46 C hr hl p1 p2 l1 l2 σ3

set_option maxHeartbeats 4000000 in
set_option maxRecDepth 100000 in
theorem b_Model_libero_B18 {p : Program} {l : Launch} {e : Env} {s : State} {m : MethodId} {args : Array Value} {below : List Frame} {meth : Method} {c : Code} {D : va_G} {cI cJ : ClassId} {ad : Nat → Nat} {sz : Nat} {r : Int32} {σ' : gSt} (C : gC p s m args meth c D cI cJ ad (gA ad sz) cX6_libero 5 RX6) (hr : meth.sig.returnType = (some .int)) (hl : l.stackTraces = false) (p1 : Int32) (p2 : Int32) (l1 : Int32) (l2 : Int32) (σ : gSt) : gX (F_Model_libero_B18 p1 p2 l1 l2 σ) (r, σ') (gG p l e { frames := 2, cells := 0, slots := 0, locals := 42 } s m args below meth c D cI cJ ad (gA ad sz) 5 0 0 (MQ below (va_Qi (fun r1 (_ : Unit) => r1 = r) (fun _ t => va_P D vwCl (gw cI cJ ad σ') t.heap) (gA ad sz)) args s 0 0 (gA ad sz)) σ 18 [(0, .ref (ad 28)), (1, .int l1), (2, .int l2)] []) := by
  unfold F_Model_libero_B18
  refine g_iconst (v := (0 : Int32)) C dX6_libero_18 (by decide) ?_
  refine g_loc [0, 1, 2] rfl ?_
  exact b_Model_libero_B19 C hr hl p1 p2 l1 l2 (0 : Int32) σ

set_option maxHeartbeats 4000000 in
set_option maxRecDepth 100000 in
theorem c_Model_libero (l : Launch) (hl : l.stackTraces = false) (D : va_G) (cI cJ : ClassId) (ad : Nat → Nat) (p1 : Int32) (p2 : Int32) : gMi l D cI cJ ad yX6_libero cX6_libero 5 (some .int) { frames := 2, cells := 0, slots := 0, locals := 42 } [.ref (ad 28), .int p1, .int p2] (F_Model_libero p1 p2) := by
  refine gStartI (L0 := [(0, .ref (ad 28)), (1, .int p1), (2, .int p2)]) RX6 (by decide) rfl rfl (Nat.le_of_ble_eq_true rfl) ?_
  intro p e s m args below meth c sz σ r σ' C hr
  unfold F_Model_libero
  refine g_iload_n C 1 dX6_libero_0 rfl rfl ?_
  refine g_callsi (As := [.int p1]) (n := 1) C (c_Model_isTeam l hl D cI cJ ad p1) ⟨rfl, rfl⟩ qc80 (hR := ⟨Nat.le_of_ble_eq_true rfl, Nat.le_of_ble_eq_true rfl⟩) rfl rfl (Nat.le_of_ble_eq_true rfl) dX6_libero_1 ⟨Nat.zero_le _, Nat.zero_le _⟩ (fun r2 σ1 => ?_)
  refine g_if_eq (tgt := 18) C dX6_libero_4 (by decide) (fun h3 => ?_) (fun h3 => ?_)
  · refine g_loc [0, 1, 2] rfl ?_
    exact b_Model_libero_B18 C hr hl p1 p2 p1 p2 σ1
  · refine g_iload_n C 2 dX6_libero_7 rfl rfl ?_
    refine g_callsi (As := [.int p2]) (n := 1) C (c_Model_isShirt l hl D cI cJ ad p2) ⟨rfl, rfl⟩ qc83 (hR := ⟨Nat.le_of_ble_eq_true rfl, Nat.le_of_ble_eq_true rfl⟩) rfl rfl (Nat.le_of_ble_eq_true rfl) dX6_libero_8 ⟨Nat.zero_le _, Nat.zero_le _⟩ (fun r5 σ4 => ?_)
    refine g_if_eq (tgt := 18) C dX6_libero_11 (by decide) (fun h6 => ?_) (fun h6 => ?_)
    · refine g_loc [0, 1, 2] rfl ?_
      exact b_Model_libero_B18 C hr hl p1 p2 p1 p2 σ4
    · refine g_iconst (v := (1 : Int32)) C dX6_libero_14 (by decide) ?_
      refine g_goto (tgt := 19) C dX6_libero_15 (by decide) ?_
      refine g_loc [0, 1, 2] rfl ?_
      exact b_Model_libero_B19 C hr hl p1 p2 p1 p2 (1 : Int32) σ4

def F_Model_isLinedUp_B4 (p1 : Int32) : Nat → Int32 → Int32 → Int32 → gSt → Option (Int32 × gSt)
  | 0, _, _, _, _ => none
  | n + 1, l1, l2, l3, σ => if (6 : Int32) < l3 then (if l2 = 0 ∨ l2 = 1 then some (l2, σ) else none) else (gbi (F_Model_slot l1 l3 σ) fun r4 σ3 => if r4 < 0 ∨ 92 ≤ r4.toNatClampNeg then none else gl (σ3 29 r4.toNatClampNeg) fun x5 => if l2 = (0 : Int32) then (F_Model_isLinedUp_B4 p1 n l1 (0 : Int32) (l3 + (1 : Int32)) σ3) else (if x5 = (-1 : Int32) then (F_Model_isLinedUp_B4 p1 n l1 (0 : Int32) (l3 + (1 : Int32)) σ3) else (gbi (F_Model_place l1 x5 σ3) fun r9 σ8 => if r9 = l3 then (if ((26 : Int32) + l1) < 0 ∨ 92 ≤ ((26 : Int32) + l1).toNatClampNeg then none else if x5 = (σ8 29 ((26 : Int32) + l1).toNatClampNeg) then (F_Model_isLinedUp_B4 p1 n l1 (0 : Int32) (l3 + (1 : Int32)) σ8) else (F_Model_isLinedUp_B4 p1 n l1 (1 : Int32) (l3 + (1 : Int32)) σ8)) else (F_Model_isLinedUp_B4 p1 n l1 (0 : Int32) (l3 + (1 : Int32)) σ8))))

def F_Model_isLinedUp (p1 : Int32) (σ : gSt) : Option (Int32 × gSt) := F_Model_isLinedUp_B4 p1 100 p1 (1 : Int32) (1 : Int32) σ

set_option maxHeartbeats 4000000 in
set_option maxRecDepth 100000 in
theorem b_Model_isLinedUp_B4 {p : Program} {l : Launch} {e : Env} {s : State} {m : MethodId} {args : Array Value} {below : List Frame} {meth : Method} {c : Code} {D : va_G} {cI cJ : ClassId} {ad : Nat → Nat} {sz : Nat} {r : Int32} {σ' : gSt} (C : gC p s m args meth c D cI cJ ad (gA ad sz) cX6_isLinedUp 5 RX6) (hr : meth.sig.returnType = (some .boolean)) (hl : l.stackTraces = false) (p1 : Int32) : ∀ (n : Nat) (l1 : Int32) (l2 : Int32) (l3 : Int32) (σ : gSt), gX (F_Model_isLinedUp_B4 p1 n l1 l2 l3 σ) (r, σ') (gG p l e { frames := 2, cells := 0, slots := 0, locals := 45 } s m args below meth c D cI cJ ad (gA ad sz) 5 0 0 (MQ below (va_Qi (fun r1 (_ : Unit) => r1 = r) (fun _ t => va_P D vwCl (gw cI cJ ad σ') t.heap) (gA ad sz)) args s 0 0 (gA ad sz)) σ 4 [(0, .ref (ad 28)), (1, .int l1), (2, .int l2), (3, .int l3)] []) := by
  intro n
  induction n with
  | zero =>
    intro l1 l2 l3 σ
    unfold F_Model_isLinedUp_B4
    exact gX_none
  | succ n ih =>
    intro l1 l2 l3 σ
    unfold F_Model_isLinedUp_B4
    refine g_iload_n C 3 dX6_isLinedUp_4 rfl rfl ?_
    refine g_bipush (v := (6 : Int32)) C dX6_isLinedUp_5 (by decide) ?_
    refine g_icmp_gt (tgt := 69) C dX6_isLinedUp_7 (by decide) (fun h1 => ?_) (fun h1 => ?_)
    · refine g_iload_n C 2 dX6_isLinedUp_69 rfl rfl ?_
      refine gX_z (fun z2 => ?_)
      exact g_iretz C z2 hr dX6_isLinedUp_70
    · refine g_aload_n C 0 dX6_isLinedUp_10 rfl rfl ?_
      refine g_getR (o' := 29) C 28 0 gcl6 rfl (by decide) rfl qw316 dX6_isLinedUp_11 ?_
      refine g_iload_n C 1 dX6_isLinedUp_14 rfl rfl ?_
      refine g_iload_n C 3 dX6_isLinedUp_15 rfl rfl ?_
      refine g_callsi (As := [.int l1, .int l3]) (n := 2) C (c_Model_slot l hl D cI cJ ad l1 l3) ⟨rfl, rfl⟩ qc79 (hR := ⟨Nat.le_of_ble_eq_true rfl, Nat.le_of_ble_eq_true rfl⟩) rfl rfl (Nat.le_of_ble_eq_true rfl) dX6_isLinedUp_16 ⟨Nat.zero_le _, Nat.zero_le _⟩ (fun r4 σ3 => ?_)
      refine g_iald (o := 29) (n := 92) C rfl rfl dX6_isLinedUp_19 ?_
      refine g_name ?_; intro x5
      refine g_istore (L' := [(4, .int x5), (0, .ref (ad 28)), (1, .int l1), (2, .int l2), (3, .int l3)]) C dX6_isLinedUp_20 (by decide) rfl ?_
      refine g_iload_n C 3 dX6_isLinedUp_22 rfl rfl ?_
      refine g_if_eq (tgt := 61) C dX6_isLinedUp_23 (by decide) (fun h6 => ?_) (fun h6 => ?_)
      · refine g_iconst (v := (0 : Int32)) C dX6_isLinedUp_61 (by decide) ?_
        refine g_istore_n (L' := [(2, .int (0 : Int32)), (4, .int x5), (0, .ref (ad 28)), (1, .int l1), (3, .int l3)]) C dX6_isLinedUp_62 rfl (by decide) rfl ?_
        refine g_iinc (v := (l3 + (1 : Int32))) (L' := [(3, .int (l3 + (1 : Int32))), (2, .int (0 : Int32)), (4, .int x5), (0, .ref (ad 28)), (1, .int l1)]) C 4 dX6_isLinedUp_63 rfl (by rfl) (by decide) rfl ?_
        refine g_goto (tgt := 4) C dX6_isLinedUp_66 (by decide) ?_
        refine g_loc [3, 4, 1, 0] rfl ?_
        exact ih l1 (0 : Int32) (l3 + (1 : Int32)) σ3
      · refine g_iload C 0 dX6_isLinedUp_26 rfl ?_
        refine g_iconst (v := (-1 : Int32)) C dX6_isLinedUp_28 (by decide) ?_
        refine g_icmp_eq (tgt := 61) C dX6_isLinedUp_29 (by decide) (fun h7 => ?_) (fun h7 => ?_)
        · refine g_iconst (v := (0 : Int32)) C dX6_isLinedUp_61 (by decide) ?_
          refine g_istore_n (L' := [(2, .int (0 : Int32)), (4, .int x5), (0, .ref (ad 28)), (1, .int l1), (3, .int l3)]) C dX6_isLinedUp_62 rfl (by decide) rfl ?_
          refine g_iinc (v := (l3 + (1 : Int32))) (L' := [(3, .int (l3 + (1 : Int32))), (2, .int (0 : Int32)), (4, .int x5), (0, .ref (ad 28)), (1, .int l1)]) C 4 dX6_isLinedUp_63 rfl (by rfl) (by decide) rfl ?_
          refine g_goto (tgt := 4) C dX6_isLinedUp_66 (by decide) ?_
          refine g_loc [3, 4, 1, 0] rfl ?_
          exact ih l1 (0 : Int32) (l3 + (1 : Int32)) σ3
        · refine g_aload_n C 1 dX6_isLinedUp_32 rfl rfl ?_
          refine g_iload_n C 2 dX6_isLinedUp_33 rfl rfl ?_
          refine g_iload C 0 dX6_isLinedUp_34 rfl ?_
          refine g_callvi (As := [.int l1, .int x5]) (n := 2) C (c_Model_place l hl D cI cJ ad l1 x5) ⟨rfl, rfl⟩ gcl6 rfl qc84 (hR := ⟨Nat.le_of_ble_eq_true rfl, Nat.le_of_ble_eq_true rfl⟩) rfl rfl (Nat.le_of_ble_eq_true rfl) dX6_isLinedUp_36 ⟨Nat.zero_le _, Nat.zero_le _⟩ (fun r9 σ8 => ?_)
          refine g_iload_n C 4 dX6_isLinedUp_39 rfl rfl ?_
          refine g_icmp_ne (tgt := 61) C dX6_isLinedUp_40 (by decide) (fun h10 => ?_) (fun h10 => ?_)
          · refine g_iload C 0 dX6_isLinedUp_43 rfl ?_
            refine g_aload_n C 1 dX6_isLinedUp_45 rfl rfl ?_
            refine g_getR (o' := 29) C 28 0 gcl6 rfl (by decide) rfl qw316 dX6_isLinedUp_46 ?_
            refine g_bipush (v := (26 : Int32)) C dX6_isLinedUp_49 (by decide) ?_
            refine g_iload_n C 2 dX6_isLinedUp_51 rfl rfl ?_
            refine g_iadd C dX6_isLinedUp_52 ?_
            refine g_iald (o := 29) (n := 92) C rfl rfl dX6_isLinedUp_53 ?_
            refine g_icmp_eq (tgt := 61) C dX6_isLinedUp_54 (by decide) (fun h11 => ?_) (fun h11 => ?_)
            · refine g_iconst (v := (0 : Int32)) C dX6_isLinedUp_61 (by decide) ?_
              refine g_istore_n (L' := [(2, .int (0 : Int32)), (4, .int x5), (0, .ref (ad 28)), (1, .int l1), (3, .int l3)]) C dX6_isLinedUp_62 rfl (by decide) rfl ?_
              refine g_iinc (v := (l3 + (1 : Int32))) (L' := [(3, .int (l3 + (1 : Int32))), (2, .int (0 : Int32)), (4, .int x5), (0, .ref (ad 28)), (1, .int l1)]) C 4 dX6_isLinedUp_63 rfl (by rfl) (by decide) rfl ?_
              refine g_goto (tgt := 4) C dX6_isLinedUp_66 (by decide) ?_
              refine g_loc [3, 4, 1, 0] rfl ?_
              exact ih l1 (0 : Int32) (l3 + (1 : Int32)) σ8
            · refine g_iconst (v := (1 : Int32)) C dX6_isLinedUp_57 (by decide) ?_
              refine g_goto (tgt := 62) C dX6_isLinedUp_58 (by decide) ?_
              refine g_istore_n (L' := [(2, .int (1 : Int32)), (4, .int x5), (0, .ref (ad 28)), (1, .int l1), (3, .int l3)]) C dX6_isLinedUp_62 rfl (by decide) rfl ?_
              refine g_iinc (v := (l3 + (1 : Int32))) (L' := [(3, .int (l3 + (1 : Int32))), (2, .int (1 : Int32)), (4, .int x5), (0, .ref (ad 28)), (1, .int l1)]) C 4 dX6_isLinedUp_63 rfl (by rfl) (by decide) rfl ?_
              refine g_goto (tgt := 4) C dX6_isLinedUp_66 (by decide) ?_
              refine g_loc [3, 4, 1, 0] rfl ?_
              exact ih l1 (1 : Int32) (l3 + (1 : Int32)) σ8
          · refine g_iconst (v := (0 : Int32)) C dX6_isLinedUp_61 (by decide) ?_
            refine g_istore_n (L' := [(2, .int (0 : Int32)), (4, .int x5), (0, .ref (ad 28)), (1, .int l1), (3, .int l3)]) C dX6_isLinedUp_62 rfl (by decide) rfl ?_
            refine g_iinc (v := (l3 + (1 : Int32))) (L' := [(3, .int (l3 + (1 : Int32))), (2, .int (0 : Int32)), (4, .int x5), (0, .ref (ad 28)), (1, .int l1)]) C 4 dX6_isLinedUp_63 rfl (by rfl) (by decide) rfl ?_
            refine g_goto (tgt := 4) C dX6_isLinedUp_66 (by decide) ?_
            refine g_loc [3, 4, 1, 0] rfl ?_
            exact ih l1 (0 : Int32) (l3 + (1 : Int32)) σ8

set_option maxHeartbeats 4000000 in
set_option maxRecDepth 100000 in
theorem c_Model_isLinedUp (l : Launch) (hl : l.stackTraces = false) (D : va_G) (cI cJ : ClassId) (ad : Nat → Nat) (p1 : Int32) : gMi l D cI cJ ad yX6_isLinedUp cX6_isLinedUp 5 (some .boolean) { frames := 2, cells := 0, slots := 0, locals := 45 } [.ref (ad 28), .int p1] (F_Model_isLinedUp p1) := by
  refine gStartI (L0 := [(0, .ref (ad 28)), (1, .int p1)]) RX6 (by decide) rfl rfl (Nat.le_of_ble_eq_true rfl) ?_
  intro p e s m args below meth c sz σ r σ' C hr
  unfold F_Model_isLinedUp
  refine g_iconst (v := (1 : Int32)) C dX6_isLinedUp_0 (by decide) ?_
  refine g_istore_n (L' := [(2, .int (1 : Int32)), (0, .ref (ad 28)), (1, .int p1)]) C dX6_isLinedUp_1 rfl (by decide) rfl ?_
  refine g_iconst (v := (1 : Int32)) C dX6_isLinedUp_2 (by decide) ?_
  refine g_istore_n (L' := [(3, .int (1 : Int32)), (2, .int (1 : Int32)), (0, .ref (ad 28)), (1, .int p1)]) C dX6_isLinedUp_3 rfl (by decide) rfl ?_
  refine g_loc [2, 3, 1, 0] rfl ?_
  exact b_Model_isLinedUp_B4 C hr hl p1 100 p1 (1 : Int32) (1 : Int32) σ

def F_Model_begin_B196 (p1 : Int32) : Nat → Int32 → gSt → Option (Int32 × gSt)
  | 0, _, _ => none
  | n + 1, l3, σ => if (12 : Int32) ≤ l3 then (some ((((σ 29 12) + (σ 29 13)) + (1 : Int32)), σ)) else (if ((80 : Int32) + l3) < 0 ∨ 92 ≤ ((80 : Int32) + l3).toNatClampNeg then none else gl (gup σ 29 ((80 : Int32) + l3).toNatClampNeg (0 : Int32)) fun σ2 => F_Model_begin_B196 p1 n (l3 + (1 : Int32)) σ2)

def F_Model_begin_B113 (p1 : Int32) : Nat → Int32 → gSt → Option (Int32 × gSt)
  | 0, _, _ => none
  | n + 1, l3, σ => if (2 : Int32) ≤ l3 then (F_Model_begin_B196 p1 100 (0 : Int32) σ) else (if ((10 : Int32) + l3) < 0 ∨ 92 ≤ ((10 : Int32) + l3).toNatClampNeg then none else gl (gup σ 29 ((10 : Int32) + l3).toNatClampNeg (0 : Int32)) fun σ2 => if ((28 : Int32) + l3) < 0 ∨ 92 ≤ ((28 : Int32) + l3).toNatClampNeg then none else gl (gup σ2 29 ((28 : Int32) + l3).toNatClampNeg (-1 : Int32)) fun σ3 => if ((30 : Int32) + l3) < 0 ∨ 92 ≤ ((30 : Int32) + l3).toNatClampNeg then none else gl (gup σ3 29 ((30 : Int32) + l3).toNatClampNeg (0 : Int32)) fun σ4 => if ((32 : Int32) + l3) < 0 ∨ 92 ≤ ((32 : Int32) + l3).toNatClampNeg then none else gl (gup σ4 29 ((32 : Int32) + l3).toNatClampNeg (0 : Int32)) fun σ5 => if ((34 : Int32) + l3) < 0 ∨ 92 ≤ ((34 : Int32) + l3).toNatClampNeg then none else gl (gup σ5 29 ((34 : Int32) + l3).toNatClampNeg (2 : Int32)) fun σ6 => if ((36 : Int32) + l3) < 0 ∨ 92 ≤ ((36 : Int32) + l3).toNatClampNeg then none else gl (gup σ6 29 ((36 : Int32) + l3).toNatClampNeg (0 : Int32)) fun σ7 => if ((78 : Int32) + l3) < 0 ∨ 92 ≤ ((78 : Int32) + l3).toNatClampNeg then none else gl (gup σ7 29 ((78 : Int32) + l3).toNatClampNeg (0 : Int32)) fun σ8 => F_Model_begin_B113 p1 n (l3 + (1 : Int32)) σ8)

def F_Model_begin_B59 (p1 : Int32) (l1 : Int32) (s0 : Int32) (σ : gSt) : Option (Int32 × gSt) := gbi (F_Model_goes s0 σ) fun r2 σ1 => if r2 = (0 : Int32) then (some ((0 : Int32), σ1)) else (gl (gup σ1 29 41 (0 : Int32)) fun σ4 => gl (gup σ4 29 0 (1 : Int32)) fun σ5 => gl (gup σ5 29 1 (0 : Int32)) fun σ6 => gl (gup σ6 29 2 l1) fun σ7 => gl (gup σ7 29 3 (0 : Int32)) fun σ8 => gl (gup σ8 29 9 (-1 : Int32)) fun σ9 => F_Model_begin_B113 p1 100 (0 : Int32) σ9)

def F_Model_begin_B37 (p1 : Int32) (l1 : Int32) (s0 : Int32) (σ : gSt) : Option (Int32 × gSt) := gbi (F_Model_isTeam l1 σ) fun r2 σ1 => if r2 = (0 : Int32) then (F_Model_begin_B59 p1 l1 (1 : Int32) σ1) else (if s0 = (0 : Int32) then (F_Model_begin_B59 p1 l1 (2 : Int32) σ1) else (F_Model_begin_B59 p1 l1 (0 : Int32) σ1))

def F_Model_begin_B36 (p1 : Int32) (l1 : Int32) (σ : gSt) : Option (Int32 × gSt) := F_Model_begin_B37 p1 l1 (0 : Int32) σ

def F_Model_begin (p1 : Int32) (σ : gSt) : Option (Int32 × gSt) := if (σ 29 0) = (0 : Int32) then (gbi (F_Model_isOver σ) fun r3 σ2 => if r3 = (0 : Int32) then (gbi (F_Model_isLinedUp (0 : Int32) σ2) fun r6 σ5 => if r6 = (0 : Int32) then (F_Model_begin_B36 p1 p1 σ5) else (gbi (F_Model_isLinedUp (1 : Int32) σ5) fun r9 σ8 => if r9 = (0 : Int32) then (F_Model_begin_B36 p1 p1 σ8) else (F_Model_begin_B37 p1 p1 (1 : Int32) σ8))) else (F_Model_begin_B36 p1 p1 σ2)) else (F_Model_begin_B36 p1 p1 σ)

set_option maxHeartbeats 4000000 in
set_option maxRecDepth 100000 in
theorem b_Model_begin_B196 {p : Program} {l : Launch} {e : Env} {s : State} {m : MethodId} {args : Array Value} {below : List Frame} {meth : Method} {c : Code} {D : va_G} {cI cJ : ClassId} {ad : Nat → Nat} {sz : Nat} {r : Int32} {σ' : gSt} (C : gC p s m args meth c D cI cJ ad (gA ad sz) cX6_begin 4 RX6) (hr : meth.sig.returnType = (some .int)) (hl : l.stackTraces = false) (p1 : Int32) : ∀ (n : Nat) (l3 : Int32) (σ : gSt), gX (F_Model_begin_B196 p1 n l3 σ) (r, σ') (gG p l e { frames := 3, cells := 0, slots := 0, locals := 69 } s m args below meth c D cI cJ ad (gA ad sz) 4 0 0 (MQ below (va_Qi (fun r1 (_ : Unit) => r1 = r) (fun _ t => va_P D vwCl (gw cI cJ ad σ') t.heap) (gA ad sz)) args s 0 0 (gA ad sz)) σ 196 [(0, .ref (ad 28)), (3, .int l3)] []) := by
  intro n
  induction n with
  | zero =>
    intro l3 σ
    unfold F_Model_begin_B196
    exact gX_none
  | succ n ih =>
    intro l3 σ
    unfold F_Model_begin_B196
    refine g_iload_n C 1 dX6_begin_196 rfl rfl ?_
    refine g_bipush (v := (12 : Int32)) C dX6_begin_197 (by decide) ?_
    refine g_icmp_ge (tgt := 218) C dX6_begin_199 (by decide) (fun h1 => ?_) (fun h1 => ?_)
    · refine g_aload_n C 0 dX6_begin_218 rfl rfl ?_
      refine g_getR (o' := 29) C 28 0 gcl6 rfl (by decide) rfl qw316 dX6_begin_219 ?_
      refine g_bipush (v := (12 : Int32)) C dX6_begin_222 (by decide) ?_
      refine g_ialdL (o := 29) (n := 92) C 12 ⟨by decide, by unfold vp_in; decide⟩ rfl rfl dX6_begin_224 ?_
      refine g_aload_n C 0 dX6_begin_225 rfl rfl ?_
      refine g_getR (o' := 29) C 28 0 gcl6 rfl (by decide) rfl qw316 dX6_begin_226 ?_
      refine g_bipush (v := (13 : Int32)) C dX6_begin_229 (by decide) ?_
      refine g_ialdL (o := 29) (n := 92) C 13 ⟨by decide, by unfold vp_in; decide⟩ rfl rfl dX6_begin_231 ?_
      refine g_iadd C dX6_begin_232 ?_
      refine g_iconst (v := (1 : Int32)) C dX6_begin_233 (by decide) ?_
      refine g_iadd C dX6_begin_234 ?_
      exact g_ireti C hr dX6_begin_235
    · refine g_aload_n C 0 dX6_begin_202 rfl rfl ?_
      refine g_getR (o' := 29) C 28 0 gcl6 rfl (by decide) rfl qw316 dX6_begin_203 ?_
      refine g_bipush (v := (80 : Int32)) C dX6_begin_206 (by decide) ?_
      refine g_iload_n C 1 dX6_begin_208 rfl rfl ?_
      refine g_iadd C dX6_begin_209 ?_
      refine g_iconst (v := (0 : Int32)) C dX6_begin_210 (by decide) ?_
      refine g_iast (o := 29) (n := 92) C rfl rfl dX6_begin_211 (fun σ2 => ?_)
      refine g_iinc (v := (l3 + (1 : Int32))) (L' := [(3, .int (l3 + (1 : Int32))), (0, .ref (ad 28))]) C 1 dX6_begin_212 rfl (by rfl) (by decide) rfl ?_
      refine g_goto (tgt := 196) C dX6_begin_215 (by decide) ?_
      refine g_loc [1, 0] rfl ?_
      exact ih (l3 + (1 : Int32)) σ2

set_option maxHeartbeats 4000000 in
set_option maxRecDepth 100000 in
theorem b_Model_begin_B113 {p : Program} {l : Launch} {e : Env} {s : State} {m : MethodId} {args : Array Value} {below : List Frame} {meth : Method} {c : Code} {D : va_G} {cI cJ : ClassId} {ad : Nat → Nat} {sz : Nat} {r : Int32} {σ' : gSt} (C : gC p s m args meth c D cI cJ ad (gA ad sz) cX6_begin 4 RX6) (hr : meth.sig.returnType = (some .int)) (hl : l.stackTraces = false) (p1 : Int32) : ∀ (n : Nat) (l3 : Int32) (σ : gSt), gX (F_Model_begin_B113 p1 n l3 σ) (r, σ') (gG p l e { frames := 3, cells := 0, slots := 0, locals := 69 } s m args below meth c D cI cJ ad (gA ad sz) 4 0 0 (MQ below (va_Qi (fun r1 (_ : Unit) => r1 = r) (fun _ t => va_P D vwCl (gw cI cJ ad σ') t.heap) (gA ad sz)) args s 0 0 (gA ad sz)) σ 113 [(0, .ref (ad 28)), (3, .int l3)] []) := by
  intro n
  induction n with
  | zero =>
    intro l3 σ
    unfold F_Model_begin_B113
    exact gX_none
  | succ n ih =>
    intro l3 σ
    unfold F_Model_begin_B113
    refine g_iload_n C 1 dX6_begin_113 rfl rfl ?_
    refine g_iconst (v := (2 : Int32)) C dX6_begin_114 (by decide) ?_
    refine g_icmp_ge (tgt := 194) C dX6_begin_115 (by decide) (fun h1 => ?_) (fun h1 => ?_)
    · refine g_iconst (v := (0 : Int32)) C dX6_begin_194 (by decide) ?_
      refine g_istore_n (L' := [(3, .int (0 : Int32)), (0, .ref (ad 28))]) C dX6_begin_195 rfl (by decide) rfl ?_
      refine g_loc [1, 0] rfl ?_
      exact b_Model_begin_B196 C hr hl p1 100 (0 : Int32) σ
    · refine g_aload_n C 0 dX6_begin_118 rfl rfl ?_
      refine g_getR (o' := 29) C 28 0 gcl6 rfl (by decide) rfl qw316 dX6_begin_119 ?_
      refine g_bipush (v := (10 : Int32)) C dX6_begin_122 (by decide) ?_
      refine g_iload_n C 1 dX6_begin_124 rfl rfl ?_
      refine g_iadd C dX6_begin_125 ?_
      refine g_iconst (v := (0 : Int32)) C dX6_begin_126 (by decide) ?_
      refine g_iast (o := 29) (n := 92) C rfl rfl dX6_begin_127 (fun σ2 => ?_)
      refine g_aload_n C 0 dX6_begin_128 rfl rfl ?_
      refine g_getR (o' := 29) C 28 0 gcl6 rfl (by decide) rfl qw316 dX6_begin_129 ?_
      refine g_bipush (v := (28 : Int32)) C dX6_begin_132 (by decide) ?_
      refine g_iload_n C 1 dX6_begin_134 rfl rfl ?_
      refine g_iadd C dX6_begin_135 ?_
      refine g_iconst (v := (-1 : Int32)) C dX6_begin_136 (by decide) ?_
      refine g_iast (o := 29) (n := 92) C rfl rfl dX6_begin_137 (fun σ3 => ?_)
      refine g_aload_n C 0 dX6_begin_138 rfl rfl ?_
      refine g_getR (o' := 29) C 28 0 gcl6 rfl (by decide) rfl qw316 dX6_begin_139 ?_
      refine g_bipush (v := (30 : Int32)) C dX6_begin_142 (by decide) ?_
      refine g_iload_n C 1 dX6_begin_144 rfl rfl ?_
      refine g_iadd C dX6_begin_145 ?_
      refine g_iconst (v := (0 : Int32)) C dX6_begin_146 (by decide) ?_
      refine g_iast (o := 29) (n := 92) C rfl rfl dX6_begin_147 (fun σ4 => ?_)
      refine g_aload_n C 0 dX6_begin_148 rfl rfl ?_
      refine g_getR (o' := 29) C 28 0 gcl6 rfl (by decide) rfl qw316 dX6_begin_149 ?_
      refine g_bipush (v := (32 : Int32)) C dX6_begin_152 (by decide) ?_
      refine g_iload_n C 1 dX6_begin_154 rfl rfl ?_
      refine g_iadd C dX6_begin_155 ?_
      refine g_iconst (v := (0 : Int32)) C dX6_begin_156 (by decide) ?_
      refine g_iast (o := 29) (n := 92) C rfl rfl dX6_begin_157 (fun σ5 => ?_)
      refine g_aload_n C 0 dX6_begin_158 rfl rfl ?_
      refine g_getR (o' := 29) C 28 0 gcl6 rfl (by decide) rfl qw316 dX6_begin_159 ?_
      refine g_bipush (v := (34 : Int32)) C dX6_begin_162 (by decide) ?_
      refine g_iload_n C 1 dX6_begin_164 rfl rfl ?_
      refine g_iadd C dX6_begin_165 ?_
      refine g_iconst (v := (2 : Int32)) C dX6_begin_166 (by decide) ?_
      refine g_iast (o := 29) (n := 92) C rfl rfl dX6_begin_167 (fun σ6 => ?_)
      refine g_aload_n C 0 dX6_begin_168 rfl rfl ?_
      refine g_getR (o' := 29) C 28 0 gcl6 rfl (by decide) rfl qw316 dX6_begin_169 ?_
      refine g_bipush (v := (36 : Int32)) C dX6_begin_172 (by decide) ?_
      refine g_iload_n C 1 dX6_begin_174 rfl rfl ?_
      refine g_iadd C dX6_begin_175 ?_
      refine g_iconst (v := (0 : Int32)) C dX6_begin_176 (by decide) ?_
      refine g_iast (o := 29) (n := 92) C rfl rfl dX6_begin_177 (fun σ7 => ?_)
      refine g_aload_n C 0 dX6_begin_178 rfl rfl ?_
      refine g_getR (o' := 29) C 28 0 gcl6 rfl (by decide) rfl qw316 dX6_begin_179 ?_
      refine g_bipush (v := (78 : Int32)) C dX6_begin_182 (by decide) ?_
      refine g_iload_n C 1 dX6_begin_184 rfl rfl ?_
      refine g_iadd C dX6_begin_185 ?_
      refine g_iconst (v := (0 : Int32)) C dX6_begin_186 (by decide) ?_
      refine g_iast (o := 29) (n := 92) C rfl rfl dX6_begin_187 (fun σ8 => ?_)
      refine g_iinc (v := (l3 + (1 : Int32))) (L' := [(3, .int (l3 + (1 : Int32))), (0, .ref (ad 28))]) C 1 dX6_begin_188 rfl (by rfl) (by decide) rfl ?_
      refine g_goto (tgt := 113) C dX6_begin_191 (by decide) ?_
      refine g_loc [1, 0] rfl ?_
      exact ih (l3 + (1 : Int32)) σ8

set_option maxHeartbeats 4000000 in
set_option maxRecDepth 100000 in
theorem b_Model_begin_B59 {p : Program} {l : Launch} {e : Env} {s : State} {m : MethodId} {args : Array Value} {below : List Frame} {meth : Method} {c : Code} {D : va_G} {cI cJ : ClassId} {ad : Nat → Nat} {sz : Nat} {r : Int32} {σ' : gSt} (C : gC p s m args meth c D cI cJ ad (gA ad sz) cX6_begin 4 RX6) (hr : meth.sig.returnType = (some .int)) (hl : l.stackTraces = false) (p1 : Int32) (l1 : Int32) (s0 : Int32) (σ : gSt) : gX (F_Model_begin_B59 p1 l1 s0 σ) (r, σ') (gG p l e { frames := 3, cells := 0, slots := 0, locals := 69 } s m args below meth c D cI cJ ad (gA ad sz) 4 0 0 (MQ below (va_Qi (fun r1 (_ : Unit) => r1 = r) (fun _ t => va_P D vwCl (gw cI cJ ad σ') t.heap) (gA ad sz)) args s 0 0 (gA ad sz)) σ 59 [(0, .ref (ad 28)), (1, .int l1)] [.int s0, .ref (ad 28)]) := by
  unfold F_Model_begin_B59
  refine g_callvi (As := [.int s0]) (n := 1) C (c_Model_goes l hl D cI cJ ad s0) ⟨rfl, rfl⟩ gcl6 rfl qc81 (hR := ⟨Nat.le_of_ble_eq_true rfl, Nat.le_of_ble_eq_true rfl⟩) rfl rfl (Nat.le_of_ble_eq_true rfl) dX6_begin_59 ⟨Nat.zero_le _, Nat.zero_le _⟩ (fun r2 σ1 => ?_)
  refine g_if_ne (tgt := 67) C dX6_begin_62 (by decide) (fun h3 => ?_) (fun h3 => ?_)
  · refine g_iconst (v := (0 : Int32)) C dX6_begin_65 (by decide) ?_
    exact g_ireti C hr dX6_begin_66
  · refine g_aload_n C 0 dX6_begin_67 rfl rfl ?_
    refine g_getR (o' := 29) C 28 0 gcl6 rfl (by decide) rfl qw316 dX6_begin_68 ?_
    refine g_bipush (v := (41 : Int32)) C dX6_begin_71 (by decide) ?_
    refine g_iconst (v := (0 : Int32)) C dX6_begin_73 (by decide) ?_
    refine g_iastL (o := 29) (n := 92) C 41 ⟨by decide, by unfold vp_in; decide⟩ rfl rfl dX6_begin_74 (fun σ4 => ?_)
    refine g_aload_n C 0 dX6_begin_75 rfl rfl ?_
    refine g_getR (o' := 29) C 28 0 gcl6 rfl (by decide) rfl qw316 dX6_begin_76 ?_
    refine g_iconst (v := (0 : Int32)) C dX6_begin_79 (by decide) ?_
    refine g_iconst (v := (1 : Int32)) C dX6_begin_80 (by decide) ?_
    refine g_iastL (o := 29) (n := 92) C 0 ⟨by decide, by unfold vp_in; decide⟩ rfl rfl dX6_begin_81 (fun σ5 => ?_)
    refine g_aload_n C 0 dX6_begin_82 rfl rfl ?_
    refine g_getR (o' := 29) C 28 0 gcl6 rfl (by decide) rfl qw316 dX6_begin_83 ?_
    refine g_iconst (v := (1 : Int32)) C dX6_begin_86 (by decide) ?_
    refine g_iconst (v := (0 : Int32)) C dX6_begin_87 (by decide) ?_
    refine g_iastL (o := 29) (n := 92) C 1 ⟨by decide, by unfold vp_in; decide⟩ rfl rfl dX6_begin_88 (fun σ6 => ?_)
    refine g_aload_n C 0 dX6_begin_89 rfl rfl ?_
    refine g_getR (o' := 29) C 28 0 gcl6 rfl (by decide) rfl qw316 dX6_begin_90 ?_
    refine g_iconst (v := (2 : Int32)) C dX6_begin_93 (by decide) ?_
    refine g_iload_n C 1 dX6_begin_94 rfl rfl ?_
    refine g_iastL (o := 29) (n := 92) C 2 ⟨by decide, by unfold vp_in; decide⟩ rfl rfl dX6_begin_95 (fun σ7 => ?_)
    refine g_aload_n C 0 dX6_begin_96 rfl rfl ?_
    refine g_getR (o' := 29) C 28 0 gcl6 rfl (by decide) rfl qw316 dX6_begin_97 ?_
    refine g_iconst (v := (3 : Int32)) C dX6_begin_100 (by decide) ?_
    refine g_iconst (v := (0 : Int32)) C dX6_begin_101 (by decide) ?_
    refine g_iastL (o := 29) (n := 92) C 3 ⟨by decide, by unfold vp_in; decide⟩ rfl rfl dX6_begin_102 (fun σ8 => ?_)
    refine g_aload_n C 0 dX6_begin_103 rfl rfl ?_
    refine g_getR (o' := 29) C 28 0 gcl6 rfl (by decide) rfl qw316 dX6_begin_104 ?_
    refine g_bipush (v := (9 : Int32)) C dX6_begin_107 (by decide) ?_
    refine g_iconst (v := (-1 : Int32)) C dX6_begin_109 (by decide) ?_
    refine g_iastL (o := 29) (n := 92) C 9 ⟨by decide, by unfold vp_in; decide⟩ rfl rfl dX6_begin_110 (fun σ9 => ?_)
    refine g_iconst (v := (0 : Int32)) C dX6_begin_111 (by decide) ?_
    refine g_istore_n (L' := [(3, .int (0 : Int32)), (0, .ref (ad 28)), (1, .int l1)]) C dX6_begin_112 rfl (by decide) rfl ?_
    refine g_loc [1, 0] rfl ?_
    exact b_Model_begin_B113 C hr hl p1 100 (0 : Int32) σ9

set_option maxHeartbeats 4000000 in
set_option maxRecDepth 100000 in
theorem b_Model_begin_B37 {p : Program} {l : Launch} {e : Env} {s : State} {m : MethodId} {args : Array Value} {below : List Frame} {meth : Method} {c : Code} {D : va_G} {cI cJ : ClassId} {ad : Nat → Nat} {sz : Nat} {r : Int32} {σ' : gSt} (C : gC p s m args meth c D cI cJ ad (gA ad sz) cX6_begin 4 RX6) (hr : meth.sig.returnType = (some .int)) (hl : l.stackTraces = false) (p1 : Int32) (l1 : Int32) (s0 : Int32) (σ : gSt) : gX (F_Model_begin_B37 p1 l1 s0 σ) (r, σ') (gG p l e { frames := 3, cells := 0, slots := 0, locals := 69 } s m args below meth c D cI cJ ad (gA ad sz) 4 0 0 (MQ below (va_Qi (fun r1 (_ : Unit) => r1 = r) (fun _ t => va_P D vwCl (gw cI cJ ad σ') t.heap) (gA ad sz)) args s 0 0 (gA ad sz)) σ 37 [(0, .ref (ad 28)), (1, .int l1)] [.int s0]) := by
  unfold F_Model_begin_B37
  refine g_istore_n (L' := [(2, .int s0), (0, .ref (ad 28)), (1, .int l1)]) C dX6_begin_37 rfl (by decide) rfl ?_
  refine g_aload_n C 1 dX6_begin_38 rfl rfl ?_
  refine g_iload_n C 2 dX6_begin_39 rfl rfl ?_
  refine g_callsi (As := [.int l1]) (n := 1) C (c_Model_isTeam l hl D cI cJ ad l1) ⟨rfl, rfl⟩ qc80 (hR := ⟨Nat.le_of_ble_eq_true rfl, Nat.le_of_ble_eq_true rfl⟩) rfl rfl (Nat.le_of_ble_eq_true rfl) dX6_begin_40 ⟨Nat.zero_le _, Nat.zero_le _⟩ (fun r2 σ1 => ?_)
  refine g_if_ne (tgt := 50) C dX6_begin_43 (by decide) (fun h3 => ?_) (fun h3 => ?_)
  · refine g_iconst (v := (1 : Int32)) C dX6_begin_46 (by decide) ?_
    refine g_goto (tgt := 59) C dX6_begin_47 (by decide) ?_
    refine g_loc [1, 2] rfl ?_
    exact b_Model_begin_B59 C hr hl p1 l1 (1 : Int32) σ1
  · refine g_iload_n C 0 dX6_begin_50 rfl rfl ?_
    refine g_if_eq (tgt := 58) C dX6_begin_51 (by decide) (fun h4 => ?_) (fun h4 => ?_)
    · refine g_iconst (v := (2 : Int32)) C dX6_begin_58 (by decide) ?_
      refine g_loc [1, 2] rfl ?_
      exact b_Model_begin_B59 C hr hl p1 l1 (2 : Int32) σ1
    · refine g_iconst (v := (0 : Int32)) C dX6_begin_54 (by decide) ?_
      refine g_goto (tgt := 59) C dX6_begin_55 (by decide) ?_
      refine g_loc [1, 2] rfl ?_
      exact b_Model_begin_B59 C hr hl p1 l1 (0 : Int32) σ1

set_option maxHeartbeats 4000000 in
set_option maxRecDepth 100000 in
theorem b_Model_begin_B36 {p : Program} {l : Launch} {e : Env} {s : State} {m : MethodId} {args : Array Value} {below : List Frame} {meth : Method} {c : Code} {D : va_G} {cI cJ : ClassId} {ad : Nat → Nat} {sz : Nat} {r : Int32} {σ' : gSt} (C : gC p s m args meth c D cI cJ ad (gA ad sz) cX6_begin 4 RX6) (hr : meth.sig.returnType = (some .int)) (hl : l.stackTraces = false) (p1 : Int32) (l1 : Int32) (σ : gSt) : gX (F_Model_begin_B36 p1 l1 σ) (r, σ') (gG p l e { frames := 3, cells := 0, slots := 0, locals := 69 } s m args below meth c D cI cJ ad (gA ad sz) 4 0 0 (MQ below (va_Qi (fun r1 (_ : Unit) => r1 = r) (fun _ t => va_P D vwCl (gw cI cJ ad σ') t.heap) (gA ad sz)) args s 0 0 (gA ad sz)) σ 36 [(0, .ref (ad 28)), (1, .int l1)] []) := by
  unfold F_Model_begin_B36
  refine g_iconst (v := (0 : Int32)) C dX6_begin_36 (by decide) ?_
  refine g_loc [0, 1] rfl ?_
  exact b_Model_begin_B37 C hr hl p1 l1 (0 : Int32) σ

set_option maxHeartbeats 4000000 in
set_option maxRecDepth 100000 in
theorem c_Model_begin (l : Launch) (hl : l.stackTraces = false) (D : va_G) (cI cJ : ClassId) (ad : Nat → Nat) (p1 : Int32) : gMi l D cI cJ ad yX6_begin cX6_begin 4 (some .int) { frames := 3, cells := 0, slots := 0, locals := 69 } [.ref (ad 28), .int p1] (F_Model_begin p1) := by
  refine gStartI (L0 := [(0, .ref (ad 28)), (1, .int p1)]) RX6 (by decide) rfl rfl (Nat.le_of_ble_eq_true rfl) ?_
  intro p e s m args below meth c sz σ r σ' C hr
  unfold F_Model_begin
  refine g_aload_n C 0 dX6_begin_0 rfl rfl ?_
  refine g_getR (o' := 29) C 28 0 gcl6 rfl (by decide) rfl qw316 dX6_begin_1 ?_
  refine g_iconst (v := (0 : Int32)) C dX6_begin_4 (by decide) ?_
  refine g_ialdL (o := 29) (n := 92) C 0 ⟨by decide, by unfold vp_in; decide⟩ rfl rfl dX6_begin_5 ?_
  refine g_if_ne (tgt := 36) C dX6_begin_6 (by decide) (fun h1 => ?_) (fun h1 => ?_)
  · refine g_aload_n C 0 dX6_begin_9 rfl rfl ?_
    refine g_callvi (As := []) (n := 0) C (c_Model_isOver l hl D cI cJ ad) ⟨rfl, rfl⟩ gcl6 rfl qc82 (hR := ⟨Nat.le_of_ble_eq_true rfl, Nat.le_of_ble_eq_true rfl⟩) rfl rfl (Nat.le_of_ble_eq_true rfl) dX6_begin_10 ⟨Nat.zero_le _, Nat.zero_le _⟩ (fun r3 σ2 => ?_)
    refine g_if_ne (tgt := 36) C dX6_begin_13 (by decide) (fun h4 => ?_) (fun h4 => ?_)
    · refine g_aload_n C 0 dX6_begin_16 rfl rfl ?_
      refine g_iconst (v := (0 : Int32)) C dX6_begin_17 (by decide) ?_
      refine g_callvi (As := [.int (0 : Int32)]) (n := 1) C (c_Model_isLinedUp l hl D cI cJ ad (0 : Int32)) ⟨rfl, rfl⟩ gcl6 rfl qc85 (hR := ⟨Nat.le_of_ble_eq_true rfl, Nat.le_of_ble_eq_true rfl⟩) rfl rfl (Nat.le_of_ble_eq_true rfl) dX6_begin_18 ⟨Nat.zero_le _, Nat.zero_le _⟩ (fun r6 σ5 => ?_)
      refine g_if_eq (tgt := 36) C dX6_begin_21 (by decide) (fun h7 => ?_) (fun h7 => ?_)
      · refine g_loc [0, 1] rfl ?_
        exact b_Model_begin_B36 C hr hl p1 p1 σ5
      · refine g_aload_n C 0 dX6_begin_24 rfl rfl ?_
        refine g_iconst (v := (1 : Int32)) C dX6_begin_25 (by decide) ?_
        refine g_callvi (As := [.int (1 : Int32)]) (n := 1) C (c_Model_isLinedUp l hl D cI cJ ad (1 : Int32)) ⟨rfl, rfl⟩ gcl6 rfl qc85 (hR := ⟨Nat.le_of_ble_eq_true rfl, Nat.le_of_ble_eq_true rfl⟩) rfl rfl (Nat.le_of_ble_eq_true rfl) dX6_begin_26 ⟨Nat.zero_le _, Nat.zero_le _⟩ (fun r9 σ8 => ?_)
        refine g_if_eq (tgt := 36) C dX6_begin_29 (by decide) (fun h10 => ?_) (fun h10 => ?_)
        · refine g_loc [0, 1] rfl ?_
          exact b_Model_begin_B36 C hr hl p1 p1 σ8
        · refine g_iconst (v := (1 : Int32)) C dX6_begin_32 (by decide) ?_
          refine g_goto (tgt := 37) C dX6_begin_33 (by decide) ?_
          refine g_loc [0, 1] rfl ?_
          exact b_Model_begin_B37 C hr hl p1 p1 (1 : Int32) σ8
    · refine g_loc [0, 1] rfl ?_
      exact b_Model_begin_B36 C hr hl p1 p1 σ2
  · refine g_loc [0, 1] rfl ?_
    exact b_Model_begin_B36 C hr hl p1 p1 σ

def F_Model_rotates_B13 (p1 : Int32) : Nat → Int32 → Int32 → Int32 → gSt → Option gSt
  | 0, _, _, _, _ => none
  | n + 1, l1, l2, l3, σ => if (6 : Int32) ≤ l3 then (gbi (F_Model_slot l1 (6 : Int32) σ) fun r3 σ2 => if r3 < 0 ∨ 92 ≤ r3.toNatClampNeg then none else gl (gup σ2 29 r3.toNatClampNeg l2) fun σ4 => if ((36 : Int32) + l1) < 0 ∨ 92 ≤ ((36 : Int32) + l1).toNatClampNeg then none else if ((36 : Int32) + l1) < 0 ∨ 92 ≤ ((36 : Int32) + l1).toNatClampNeg then none else gl (gup σ4 29 ((36 : Int32) + l1).toNatClampNeg ((σ4 29 ((36 : Int32) + l1).toNatClampNeg) + (1 : Int32))) fun σ5 => if ((28 : Int32) + l1) < 0 ∨ 92 ≤ ((28 : Int32) + l1).toNatClampNeg then none else if (σ5 29 ((28 : Int32) + l1).toNatClampNeg) = (-1 : Int32) then (some σ5) else (gbi (F_Model_slot l1 (4 : Int32) σ5) fun r8 σ7 => if r8 < 0 ∨ 92 ≤ r8.toNatClampNeg then none else if ((26 : Int32) + l1) < 0 ∨ 92 ≤ ((26 : Int32) + l1).toNatClampNeg then none else if (σ7 29 r8.toNatClampNeg) = (σ7 29 ((26 : Int32) + l1).toNatClampNeg) then (gbi (F_Model_slot l1 (4 : Int32) σ7) fun r11 σ10 => if ((28 : Int32) + l1) < 0 ∨ 92 ≤ ((28 : Int32) + l1).toNatClampNeg then none else if r11 < 0 ∨ 92 ≤ r11.toNatClampNeg then none else gl (gup σ10 29 r11.toNatClampNeg (σ10 29 ((28 : Int32) + l1).toNatClampNeg)) fun σ12 => if ((28 : Int32) + l1) < 0 ∨ 92 ≤ ((28 : Int32) + l1).toNatClampNeg then none else gl (gup σ12 29 ((28 : Int32) + l1).toNatClampNeg (-1 : Int32)) fun σ13 => some σ13) else (some σ7))) else (gbi (F_Model_slot l1 l3 σ) fun r15 σ14 => gbi (F_Model_slot l1 (l3 + (1 : Int32)) σ14) fun r17 σ16 => if r17 < 0 ∨ 92 ≤ r17.toNatClampNeg then none else if r15 < 0 ∨ 92 ≤ r15.toNatClampNeg then none else gl (gup σ16 29 r15.toNatClampNeg (σ16 29 r17.toNatClampNeg)) fun σ18 => F_Model_rotates_B13 p1 n l1 l2 (l3 + (1 : Int32)) σ18)

def F_Model_rotates (p1 : Int32) (σ : gSt) : Option gSt := gbi (F_Model_slot p1 (1 : Int32) σ) fun r2 σ1 => if r2 < 0 ∨ 92 ≤ r2.toNatClampNeg then none else gl (σ1 29 r2.toNatClampNeg) fun x3 => F_Model_rotates_B13 p1 100 p1 x3 (1 : Int32) σ1

set_option maxHeartbeats 4000000 in
set_option maxRecDepth 100000 in
theorem b_Model_rotates_B13 {p : Program} {l : Launch} {e : Env} {s : State} {m : MethodId} {args : Array Value} {below : List Frame} {meth : Method} {c : Code} {D : va_G} {cI cJ : ClassId} {ad : Nat → Nat} {sz : Nat} {σ' : gSt} (C : gC p s m args meth c D cI cJ ad (gA ad sz) cX6_rotates 4 RX6) (hr : meth.sig.returnType = none) (hl : l.stackTraces = false) (p1 : Int32) : ∀ (n : Nat) (l1 : Int32) (l2 : Int32) (l3 : Int32) (σ : gSt), gX (F_Model_rotates_B13 p1 n l1 l2 l3 σ) σ' (gG p l e { frames := 1, cells := 0, slots := 0, locals := 21 } s m args below meth c D cI cJ ad (gA ad sz) 4 0 0 (MQ below (va_Qv (fun (_ : Unit) => True) (fun _ t => va_P D vwCl (gw cI cJ ad σ') t.heap) (gA ad sz)) args s 0 0 (gA ad sz)) σ 13 [(0, .ref (ad 28)), (1, .int l1), (2, .int l2), (3, .int l3)] []) := by
  intro n
  induction n with
  | zero =>
    intro l1 l2 l3 σ
    unfold F_Model_rotates_B13
    exact gX_none
  | succ n ih =>
    intro l1 l2 l3 σ
    unfold F_Model_rotates_B13
    refine g_iload_n C 3 dX6_rotates_13 rfl rfl ?_
    refine g_bipush (v := (6 : Int32)) C dX6_rotates_14 (by decide) ?_
    refine g_icmp_ge (tgt := 47) C dX6_rotates_16 (by decide) (fun h1 => ?_) (fun h1 => ?_)
    · refine g_aload_n C 0 dX6_rotates_47 rfl rfl ?_
      refine g_getR (o' := 29) C 28 0 gcl6 rfl (by decide) rfl qw316 dX6_rotates_48 ?_
      refine g_iload_n C 1 dX6_rotates_51 rfl rfl ?_
      refine g_bipush (v := (6 : Int32)) C dX6_rotates_52 (by decide) ?_
      refine g_callsi (As := [.int l1, .int (6 : Int32)]) (n := 2) C (c_Model_slot l hl D cI cJ ad l1 (6 : Int32)) ⟨rfl, rfl⟩ qc79 (hR := ⟨Nat.le_of_ble_eq_true rfl, Nat.le_of_ble_eq_true rfl⟩) rfl rfl (Nat.le_of_ble_eq_true rfl) dX6_rotates_54 ⟨Nat.zero_le _, Nat.zero_le _⟩ (fun r3 σ2 => ?_)
      refine g_iload_n C 2 dX6_rotates_57 rfl rfl ?_
      refine g_iast (o := 29) (n := 92) C rfl rfl dX6_rotates_58 (fun σ4 => ?_)
      refine g_aload_n C 0 dX6_rotates_59 rfl rfl ?_
      refine g_getR (o' := 29) C 28 0 gcl6 rfl (by decide) rfl qw316 dX6_rotates_60 ?_
      refine g_bipush (v := (36 : Int32)) C dX6_rotates_63 (by decide) ?_
      refine g_iload_n C 1 dX6_rotates_65 rfl rfl ?_
      refine g_iadd C dX6_rotates_66 ?_
      refine g_dup2 C dX6_rotates_67 rfl rfl ?_
      refine g_iald (o := 29) (n := 92) C rfl rfl dX6_rotates_68 ?_
      refine g_iconst (v := (1 : Int32)) C dX6_rotates_69 (by decide) ?_
      refine g_iadd C dX6_rotates_70 ?_
      refine g_iast (o := 29) (n := 92) C rfl rfl dX6_rotates_71 (fun σ5 => ?_)
      refine g_aload_n C 0 dX6_rotates_72 rfl rfl ?_
      refine g_getR (o' := 29) C 28 0 gcl6 rfl (by decide) rfl qw316 dX6_rotates_73 ?_
      refine g_bipush (v := (28 : Int32)) C dX6_rotates_76 (by decide) ?_
      refine g_iload_n C 1 dX6_rotates_78 rfl rfl ?_
      refine g_iadd C dX6_rotates_79 ?_
      refine g_iald (o := 29) (n := 92) C rfl rfl dX6_rotates_80 ?_
      refine g_iconst (v := (-1 : Int32)) C dX6_rotates_81 (by decide) ?_
      refine g_icmp_eq (tgt := 136) C dX6_rotates_82 (by decide) (fun h6 => ?_) (fun h6 => ?_)
      · exact g_retv C hr dX6_rotates_136
      · refine g_aload_n C 0 dX6_rotates_85 rfl rfl ?_
        refine g_getR (o' := 29) C 28 0 gcl6 rfl (by decide) rfl qw316 dX6_rotates_86 ?_
        refine g_iload_n C 1 dX6_rotates_89 rfl rfl ?_
        refine g_iconst (v := (4 : Int32)) C dX6_rotates_90 (by decide) ?_
        refine g_callsi (As := [.int l1, .int (4 : Int32)]) (n := 2) C (c_Model_slot l hl D cI cJ ad l1 (4 : Int32)) ⟨rfl, rfl⟩ qc79 (hR := ⟨Nat.le_of_ble_eq_true rfl, Nat.le_of_ble_eq_true rfl⟩) rfl rfl (Nat.le_of_ble_eq_true rfl) dX6_rotates_91 ⟨Nat.zero_le _, Nat.zero_le _⟩ (fun r8 σ7 => ?_)
        refine g_iald (o := 29) (n := 92) C rfl rfl dX6_rotates_94 ?_
        refine g_aload_n C 0 dX6_rotates_95 rfl rfl ?_
        refine g_getR (o' := 29) C 28 0 gcl6 rfl (by decide) rfl qw316 dX6_rotates_96 ?_
        refine g_bipush (v := (26 : Int32)) C dX6_rotates_99 (by decide) ?_
        refine g_iload_n C 1 dX6_rotates_101 rfl rfl ?_
        refine g_iadd C dX6_rotates_102 ?_
        refine g_iald (o := 29) (n := 92) C rfl rfl dX6_rotates_103 ?_
        refine g_icmp_ne (tgt := 136) C dX6_rotates_104 (by decide) (fun h9 => ?_) (fun h9 => ?_)
        · refine g_aload_n C 0 dX6_rotates_107 rfl rfl ?_
          refine g_getR (o' := 29) C 28 0 gcl6 rfl (by decide) rfl qw316 dX6_rotates_108 ?_
          refine g_iload_n C 1 dX6_rotates_111 rfl rfl ?_
          refine g_iconst (v := (4 : Int32)) C dX6_rotates_112 (by decide) ?_
          refine g_callsi (As := [.int l1, .int (4 : Int32)]) (n := 2) C (c_Model_slot l hl D cI cJ ad l1 (4 : Int32)) ⟨rfl, rfl⟩ qc79 (hR := ⟨Nat.le_of_ble_eq_true rfl, Nat.le_of_ble_eq_true rfl⟩) rfl rfl (Nat.le_of_ble_eq_true rfl) dX6_rotates_113 ⟨Nat.zero_le _, Nat.zero_le _⟩ (fun r11 σ10 => ?_)
          refine g_aload_n C 0 dX6_rotates_116 rfl rfl ?_
          refine g_getR (o' := 29) C 28 0 gcl6 rfl (by decide) rfl qw316 dX6_rotates_117 ?_
          refine g_bipush (v := (28 : Int32)) C dX6_rotates_120 (by decide) ?_
          refine g_iload_n C 1 dX6_rotates_122 rfl rfl ?_
          refine g_iadd C dX6_rotates_123 ?_
          refine g_iald (o := 29) (n := 92) C rfl rfl dX6_rotates_124 ?_
          refine g_iast (o := 29) (n := 92) C rfl rfl dX6_rotates_125 (fun σ12 => ?_)
          refine g_aload_n C 0 dX6_rotates_126 rfl rfl ?_
          refine g_getR (o' := 29) C 28 0 gcl6 rfl (by decide) rfl qw316 dX6_rotates_127 ?_
          refine g_bipush (v := (28 : Int32)) C dX6_rotates_130 (by decide) ?_
          refine g_iload_n C 1 dX6_rotates_132 rfl rfl ?_
          refine g_iadd C dX6_rotates_133 ?_
          refine g_iconst (v := (-1 : Int32)) C dX6_rotates_134 (by decide) ?_
          refine g_iast (o := 29) (n := 92) C rfl rfl dX6_rotates_135 (fun σ13 => ?_)
          exact g_retv C hr dX6_rotates_136
        · exact g_retv C hr dX6_rotates_136
    · refine g_aload_n C 0 dX6_rotates_19 rfl rfl ?_
      refine g_getR (o' := 29) C 28 0 gcl6 rfl (by decide) rfl qw316 dX6_rotates_20 ?_
      refine g_iload_n C 1 dX6_rotates_23 rfl rfl ?_
      refine g_iload_n C 3 dX6_rotates_24 rfl rfl ?_
      refine g_callsi (As := [.int l1, .int l3]) (n := 2) C (c_Model_slot l hl D cI cJ ad l1 l3) ⟨rfl, rfl⟩ qc79 (hR := ⟨Nat.le_of_ble_eq_true rfl, Nat.le_of_ble_eq_true rfl⟩) rfl rfl (Nat.le_of_ble_eq_true rfl) dX6_rotates_25 ⟨Nat.zero_le _, Nat.zero_le _⟩ (fun r15 σ14 => ?_)
      refine g_aload_n C 0 dX6_rotates_28 rfl rfl ?_
      refine g_getR (o' := 29) C 28 0 gcl6 rfl (by decide) rfl qw316 dX6_rotates_29 ?_
      refine g_iload_n C 1 dX6_rotates_32 rfl rfl ?_
      refine g_iload_n C 3 dX6_rotates_33 rfl rfl ?_
      refine g_iconst (v := (1 : Int32)) C dX6_rotates_34 (by decide) ?_
      refine g_iadd C dX6_rotates_35 ?_
      refine g_callsi (As := [.int l1, .int (l3 + (1 : Int32))]) (n := 2) C (c_Model_slot l hl D cI cJ ad l1 (l3 + (1 : Int32))) ⟨rfl, rfl⟩ qc79 (hR := ⟨Nat.le_of_ble_eq_true rfl, Nat.le_of_ble_eq_true rfl⟩) rfl rfl (Nat.le_of_ble_eq_true rfl) dX6_rotates_36 ⟨Nat.zero_le _, Nat.zero_le _⟩ (fun r17 σ16 => ?_)
      refine g_iald (o := 29) (n := 92) C rfl rfl dX6_rotates_39 ?_
      refine g_iast (o := 29) (n := 92) C rfl rfl dX6_rotates_40 (fun σ18 => ?_)
      refine g_iinc (v := (l3 + (1 : Int32))) (L' := [(3, .int (l3 + (1 : Int32))), (0, .ref (ad 28)), (1, .int l1), (2, .int l2)]) C 3 dX6_rotates_41 rfl (by rfl) (by decide) rfl ?_
      refine g_goto (tgt := 13) C dX6_rotates_44 (by decide) ?_
      refine g_loc [1, 2, 3, 0] rfl ?_
      exact ih l1 l2 (l3 + (1 : Int32)) σ18

set_option maxHeartbeats 4000000 in
set_option maxRecDepth 100000 in
theorem c_Model_rotates (l : Launch) (hl : l.stackTraces = false) (D : va_G) (cI cJ : ClassId) (ad : Nat → Nat) (p1 : Int32) : gMv l D cI cJ ad yX6_rotates cX6_rotates 4 none { frames := 1, cells := 0, slots := 0, locals := 21 } [.ref (ad 28), .int p1] (F_Model_rotates p1) := by
  refine gStartV (L0 := [(0, .ref (ad 28)), (1, .int p1)]) RX6 (by decide) rfl rfl (Nat.le_of_ble_eq_true rfl) ?_
  intro p e s m args below meth c sz σ σ' C hr
  unfold F_Model_rotates
  refine g_aload_n C 0 dX6_rotates_0 rfl rfl ?_
  refine g_getR (o' := 29) C 28 0 gcl6 rfl (by decide) rfl qw316 dX6_rotates_1 ?_
  refine g_iload_n C 1 dX6_rotates_4 rfl rfl ?_
  refine g_iconst (v := (1 : Int32)) C dX6_rotates_5 (by decide) ?_
  refine g_callsi (As := [.int p1, .int (1 : Int32)]) (n := 2) C (c_Model_slot l hl D cI cJ ad p1 (1 : Int32)) ⟨rfl, rfl⟩ qc79 (hR := ⟨Nat.le_of_ble_eq_true rfl, Nat.le_of_ble_eq_true rfl⟩) rfl rfl (Nat.le_of_ble_eq_true rfl) dX6_rotates_6 ⟨Nat.zero_le _, Nat.zero_le _⟩ (fun r2 σ1 => ?_)
  refine g_iald (o := 29) (n := 92) C rfl rfl dX6_rotates_9 ?_
  refine g_name ?_; intro x3
  refine g_istore_n (L' := [(2, .int x3), (0, .ref (ad 28)), (1, .int p1)]) C dX6_rotates_10 rfl (by decide) rfl ?_
  refine g_iconst (v := (1 : Int32)) C dX6_rotates_11 (by decide) ?_
  refine g_istore_n (L' := [(3, .int (1 : Int32)), (2, .int x3), (0, .ref (ad 28)), (1, .int p1)]) C dX6_rotates_12 rfl (by decide) rfl ?_
  refine g_loc [2, 3, 1, 0] rfl ?_
  exact b_Model_rotates_B13 C hr hl p1 100 p1 x3 (1 : Int32) σ1

def F_Model_scores_B152 (p1 : Int32) : Nat → Int32 → gSt → Option gSt
  | 0, _, _ => none
  | n + 1, l3, σ => if (2 : Int32) ≤ l3 then (some σ) else (if ((26 : Int32) + l3) < 0 ∨ 92 ≤ ((26 : Int32) + l3).toNatClampNeg then none else gl (gup σ 29 ((26 : Int32) + l3).toNatClampNeg (-1 : Int32)) fun σ2 => if ((28 : Int32) + l3) < 0 ∨ 92 ≤ ((28 : Int32) + l3).toNatClampNeg then none else gl (gup σ2 29 ((28 : Int32) + l3).toNatClampNeg (-1 : Int32)) fun σ3 => F_Model_scores_B152 p1 n (l3 + (1 : Int32)) σ3)

def F_Model_scores_B128 (p1 : Int32) : Nat → Int32 → gSt → Option gSt
  | 0, _, _ => none
  | n + 1, l3, σ => if (12 : Int32) ≤ l3 then (F_Model_scores_B152 p1 100 (0 : Int32) σ) else (if ((14 : Int32) + l3) < 0 ∨ 92 ≤ ((14 : Int32) + l3).toNatClampNeg then none else gl (gup σ 29 ((14 : Int32) + l3).toNatClampNeg (-1 : Int32)) fun σ2 => F_Model_scores_B128 p1 n (l3 + (1 : Int32)) σ2)

def F_Model_scores_B69 (p1 : Int32) (l1 : Int32) (s0 : Int32) (σ : gSt) : Option gSt := if ((10 : Int32) + l1) < 0 ∨ 92 ≤ ((10 : Int32) + l1).toNatClampNeg then none else if (σ 29 ((10 : Int32) + l1).toNatClampNeg) < s0 then (some σ) else (if ((10 : Int32) + l1) < 0 ∨ 92 ≤ ((10 : Int32) + l1).toNatClampNeg then none else if ((11 : Int32) - l1) < 0 ∨ 92 ≤ ((11 : Int32) - l1).toNatClampNeg then none else if (σ 29 ((10 : Int32) + l1).toNatClampNeg) < ((σ 29 ((11 : Int32) - l1).toNatClampNeg) + (2 : Int32)) then (some σ) else (if ((12 : Int32) + l1) < 0 ∨ 92 ≤ ((12 : Int32) + l1).toNatClampNeg then none else if ((12 : Int32) + l1) < 0 ∨ 92 ≤ ((12 : Int32) + l1).toNatClampNeg then none else gl (gup σ 29 ((12 : Int32) + l1).toNatClampNeg ((σ 29 ((12 : Int32) + l1).toNatClampNeg) + (1 : Int32))) fun σ3 => gl (gup σ3 29 0 (0 : Int32)) fun σ4 => F_Model_scores_B128 p1 100 (0 : Int32) σ4))

def F_Model_scores_B43 (p1 : Int32) (l1 : Int32) (σ : gSt) : Option gSt := if ((σ 29 12) + (σ 29 13)) = (4 : Int32) then (F_Model_scores_B69 p1 l1 (15 : Int32) σ) else (F_Model_scores_B69 p1 l1 (25 : Int32) σ)

def F_Model_scores (p1 : Int32) (σ : gSt) : Option gSt := if ((10 : Int32) + p1) < 0 ∨ 92 ≤ ((10 : Int32) + p1).toNatClampNeg then none else if ((10 : Int32) + p1) < 0 ∨ 92 ≤ ((10 : Int32) + p1).toNatClampNeg then none else gl (gup σ 29 ((10 : Int32) + p1).toNatClampNeg ((σ 29 ((10 : Int32) + p1).toNatClampNeg) + (1 : Int32))) fun σ1 => if (σ1 29 2) = p1 then (F_Model_scores_B43 p1 p1 σ1) else (gl (gup σ1 29 2 p1) fun σ3 => gl (gup σ3 29 9 (-1 : Int32)) fun σ4 => gbv (F_Model_rotates p1 σ4) fun σ5 => F_Model_scores_B43 p1 p1 σ5)

set_option maxHeartbeats 4000000 in
set_option maxRecDepth 100000 in
theorem b_Model_scores_B152 {p : Program} {l : Launch} {e : Env} {s : State} {m : MethodId} {args : Array Value} {below : List Frame} {meth : Method} {c : Code} {D : va_G} {cI cJ : ClassId} {ad : Nat → Nat} {sz : Nat} {σ' : gSt} (C : gC p s m args meth c D cI cJ ad (gA ad sz) cX6_scores 4 RX6) (hr : meth.sig.returnType = none) (hl : l.stackTraces = false) (p1 : Int32) : ∀ (n : Nat) (l3 : Int32) (σ : gSt), gX (F_Model_scores_B152 p1 n l3 σ) σ' (gG p l e { frames := 2, cells := 0, slots := 0, locals := 44 } s m args below meth c D cI cJ ad (gA ad sz) 4 0 0 (MQ below (va_Qv (fun (_ : Unit) => True) (fun _ t => va_P D vwCl (gw cI cJ ad σ') t.heap) (gA ad sz)) args s 0 0 (gA ad sz)) σ 152 [(0, .ref (ad 28)), (3, .int l3)] []) := by
  intro n
  induction n with
  | zero =>
    intro l3 σ
    unfold F_Model_scores_B152
    exact gX_none
  | succ n ih =>
    intro l3 σ
    unfold F_Model_scores_B152
    refine g_iload_n C 1 dX6_scores_152 rfl rfl ?_
    refine g_iconst (v := (2 : Int32)) C dX6_scores_153 (by decide) ?_
    refine g_icmp_ge (tgt := 183) C dX6_scores_154 (by decide) (fun h1 => ?_) (fun h1 => ?_)
    · exact g_retv C hr dX6_scores_183
    · refine g_aload_n C 0 dX6_scores_157 rfl rfl ?_
      refine g_getR (o' := 29) C 28 0 gcl6 rfl (by decide) rfl qw316 dX6_scores_158 ?_
      refine g_bipush (v := (26 : Int32)) C dX6_scores_161 (by decide) ?_
      refine g_iload_n C 1 dX6_scores_163 rfl rfl ?_
      refine g_iadd C dX6_scores_164 ?_
      refine g_iconst (v := (-1 : Int32)) C dX6_scores_165 (by decide) ?_
      refine g_iast (o := 29) (n := 92) C rfl rfl dX6_scores_166 (fun σ2 => ?_)
      refine g_aload_n C 0 dX6_scores_167 rfl rfl ?_
      refine g_getR (o' := 29) C 28 0 gcl6 rfl (by decide) rfl qw316 dX6_scores_168 ?_
      refine g_bipush (v := (28 : Int32)) C dX6_scores_171 (by decide) ?_
      refine g_iload_n C 1 dX6_scores_173 rfl rfl ?_
      refine g_iadd C dX6_scores_174 ?_
      refine g_iconst (v := (-1 : Int32)) C dX6_scores_175 (by decide) ?_
      refine g_iast (o := 29) (n := 92) C rfl rfl dX6_scores_176 (fun σ3 => ?_)
      refine g_iinc (v := (l3 + (1 : Int32))) (L' := [(3, .int (l3 + (1 : Int32))), (0, .ref (ad 28))]) C 1 dX6_scores_177 rfl (by rfl) (by decide) rfl ?_
      refine g_goto (tgt := 152) C dX6_scores_180 (by decide) ?_
      refine g_loc [1, 0] rfl ?_
      exact ih (l3 + (1 : Int32)) σ3

set_option maxHeartbeats 4000000 in
set_option maxRecDepth 100000 in
theorem b_Model_scores_B128 {p : Program} {l : Launch} {e : Env} {s : State} {m : MethodId} {args : Array Value} {below : List Frame} {meth : Method} {c : Code} {D : va_G} {cI cJ : ClassId} {ad : Nat → Nat} {sz : Nat} {σ' : gSt} (C : gC p s m args meth c D cI cJ ad (gA ad sz) cX6_scores 4 RX6) (hr : meth.sig.returnType = none) (hl : l.stackTraces = false) (p1 : Int32) : ∀ (n : Nat) (l3 : Int32) (σ : gSt), gX (F_Model_scores_B128 p1 n l3 σ) σ' (gG p l e { frames := 2, cells := 0, slots := 0, locals := 44 } s m args below meth c D cI cJ ad (gA ad sz) 4 0 0 (MQ below (va_Qv (fun (_ : Unit) => True) (fun _ t => va_P D vwCl (gw cI cJ ad σ') t.heap) (gA ad sz)) args s 0 0 (gA ad sz)) σ 128 [(0, .ref (ad 28)), (3, .int l3)] []) := by
  intro n
  induction n with
  | zero =>
    intro l3 σ
    unfold F_Model_scores_B128
    exact gX_none
  | succ n ih =>
    intro l3 σ
    unfold F_Model_scores_B128
    refine g_iload_n C 1 dX6_scores_128 rfl rfl ?_
    refine g_bipush (v := (12 : Int32)) C dX6_scores_129 (by decide) ?_
    refine g_icmp_ge (tgt := 150) C dX6_scores_131 (by decide) (fun h1 => ?_) (fun h1 => ?_)
    · refine g_iconst (v := (0 : Int32)) C dX6_scores_150 (by decide) ?_
      refine g_istore_n (L' := [(3, .int (0 : Int32)), (0, .ref (ad 28))]) C dX6_scores_151 rfl (by decide) rfl ?_
      refine g_loc [1, 0] rfl ?_
      exact b_Model_scores_B152 C hr hl p1 100 (0 : Int32) σ
    · refine g_aload_n C 0 dX6_scores_134 rfl rfl ?_
      refine g_getR (o' := 29) C 28 0 gcl6 rfl (by decide) rfl qw316 dX6_scores_135 ?_
      refine g_bipush (v := (14 : Int32)) C dX6_scores_138 (by decide) ?_
      refine g_iload_n C 1 dX6_scores_140 rfl rfl ?_
      refine g_iadd C dX6_scores_141 ?_
      refine g_iconst (v := (-1 : Int32)) C dX6_scores_142 (by decide) ?_
      refine g_iast (o := 29) (n := 92) C rfl rfl dX6_scores_143 (fun σ2 => ?_)
      refine g_iinc (v := (l3 + (1 : Int32))) (L' := [(3, .int (l3 + (1 : Int32))), (0, .ref (ad 28))]) C 1 dX6_scores_144 rfl (by rfl) (by decide) rfl ?_
      refine g_goto (tgt := 128) C dX6_scores_147 (by decide) ?_
      refine g_loc [1, 0] rfl ?_
      exact ih (l3 + (1 : Int32)) σ2

set_option maxHeartbeats 4000000 in
set_option maxRecDepth 100000 in
theorem b_Model_scores_B69 {p : Program} {l : Launch} {e : Env} {s : State} {m : MethodId} {args : Array Value} {below : List Frame} {meth : Method} {c : Code} {D : va_G} {cI cJ : ClassId} {ad : Nat → Nat} {sz : Nat} {σ' : gSt} (C : gC p s m args meth c D cI cJ ad (gA ad sz) cX6_scores 4 RX6) (hr : meth.sig.returnType = none) (hl : l.stackTraces = false) (p1 : Int32) (l1 : Int32) (s0 : Int32) (σ : gSt) : gX (F_Model_scores_B69 p1 l1 s0 σ) σ' (gG p l e { frames := 2, cells := 0, slots := 0, locals := 44 } s m args below meth c D cI cJ ad (gA ad sz) 4 0 0 (MQ below (va_Qv (fun (_ : Unit) => True) (fun _ t => va_P D vwCl (gw cI cJ ad σ') t.heap) (gA ad sz)) args s 0 0 (gA ad sz)) σ 69 [(0, .ref (ad 28)), (1, .int l1)] [.int s0]) := by
  unfold F_Model_scores_B69
  refine g_istore_n (L' := [(2, .int s0), (0, .ref (ad 28)), (1, .int l1)]) C dX6_scores_69 rfl (by decide) rfl ?_
  refine g_aload_n C 1 dX6_scores_70 rfl rfl ?_
  refine g_getR (o' := 29) C 28 0 gcl6 rfl (by decide) rfl qw316 dX6_scores_71 ?_
  refine g_bipush (v := (10 : Int32)) C dX6_scores_74 (by decide) ?_
  refine g_iload_n C 2 dX6_scores_76 rfl rfl ?_
  refine g_iadd C dX6_scores_77 ?_
  refine g_iald (o := 29) (n := 92) C rfl rfl dX6_scores_78 ?_
  refine g_iload_n C 0 dX6_scores_79 rfl rfl ?_
  refine g_icmp_lt (tgt := 183) C dX6_scores_80 (by decide) (fun h1 => ?_) (fun h1 => ?_)
  · exact g_retv C hr dX6_scores_183
  · refine g_aload_n C 1 dX6_scores_83 rfl rfl ?_
    refine g_getR (o' := 29) C 28 0 gcl6 rfl (by decide) rfl qw316 dX6_scores_84 ?_
    refine g_bipush (v := (10 : Int32)) C dX6_scores_87 (by decide) ?_
    refine g_iload_n C 2 dX6_scores_89 rfl rfl ?_
    refine g_iadd C dX6_scores_90 ?_
    refine g_iald (o := 29) (n := 92) C rfl rfl dX6_scores_91 ?_
    refine g_aload_n C 1 dX6_scores_92 rfl rfl ?_
    refine g_getR (o' := 29) C 28 0 gcl6 rfl (by decide) rfl qw316 dX6_scores_93 ?_
    refine g_bipush (v := (11 : Int32)) C dX6_scores_96 (by decide) ?_
    refine g_iload_n C 2 dX6_scores_98 rfl rfl ?_
    refine g_isub C dX6_scores_99 ?_
    refine g_iald (o := 29) (n := 92) C rfl rfl dX6_scores_100 ?_
    refine g_iconst (v := (2 : Int32)) C dX6_scores_101 (by decide) ?_
    refine g_iadd C dX6_scores_102 ?_
    refine g_icmp_lt (tgt := 183) C dX6_scores_103 (by decide) (fun h2 => ?_) (fun h2 => ?_)
    · exact g_retv C hr dX6_scores_183
    · refine g_aload_n C 1 dX6_scores_106 rfl rfl ?_
      refine g_getR (o' := 29) C 28 0 gcl6 rfl (by decide) rfl qw316 dX6_scores_107 ?_
      refine g_bipush (v := (12 : Int32)) C dX6_scores_110 (by decide) ?_
      refine g_iload_n C 2 dX6_scores_112 rfl rfl ?_
      refine g_iadd C dX6_scores_113 ?_
      refine g_dup2 C dX6_scores_114 rfl rfl ?_
      refine g_iald (o := 29) (n := 92) C rfl rfl dX6_scores_115 ?_
      refine g_iconst (v := (1 : Int32)) C dX6_scores_116 (by decide) ?_
      refine g_iadd C dX6_scores_117 ?_
      refine g_iast (o := 29) (n := 92) C rfl rfl dX6_scores_118 (fun σ3 => ?_)
      refine g_aload_n C 1 dX6_scores_119 rfl rfl ?_
      refine g_getR (o' := 29) C 28 0 gcl6 rfl (by decide) rfl qw316 dX6_scores_120 ?_
      refine g_iconst (v := (0 : Int32)) C dX6_scores_123 (by decide) ?_
      refine g_iconst (v := (0 : Int32)) C dX6_scores_124 (by decide) ?_
      refine g_iastL (o := 29) (n := 92) C 0 ⟨by decide, by unfold vp_in; decide⟩ rfl rfl dX6_scores_125 (fun σ4 => ?_)
      refine g_iconst (v := (0 : Int32)) C dX6_scores_126 (by decide) ?_
      refine g_istore_n (L' := [(3, .int (0 : Int32)), (2, .int s0), (0, .ref (ad 28)), (1, .int l1)]) C dX6_scores_127 rfl (by decide) rfl ?_
      refine g_loc [2, 0] rfl ?_
      exact b_Model_scores_B128 C hr hl p1 100 (0 : Int32) σ4

set_option maxHeartbeats 4000000 in
set_option maxRecDepth 100000 in
theorem b_Model_scores_B43 {p : Program} {l : Launch} {e : Env} {s : State} {m : MethodId} {args : Array Value} {below : List Frame} {meth : Method} {c : Code} {D : va_G} {cI cJ : ClassId} {ad : Nat → Nat} {sz : Nat} {σ' : gSt} (C : gC p s m args meth c D cI cJ ad (gA ad sz) cX6_scores 4 RX6) (hr : meth.sig.returnType = none) (hl : l.stackTraces = false) (p1 : Int32) (l1 : Int32) (σ : gSt) : gX (F_Model_scores_B43 p1 l1 σ) σ' (gG p l e { frames := 2, cells := 0, slots := 0, locals := 44 } s m args below meth c D cI cJ ad (gA ad sz) 4 0 0 (MQ below (va_Qv (fun (_ : Unit) => True) (fun _ t => va_P D vwCl (gw cI cJ ad σ') t.heap) (gA ad sz)) args s 0 0 (gA ad sz)) σ 43 [(0, .ref (ad 28)), (1, .int l1)] []) := by
  unfold F_Model_scores_B43
  refine g_aload_n C 0 dX6_scores_43 rfl rfl ?_
  refine g_getR (o' := 29) C 28 0 gcl6 rfl (by decide) rfl qw316 dX6_scores_44 ?_
  refine g_bipush (v := (12 : Int32)) C dX6_scores_47 (by decide) ?_
  refine g_ialdL (o := 29) (n := 92) C 12 ⟨by decide, by unfold vp_in; decide⟩ rfl rfl dX6_scores_49 ?_
  refine g_aload_n C 0 dX6_scores_50 rfl rfl ?_
  refine g_getR (o' := 29) C 28 0 gcl6 rfl (by decide) rfl qw316 dX6_scores_51 ?_
  refine g_bipush (v := (13 : Int32)) C dX6_scores_54 (by decide) ?_
  refine g_ialdL (o := 29) (n := 92) C 13 ⟨by decide, by unfold vp_in; decide⟩ rfl rfl dX6_scores_56 ?_
  refine g_iadd C dX6_scores_57 ?_
  refine g_iconst (v := (4 : Int32)) C dX6_scores_58 (by decide) ?_
  refine g_icmp_ne (tgt := 67) C dX6_scores_59 (by decide) (fun h1 => ?_) (fun h1 => ?_)
  · refine g_bipush (v := (15 : Int32)) C dX6_scores_62 (by decide) ?_
    refine g_goto (tgt := 69) C dX6_scores_64 (by decide) ?_
    refine g_loc [0, 1] rfl ?_
    exact b_Model_scores_B69 C hr hl p1 l1 (15 : Int32) σ
  · refine g_bipush (v := (25 : Int32)) C dX6_scores_67 (by decide) ?_
    refine g_loc [0, 1] rfl ?_
    exact b_Model_scores_B69 C hr hl p1 l1 (25 : Int32) σ

set_option maxHeartbeats 4000000 in
set_option maxRecDepth 100000 in
theorem c_Model_scores (l : Launch) (hl : l.stackTraces = false) (D : va_G) (cI cJ : ClassId) (ad : Nat → Nat) (p1 : Int32) : gMv l D cI cJ ad yX6_scores cX6_scores 4 none { frames := 2, cells := 0, slots := 0, locals := 44 } [.ref (ad 28), .int p1] (F_Model_scores p1) := by
  refine gStartV (L0 := [(0, .ref (ad 28)), (1, .int p1)]) RX6 (by decide) rfl rfl (Nat.le_of_ble_eq_true rfl) ?_
  intro p e s m args below meth c sz σ σ' C hr
  unfold F_Model_scores
  refine g_aload_n C 0 dX6_scores_0 rfl rfl ?_
  refine g_getR (o' := 29) C 28 0 gcl6 rfl (by decide) rfl qw316 dX6_scores_1 ?_
  refine g_bipush (v := (10 : Int32)) C dX6_scores_4 (by decide) ?_
  refine g_iload_n C 1 dX6_scores_6 rfl rfl ?_
  refine g_iadd C dX6_scores_7 ?_
  refine g_dup2 C dX6_scores_8 rfl rfl ?_
  refine g_iald (o := 29) (n := 92) C rfl rfl dX6_scores_9 ?_
  refine g_iconst (v := (1 : Int32)) C dX6_scores_10 (by decide) ?_
  refine g_iadd C dX6_scores_11 ?_
  refine g_iast (o := 29) (n := 92) C rfl rfl dX6_scores_12 (fun σ1 => ?_)
  refine g_aload_n C 0 dX6_scores_13 rfl rfl ?_
  refine g_getR (o' := 29) C 28 0 gcl6 rfl (by decide) rfl qw316 dX6_scores_14 ?_
  refine g_iconst (v := (2 : Int32)) C dX6_scores_17 (by decide) ?_
  refine g_ialdL (o := 29) (n := 92) C 2 ⟨by decide, by unfold vp_in; decide⟩ rfl rfl dX6_scores_18 ?_
  refine g_iload_n C 1 dX6_scores_19 rfl rfl ?_
  refine g_icmp_eq (tgt := 43) C dX6_scores_20 (by decide) (fun h2 => ?_) (fun h2 => ?_)
  · refine g_loc [0, 1] rfl ?_
    exact b_Model_scores_B43 C hr hl p1 p1 σ1
  · refine g_aload_n C 0 dX6_scores_23 rfl rfl ?_
    refine g_getR (o' := 29) C 28 0 gcl6 rfl (by decide) rfl qw316 dX6_scores_24 ?_
    refine g_iconst (v := (2 : Int32)) C dX6_scores_27 (by decide) ?_
    refine g_iload_n C 1 dX6_scores_28 rfl rfl ?_
    refine g_iastL (o := 29) (n := 92) C 2 ⟨by decide, by unfold vp_in; decide⟩ rfl rfl dX6_scores_29 (fun σ3 => ?_)
    refine g_aload_n C 0 dX6_scores_30 rfl rfl ?_
    refine g_getR (o' := 29) C 28 0 gcl6 rfl (by decide) rfl qw316 dX6_scores_31 ?_
    refine g_bipush (v := (9 : Int32)) C dX6_scores_34 (by decide) ?_
    refine g_iconst (v := (-1 : Int32)) C dX6_scores_36 (by decide) ?_
    refine g_iastL (o := 29) (n := 92) C 9 ⟨by decide, by unfold vp_in; decide⟩ rfl rfl dX6_scores_37 (fun σ4 => ?_)
    refine g_aload_n C 0 dX6_scores_38 rfl rfl ?_
    refine g_iload_n C 1 dX6_scores_39 rfl rfl ?_
    refine g_callvv (As := [.int p1]) (n := 1) C (c_Model_rotates l hl D cI cJ ad p1) ⟨rfl, rfl⟩ gcl6 rfl qc86 (hR := ⟨Nat.le_of_ble_eq_true rfl, Nat.le_of_ble_eq_true rfl⟩) rfl rfl (Nat.le_of_ble_eq_true rfl) dX6_scores_40 ⟨Nat.zero_le _, Nat.zero_le _⟩ (fun σ5 => ?_)
    refine g_loc [0, 1] rfl ?_
    exact b_Model_scores_B43 C hr hl p1 p1 σ5

def F_Model_wins (p1 : Int32) (p2 : Int32) (σ : gSt) : Option gSt := gl ((1 : Int32) - p1) fun x1 => if ((36 : Int32) + x1) < 0 ∨ 92 ≤ ((36 : Int32) + x1).toNatClampNeg then none else if (((80 : Int32) + ((6 : Int32) * x1)) + ((σ 29 ((36 : Int32) + x1).toNatClampNeg) - (σ 29 ((36 : Int32) + x1).toNatClampNeg) / (6 : Int32) * (6 : Int32))) < 0 ∨ 92 ≤ (((80 : Int32) + ((6 : Int32) * x1)) + ((σ 29 ((36 : Int32) + x1).toNatClampNeg) - (σ 29 ((36 : Int32) + x1).toNatClampNeg) / (6 : Int32) * (6 : Int32))).toNatClampNeg then none else if (((80 : Int32) + ((6 : Int32) * x1)) + ((σ 29 ((36 : Int32) + x1).toNatClampNeg) - (σ 29 ((36 : Int32) + x1).toNatClampNeg) / (6 : Int32) * (6 : Int32))) < 0 ∨ 92 ≤ (((80 : Int32) + ((6 : Int32) * x1)) + ((σ 29 ((36 : Int32) + x1).toNatClampNeg) - (σ 29 ((36 : Int32) + x1).toNatClampNeg) / (6 : Int32) * (6 : Int32))).toNatClampNeg then none else gl (gup σ 29 (((80 : Int32) + ((6 : Int32) * x1)) + ((σ 29 ((36 : Int32) + x1).toNatClampNeg) - (σ 29 ((36 : Int32) + x1).toNatClampNeg) / (6 : Int32) * (6 : Int32))).toNatClampNeg ((σ 29 (((80 : Int32) + ((6 : Int32) * x1)) + ((σ 29 ((36 : Int32) + x1).toNatClampNeg) - (σ 29 ((36 : Int32) + x1).toNatClampNeg) / (6 : Int32) * (6 : Int32))).toNatClampNeg) + (1 : Int32))) fun σ2 => gl (gup σ2 29 1 (0 : Int32)) fun σ3 => gl (gup σ3 29 3 p2) fun σ4 => gl (gup σ4 29 40 x1) fun σ5 => gl (gup σ5 29 30 (0 : Int32)) fun σ6 => gl (gup σ6 29 31 (0 : Int32)) fun σ7 => gbv (F_Model_scores p1 σ7) fun σ8 => some σ8

set_option maxHeartbeats 4000000 in
set_option maxRecDepth 100000 in
theorem c_Model_wins (l : Launch) (hl : l.stackTraces = false) (D : va_G) (cI cJ : ClassId) (ad : Nat → Nat) (p1 : Int32) (p2 : Int32) : gMv l D cI cJ ad yX6_wins cX6_wins 4 none { frames := 3, cells := 0, slots := 0, locals := 67 } [.ref (ad 28), .int p1, .int p2] (F_Model_wins p1 p2) := by
  refine gStartV (L0 := [(0, .ref (ad 28)), (1, .int p1), (2, .int p2)]) RX6 (by decide) rfl rfl (Nat.le_of_ble_eq_true rfl) ?_
  intro p e s m args below meth c sz σ σ' C hr
  unfold F_Model_wins
  refine g_iconst (v := (1 : Int32)) C dX6_wins_0 (by decide) ?_
  refine g_iload_n C 1 dX6_wins_1 rfl rfl ?_
  refine g_isub C dX6_wins_2 ?_
  refine g_name ?_; intro x1
  refine g_istore_n (L' := [(3, .int x1), (0, .ref (ad 28)), (1, .int p1), (2, .int p2)]) C dX6_wins_3 rfl (by decide) rfl ?_
  refine g_aload_n C 1 dX6_wins_4 rfl rfl ?_
  refine g_getR (o' := 29) C 28 0 gcl6 rfl (by decide) rfl qw316 dX6_wins_5 ?_
  refine g_bipush (v := (80 : Int32)) C dX6_wins_8 (by decide) ?_
  refine g_bipush (v := (6 : Int32)) C dX6_wins_10 (by decide) ?_
  refine g_iload_n C 0 dX6_wins_12 rfl rfl ?_
  refine g_imul C dX6_wins_13 ?_
  refine g_iadd C dX6_wins_14 ?_
  refine g_aload_n C 1 dX6_wins_15 rfl rfl ?_
  refine g_getR (o' := 29) C 28 0 gcl6 rfl (by decide) rfl qw316 dX6_wins_16 ?_
  refine g_bipush (v := (36 : Int32)) C dX6_wins_19 (by decide) ?_
  refine g_iload_n C 0 dX6_wins_21 rfl rfl ?_
  refine g_iadd C dX6_wins_22 ?_
  refine g_iald (o := 29) (n := 92) C rfl rfl dX6_wins_23 ?_
  refine g_bipush (v := (6 : Int32)) C dX6_wins_24 (by decide) ?_
  refine g_irem C dX6_wins_26 (by decide) ?_
  refine g_iadd C dX6_wins_27 ?_
  refine g_dup2 C dX6_wins_28 rfl rfl ?_
  refine g_iald (o := 29) (n := 92) C rfl rfl dX6_wins_29 ?_
  refine g_iconst (v := (1 : Int32)) C dX6_wins_30 (by decide) ?_
  refine g_iadd C dX6_wins_31 ?_
  refine g_iast (o := 29) (n := 92) C rfl rfl dX6_wins_32 (fun σ2 => ?_)
  refine g_aload_n C 1 dX6_wins_33 rfl rfl ?_
  refine g_getR (o' := 29) C 28 0 gcl6 rfl (by decide) rfl qw316 dX6_wins_34 ?_
  refine g_iconst (v := (1 : Int32)) C dX6_wins_37 (by decide) ?_
  refine g_iconst (v := (0 : Int32)) C dX6_wins_38 (by decide) ?_
  refine g_iastL (o := 29) (n := 92) C 1 ⟨by decide, by unfold vp_in; decide⟩ rfl rfl dX6_wins_39 (fun σ3 => ?_)
  refine g_aload_n C 1 dX6_wins_40 rfl rfl ?_
  refine g_getR (o' := 29) C 28 0 gcl6 rfl (by decide) rfl qw316 dX6_wins_41 ?_
  refine g_iconst (v := (3 : Int32)) C dX6_wins_44 (by decide) ?_
  refine g_iload_n C 3 dX6_wins_45 rfl rfl ?_
  refine g_iastL (o := 29) (n := 92) C 3 ⟨by decide, by unfold vp_in; decide⟩ rfl rfl dX6_wins_46 (fun σ4 => ?_)
  refine g_aload_n C 1 dX6_wins_47 rfl rfl ?_
  refine g_getR (o' := 29) C 28 0 gcl6 rfl (by decide) rfl qw316 dX6_wins_48 ?_
  refine g_bipush (v := (40 : Int32)) C dX6_wins_51 (by decide) ?_
  refine g_iload_n C 0 dX6_wins_53 rfl rfl ?_
  refine g_iastL (o := 29) (n := 92) C 40 ⟨by decide, by unfold vp_in; decide⟩ rfl rfl dX6_wins_54 (fun σ5 => ?_)
  refine g_aload_n C 1 dX6_wins_55 rfl rfl ?_
  refine g_getR (o' := 29) C 28 0 gcl6 rfl (by decide) rfl qw316 dX6_wins_56 ?_
  refine g_bipush (v := (30 : Int32)) C dX6_wins_59 (by decide) ?_
  refine g_iconst (v := (0 : Int32)) C dX6_wins_61 (by decide) ?_
  refine g_iastL (o := 29) (n := 92) C 30 ⟨by decide, by unfold vp_in; decide⟩ rfl rfl dX6_wins_62 (fun σ6 => ?_)
  refine g_aload_n C 1 dX6_wins_63 rfl rfl ?_
  refine g_getR (o' := 29) C 28 0 gcl6 rfl (by decide) rfl qw316 dX6_wins_64 ?_
  refine g_bipush (v := (31 : Int32)) C dX6_wins_67 (by decide) ?_
  refine g_iconst (v := (0 : Int32)) C dX6_wins_69 (by decide) ?_
  refine g_iastL (o := 29) (n := 92) C 31 ⟨by decide, by unfold vp_in; decide⟩ rfl rfl dX6_wins_70 (fun σ7 => ?_)
  refine g_aload_n C 1 dX6_wins_71 rfl rfl ?_
  refine g_iload_n C 2 dX6_wins_72 rfl rfl ?_
  refine g_callvv (As := [.int p1]) (n := 1) C (c_Model_scores l hl D cI cJ ad p1) ⟨rfl, rfl⟩ gcl6 rfl qc87 (hR := ⟨Nat.le_of_ble_eq_true rfl, Nat.le_of_ble_eq_true rfl⟩) rfl rfl (Nat.le_of_ble_eq_true rfl) dX6_wins_73 ⟨Nat.zero_le _, Nat.zero_le _⟩ (fun σ8 => ?_)
  exact g_retv C hr dX6_wins_76

def F_Model_ends_B2 (p1 : Int32) (p2 : Int32) : Nat → Int32 → Int32 → Int32 → gSt → Option gSt
  | 0, _, _, _, _ => none
  | n + 1, l1, l2, l3, σ => if (92 : Int32) ≤ l3 then (gbv (F_Model_wins l1 l2 σ) fun σ2 => gl (gup σ2 29 41 (1 : Int32)) fun σ3 => some σ3) else (if l3 < 0 ∨ 92 ≤ l3.toNatClampNeg then none else if l3 < 0 ∨ 92 ≤ l3.toNatClampNeg then none else gl (gup σ 30 l3.toNatClampNeg (σ 29 l3.toNatClampNeg)) fun σ4 => F_Model_ends_B2 p1 p2 n l1 l2 (l3 + (1 : Int32)) σ4)

def F_Model_ends (p1 : Int32) (p2 : Int32) (σ : gSt) : Option gSt := F_Model_ends_B2 p1 p2 100 p1 p2 (0 : Int32) σ

set_option maxHeartbeats 4000000 in
set_option maxRecDepth 100000 in
theorem b_Model_ends_B2 {p : Program} {l : Launch} {e : Env} {s : State} {m : MethodId} {args : Array Value} {below : List Frame} {meth : Method} {c : Code} {D : va_G} {cI cJ : ClassId} {ad : Nat → Nat} {sz : Nat} {σ' : gSt} (C : gC p s m args meth c D cI cJ ad (gA ad sz) cX6_ends 4 RX6) (hr : meth.sig.returnType = none) (hl : l.stackTraces = false) (p1 : Int32) (p2 : Int32) : ∀ (n : Nat) (l1 : Int32) (l2 : Int32) (l3 : Int32) (σ : gSt), gX (F_Model_ends_B2 p1 p2 n l1 l2 l3 σ) σ' (gG p l e { frames := 4, cells := 0, slots := 0, locals := 90 } s m args below meth c D cI cJ ad (gA ad sz) 4 0 0 (MQ below (va_Qv (fun (_ : Unit) => True) (fun _ t => va_P D vwCl (gw cI cJ ad σ') t.heap) (gA ad sz)) args s 0 0 (gA ad sz)) σ 2 [(0, .ref (ad 28)), (1, .int l1), (2, .int l2), (3, .int l3)] []) := by
  intro n
  induction n with
  | zero =>
    intro l1 l2 l3 σ
    unfold F_Model_ends_B2
    exact gX_none
  | succ n ih =>
    intro l1 l2 l3 σ
    unfold F_Model_ends_B2
    refine g_iload_n C 3 dX6_ends_2 rfl rfl ?_
    refine g_bipush (v := (92 : Int32)) C dX6_ends_3 (by decide) ?_
    refine g_icmp_ge (tgt := 26) C dX6_ends_5 (by decide) (fun h1 => ?_) (fun h1 => ?_)
    · refine g_aload_n C 0 dX6_ends_26 rfl rfl ?_
      refine g_iload_n C 1 dX6_ends_27 rfl rfl ?_
      refine g_iload_n C 2 dX6_ends_28 rfl rfl ?_
      refine g_callvv (As := [.int l1, .int l2]) (n := 2) C (c_Model_wins l hl D cI cJ ad l1 l2) ⟨rfl, rfl⟩ gcl6 rfl qc88 (hR := ⟨Nat.le_of_ble_eq_true rfl, Nat.le_of_ble_eq_true rfl⟩) rfl rfl (Nat.le_of_ble_eq_true rfl) dX6_ends_29 ⟨Nat.zero_le _, Nat.zero_le _⟩ (fun σ2 => ?_)
      refine g_aload_n C 0 dX6_ends_32 rfl rfl ?_
      refine g_getR (o' := 29) C 28 0 gcl6 rfl (by decide) rfl qw316 dX6_ends_33 ?_
      refine g_bipush (v := (41 : Int32)) C dX6_ends_36 (by decide) ?_
      refine g_iconst (v := (1 : Int32)) C dX6_ends_38 (by decide) ?_
      refine g_iastL (o := 29) (n := 92) C 41 ⟨by decide, by unfold vp_in; decide⟩ rfl rfl dX6_ends_39 (fun σ3 => ?_)
      exact g_retv C hr dX6_ends_40
    · refine g_aload_n C 0 dX6_ends_8 rfl rfl ?_
      refine g_getR (o' := 30) C 28 1 gcl6 rfl (by decide) rfl qw358 dX6_ends_9 ?_
      refine g_iload_n C 3 dX6_ends_12 rfl rfl ?_
      refine g_aload_n C 0 dX6_ends_13 rfl rfl ?_
      refine g_getR (o' := 29) C 28 0 gcl6 rfl (by decide) rfl qw316 dX6_ends_14 ?_
      refine g_iload_n C 3 dX6_ends_17 rfl rfl ?_
      refine g_iald (o := 29) (n := 92) C rfl rfl dX6_ends_18 ?_
      refine g_iast (o := 30) (n := 92) C rfl rfl dX6_ends_19 (fun σ4 => ?_)
      refine g_iinc (v := (l3 + (1 : Int32))) (L' := [(3, .int (l3 + (1 : Int32))), (0, .ref (ad 28)), (1, .int l1), (2, .int l2)]) C 3 dX6_ends_20 rfl (by rfl) (by decide) rfl ?_
      refine g_goto (tgt := 2) C dX6_ends_23 (by decide) ?_
      refine g_loc [1, 2, 3, 0] rfl ?_
      exact ih l1 l2 (l3 + (1 : Int32)) σ4

set_option maxHeartbeats 4000000 in
set_option maxRecDepth 100000 in
theorem c_Model_ends (l : Launch) (hl : l.stackTraces = false) (D : va_G) (cI cJ : ClassId) (ad : Nat → Nat) (p1 : Int32) (p2 : Int32) : gMv l D cI cJ ad yX6_ends cX6_ends 4 none { frames := 4, cells := 0, slots := 0, locals := 90 } [.ref (ad 28), .int p1, .int p2] (F_Model_ends p1 p2) := by
  refine gStartV (L0 := [(0, .ref (ad 28)), (1, .int p1), (2, .int p2)]) RX6 (by decide) rfl rfl (Nat.le_of_ble_eq_true rfl) ?_
  intro p e s m args below meth c sz σ σ' C hr
  unfold F_Model_ends
  refine g_iconst (v := (0 : Int32)) C dX6_ends_0 (by decide) ?_
  refine g_istore_n (L' := [(3, .int (0 : Int32)), (0, .ref (ad 28)), (1, .int p1), (2, .int p2)]) C dX6_ends_1 rfl (by decide) rfl ?_
  refine g_loc [1, 2, 3, 0] rfl ?_
  exact b_Model_ends_B2 C hr hl p1 p2 100 p1 p2 (0 : Int32) σ

def F_Model_serve_B142 (p1 : Int32) (l1 : Int32) (l4 : Int32) (s0 : Int32) (s1 : Int32) (σ : gSt) : Option (Int32 × gSt) := if s1 < 0 ∨ 92 ≤ s1.toNatClampNeg then none else gl (gup σ 29 s1.toNatClampNeg s0) fun σ1 => gl (gup σ1 29 41 (0 : Int32)) fun σ2 => gl (gup σ2 29 1 (1 : Int32)) fun σ3 => gl (gup σ3 29 4 (σ3 29 2)) fun σ4 => gl (gup σ4 29 5 l1) fun σ5 => gl (gup σ5 29 6 (0 : Int32)) fun σ6 => gl (gup σ6 29 7 (0 : Int32)) fun σ7 => gl (gup σ7 29 8 (1 : Int32)) fun σ8 => gl (gup σ8 29 38 (0 : Int32)) fun σ9 => gl (gup σ9 29 39 (0 : Int32)) fun σ10 => if l4 = 0 ∨ l4 = 1 then some (l4, σ10) else none

def F_Model_serve_B135 (p1 : Int32) (l1 : Int32) (l4 : Int32) (s0 : Int32) (σ : gSt) : Option (Int32 × gSt) := F_Model_serve_B142 p1 l1 l4 (σ 29 9) s0 σ

def F_Model_serve_B94 (p1 : Int32) (l1 : Int32) (s0 : Int32) (σ : gSt) : Option (Int32 × gSt) := if s0 = (0 : Int32) then (if (σ 29 9) = (-1 : Int32) then (if ((10 : Int32) + (σ 29 2)) < 0 ∨ 92 ≤ ((10 : Int32) + (σ 29 2)).toNatClampNeg then none else F_Model_serve_B142 p1 l1 s0 (σ 29 ((10 : Int32) + (σ 29 2)).toNatClampNeg) (9 : Int32) σ) else (F_Model_serve_B135 p1 l1 s0 (9 : Int32) σ)) else (F_Model_serve_B135 p1 l1 s0 (9 : Int32) σ)

def F_Model_serve_B66 (p1 : Int32) (l1 : Int32) (s0 : Int32) (σ : gSt) : Option (Int32 × gSt) := gbi (F_Model_goes s0 σ) fun r2 σ1 => if r2 = (0 : Int32) then (some ((0 : Int32), σ1)) else (gbi (F_Model_place (σ1 29 2) l1 σ1) fun r5 σ4 => if r5 = (1 : Int32) then (F_Model_serve_B94 p1 l1 (1 : Int32) σ4) else (F_Model_serve_B94 p1 l1 (0 : Int32) σ4))

def F_Model_serve_B47 (p1 : Int32) (l1 : Int32) (l2 : Int32) (s0 : Int32) (σ : gSt) : Option (Int32 × gSt) := if l2 = (0 : Int32) then (F_Model_serve_B66 p1 l1 (1 : Int32) σ) else (if s0 = (0 : Int32) then (F_Model_serve_B66 p1 l1 (2 : Int32) σ) else (F_Model_serve_B66 p1 l1 (0 : Int32) σ))

def F_Model_serve_B46 (p1 : Int32) (l1 : Int32) (l2 : Int32) (σ : gSt) : Option (Int32 × gSt) := F_Model_serve_B47 p1 l1 l2 (0 : Int32) σ

def F_Model_serve (p1 : Int32) (σ : gSt) : Option (Int32 × gSt) := gbi (F_Model_isShirt p1 σ) fun r2 σ1 => if r2 = (0 : Int32) then (F_Model_serve_B46 p1 p1 r2 σ1) else (if (σ1 29 0) = (1 : Int32) then (if (σ1 29 1) = (0 : Int32) then (gbi (F_Model_place (σ1 29 2) p1 σ1) fun r7 σ6 => if r7 ≤ (0 : Int32) then (F_Model_serve_B46 p1 p1 r2 σ6) else (F_Model_serve_B47 p1 p1 r2 (1 : Int32) σ6)) else (F_Model_serve_B46 p1 p1 r2 σ1)) else (F_Model_serve_B46 p1 p1 r2 σ1))

set_option maxHeartbeats 4000000 in
set_option maxRecDepth 100000 in
theorem b_Model_serve_B142 {p : Program} {l : Launch} {e : Env} {s : State} {m : MethodId} {args : Array Value} {below : List Frame} {meth : Method} {c : Code} {D : va_G} {cI cJ : ClassId} {ad : Nat → Nat} {sz : Nat} {r : Int32} {σ' : gSt} (C : gC p s m args meth c D cI cJ ad (gA ad sz) cX6_serve 5 RX6) (hr : meth.sig.returnType = (some .boolean)) (hl : l.stackTraces = false) (p1 : Int32) (l1 : Int32) (l4 : Int32) (s0 : Int32) (s1 : Int32) (σ : gSt) : gX (F_Model_serve_B142 p1 l1 l4 s0 s1 σ) (r, σ') (gG p l e { frames := 2, cells := 0, slots := 0, locals := 45 } s m args below meth c D cI cJ ad (gA ad sz) 5 0 0 (MQ below (va_Qi (fun r1 (_ : Unit) => r1 = r) (fun _ t => va_P D vwCl (gw cI cJ ad σ') t.heap) (gA ad sz)) args s 0 0 (gA ad sz)) σ 142 [(0, .ref (ad 28)), (1, .int l1), (4, .int l4)] [.int s0, .int s1, .ref (ad 29)]) := by
  unfold F_Model_serve_B142
  refine g_iast (o := 29) (n := 92) C rfl rfl dX6_serve_142 (fun σ1 => ?_)
  refine g_aload_n C 0 dX6_serve_143 rfl rfl ?_
  refine g_getR (o' := 29) C 28 0 gcl6 rfl (by decide) rfl qw316 dX6_serve_144 ?_
  refine g_bipush (v := (41 : Int32)) C dX6_serve_147 (by decide) ?_
  refine g_iconst (v := (0 : Int32)) C dX6_serve_149 (by decide) ?_
  refine g_iastL (o := 29) (n := 92) C 41 ⟨by decide, by unfold vp_in; decide⟩ rfl rfl dX6_serve_150 (fun σ2 => ?_)
  refine g_aload_n C 0 dX6_serve_151 rfl rfl ?_
  refine g_getR (o' := 29) C 28 0 gcl6 rfl (by decide) rfl qw316 dX6_serve_152 ?_
  refine g_iconst (v := (1 : Int32)) C dX6_serve_155 (by decide) ?_
  refine g_iconst (v := (1 : Int32)) C dX6_serve_156 (by decide) ?_
  refine g_iastL (o := 29) (n := 92) C 1 ⟨by decide, by unfold vp_in; decide⟩ rfl rfl dX6_serve_157 (fun σ3 => ?_)
  refine g_aload_n C 0 dX6_serve_158 rfl rfl ?_
  refine g_getR (o' := 29) C 28 0 gcl6 rfl (by decide) rfl qw316 dX6_serve_159 ?_
  refine g_iconst (v := (4 : Int32)) C dX6_serve_162 (by decide) ?_
  refine g_aload_n C 0 dX6_serve_163 rfl rfl ?_
  refine g_getR (o' := 29) C 28 0 gcl6 rfl (by decide) rfl qw316 dX6_serve_164 ?_
  refine g_iconst (v := (2 : Int32)) C dX6_serve_167 (by decide) ?_
  refine g_ialdL (o := 29) (n := 92) C 2 ⟨by decide, by unfold vp_in; decide⟩ rfl rfl dX6_serve_168 ?_
  refine g_iastL (o := 29) (n := 92) C 4 ⟨by decide, by unfold vp_in; decide⟩ rfl rfl dX6_serve_169 (fun σ4 => ?_)
  refine g_aload_n C 0 dX6_serve_170 rfl rfl ?_
  refine g_getR (o' := 29) C 28 0 gcl6 rfl (by decide) rfl qw316 dX6_serve_171 ?_
  refine g_iconst (v := (5 : Int32)) C dX6_serve_174 (by decide) ?_
  refine g_iload_n C 1 dX6_serve_175 rfl rfl ?_
  refine g_iastL (o := 29) (n := 92) C 5 ⟨by decide, by unfold vp_in; decide⟩ rfl rfl dX6_serve_176 (fun σ5 => ?_)
  refine g_aload_n C 0 dX6_serve_177 rfl rfl ?_
  refine g_getR (o' := 29) C 28 0 gcl6 rfl (by decide) rfl qw316 dX6_serve_178 ?_
  refine g_bipush (v := (6 : Int32)) C dX6_serve_181 (by decide) ?_
  refine g_iconst (v := (0 : Int32)) C dX6_serve_183 (by decide) ?_
  refine g_iastL (o := 29) (n := 92) C 6 ⟨by decide, by unfold vp_in; decide⟩ rfl rfl dX6_serve_184 (fun σ6 => ?_)
  refine g_aload_n C 0 dX6_serve_185 rfl rfl ?_
  refine g_getR (o' := 29) C 28 0 gcl6 rfl (by decide) rfl qw316 dX6_serve_186 ?_
  refine g_bipush (v := (7 : Int32)) C dX6_serve_189 (by decide) ?_
  refine g_iconst (v := (0 : Int32)) C dX6_serve_191 (by decide) ?_
  refine g_iastL (o := 29) (n := 92) C 7 ⟨by decide, by unfold vp_in; decide⟩ rfl rfl dX6_serve_192 (fun σ7 => ?_)
  refine g_aload_n C 0 dX6_serve_193 rfl rfl ?_
  refine g_getR (o' := 29) C 28 0 gcl6 rfl (by decide) rfl qw316 dX6_serve_194 ?_
  refine g_bipush (v := (8 : Int32)) C dX6_serve_197 (by decide) ?_
  refine g_iconst (v := (1 : Int32)) C dX6_serve_199 (by decide) ?_
  refine g_iastL (o := 29) (n := 92) C 8 ⟨by decide, by unfold vp_in; decide⟩ rfl rfl dX6_serve_200 (fun σ8 => ?_)
  refine g_aload_n C 0 dX6_serve_201 rfl rfl ?_
  refine g_getR (o' := 29) C 28 0 gcl6 rfl (by decide) rfl qw316 dX6_serve_202 ?_
  refine g_bipush (v := (38 : Int32)) C dX6_serve_205 (by decide) ?_
  refine g_iconst (v := (0 : Int32)) C dX6_serve_207 (by decide) ?_
  refine g_iastL (o := 29) (n := 92) C 38 ⟨by decide, by unfold vp_in; decide⟩ rfl rfl dX6_serve_208 (fun σ9 => ?_)
  refine g_aload_n C 0 dX6_serve_209 rfl rfl ?_
  refine g_getR (o' := 29) C 28 0 gcl6 rfl (by decide) rfl qw316 dX6_serve_210 ?_
  refine g_bipush (v := (39 : Int32)) C dX6_serve_213 (by decide) ?_
  refine g_iconst (v := (0 : Int32)) C dX6_serve_215 (by decide) ?_
  refine g_iastL (o := 29) (n := 92) C 39 ⟨by decide, by unfold vp_in; decide⟩ rfl rfl dX6_serve_216 (fun σ10 => ?_)
  refine g_iload C 2 dX6_serve_217 rfl ?_
  refine gX_z (fun z11 => ?_)
  exact g_iretz C z11 hr dX6_serve_219

set_option maxHeartbeats 4000000 in
set_option maxRecDepth 100000 in
theorem b_Model_serve_B135 {p : Program} {l : Launch} {e : Env} {s : State} {m : MethodId} {args : Array Value} {below : List Frame} {meth : Method} {c : Code} {D : va_G} {cI cJ : ClassId} {ad : Nat → Nat} {sz : Nat} {r : Int32} {σ' : gSt} (C : gC p s m args meth c D cI cJ ad (gA ad sz) cX6_serve 5 RX6) (hr : meth.sig.returnType = (some .boolean)) (hl : l.stackTraces = false) (p1 : Int32) (l1 : Int32) (l4 : Int32) (s0 : Int32) (σ : gSt) : gX (F_Model_serve_B135 p1 l1 l4 s0 σ) (r, σ') (gG p l e { frames := 2, cells := 0, slots := 0, locals := 45 } s m args below meth c D cI cJ ad (gA ad sz) 5 0 0 (MQ below (va_Qi (fun r1 (_ : Unit) => r1 = r) (fun _ t => va_P D vwCl (gw cI cJ ad σ') t.heap) (gA ad sz)) args s 0 0 (gA ad sz)) σ 135 [(0, .ref (ad 28)), (1, .int l1), (4, .int l4)] [.int s0, .ref (ad 29)]) := by
  unfold F_Model_serve_B135
  refine g_aload_n C 0 dX6_serve_135 rfl rfl ?_
  refine g_getR (o' := 29) C 28 0 gcl6 rfl (by decide) rfl qw316 dX6_serve_136 ?_
  refine g_bipush (v := (9 : Int32)) C dX6_serve_139 (by decide) ?_
  refine g_ialdL (o := 29) (n := 92) C 9 ⟨by decide, by unfold vp_in; decide⟩ rfl rfl dX6_serve_141 ?_
  refine g_loc [0, 1, 2] rfl ?_
  exact b_Model_serve_B142 C hr hl p1 l1 l4 (σ 29 9) s0 σ

set_option maxHeartbeats 4000000 in
set_option maxRecDepth 100000 in
theorem b_Model_serve_B94 {p : Program} {l : Launch} {e : Env} {s : State} {m : MethodId} {args : Array Value} {below : List Frame} {meth : Method} {c : Code} {D : va_G} {cI cJ : ClassId} {ad : Nat → Nat} {sz : Nat} {r : Int32} {σ' : gSt} (C : gC p s m args meth c D cI cJ ad (gA ad sz) cX6_serve 5 RX6) (hr : meth.sig.returnType = (some .boolean)) (hl : l.stackTraces = false) (p1 : Int32) (l1 : Int32) (s0 : Int32) (σ : gSt) : gX (F_Model_serve_B94 p1 l1 s0 σ) (r, σ') (gG p l e { frames := 2, cells := 0, slots := 0, locals := 45 } s m args below meth c D cI cJ ad (gA ad sz) 5 0 0 (MQ below (va_Qi (fun r1 (_ : Unit) => r1 = r) (fun _ t => va_P D vwCl (gw cI cJ ad σ') t.heap) (gA ad sz)) args s 0 0 (gA ad sz)) σ 94 [(0, .ref (ad 28)), (1, .int l1)] [.int s0]) := by
  unfold F_Model_serve_B94
  refine g_istore (L' := [(4, .int s0), (0, .ref (ad 28)), (1, .int l1)]) C dX6_serve_94 (by decide) rfl ?_
  refine g_aload_n C 1 dX6_serve_96 rfl rfl ?_
  refine g_getR (o' := 29) C 28 0 gcl6 rfl (by decide) rfl qw316 dX6_serve_97 ?_
  refine g_bipush (v := (9 : Int32)) C dX6_serve_100 (by decide) ?_
  refine g_iload C 0 dX6_serve_102 rfl ?_
  refine g_if_ne (tgt := 135) C dX6_serve_104 (by decide) (fun h1 => ?_) (fun h1 => ?_)
  · refine g_aload_n C 1 dX6_serve_107 rfl rfl ?_
    refine g_getR (o' := 29) C 28 0 gcl6 rfl (by decide) rfl qw316 dX6_serve_108 ?_
    refine g_bipush (v := (9 : Int32)) C dX6_serve_111 (by decide) ?_
    refine g_ialdL (o := 29) (n := 92) C 9 ⟨by decide, by unfold vp_in; decide⟩ rfl rfl dX6_serve_113 ?_
    refine g_iconst (v := (-1 : Int32)) C dX6_serve_114 (by decide) ?_
    refine g_icmp_ne (tgt := 135) C dX6_serve_115 (by decide) (fun h2 => ?_) (fun h2 => ?_)
    · refine g_aload_n C 1 dX6_serve_118 rfl rfl ?_
      refine g_getR (o' := 29) C 28 0 gcl6 rfl (by decide) rfl qw316 dX6_serve_119 ?_
      refine g_bipush (v := (10 : Int32)) C dX6_serve_122 (by decide) ?_
      refine g_aload_n C 1 dX6_serve_124 rfl rfl ?_
      refine g_getR (o' := 29) C 28 0 gcl6 rfl (by decide) rfl qw316 dX6_serve_125 ?_
      refine g_iconst (v := (2 : Int32)) C dX6_serve_128 (by decide) ?_
      refine g_ialdL (o := 29) (n := 92) C 2 ⟨by decide, by unfold vp_in; decide⟩ rfl rfl dX6_serve_129 ?_
      refine g_iadd C dX6_serve_130 ?_
      refine g_iald (o := 29) (n := 92) C rfl rfl dX6_serve_131 ?_
      refine g_goto (tgt := 142) C dX6_serve_132 (by decide) ?_
      refine g_loc [1, 2, 0] rfl ?_
      exact b_Model_serve_B142 C hr hl p1 l1 s0 (σ 29 ((10 : Int32) + (σ 29 2)).toNatClampNeg) (9 : Int32) σ
    · refine g_loc [1, 2, 0] rfl ?_
      exact b_Model_serve_B135 C hr hl p1 l1 s0 (9 : Int32) σ
  · refine g_loc [1, 2, 0] rfl ?_
    exact b_Model_serve_B135 C hr hl p1 l1 s0 (9 : Int32) σ

set_option maxHeartbeats 4000000 in
set_option maxRecDepth 100000 in
theorem b_Model_serve_B66 {p : Program} {l : Launch} {e : Env} {s : State} {m : MethodId} {args : Array Value} {below : List Frame} {meth : Method} {c : Code} {D : va_G} {cI cJ : ClassId} {ad : Nat → Nat} {sz : Nat} {r : Int32} {σ' : gSt} (C : gC p s m args meth c D cI cJ ad (gA ad sz) cX6_serve 5 RX6) (hr : meth.sig.returnType = (some .boolean)) (hl : l.stackTraces = false) (p1 : Int32) (l1 : Int32) (s0 : Int32) (σ : gSt) : gX (F_Model_serve_B66 p1 l1 s0 σ) (r, σ') (gG p l e { frames := 2, cells := 0, slots := 0, locals := 45 } s m args below meth c D cI cJ ad (gA ad sz) 5 0 0 (MQ below (va_Qi (fun r1 (_ : Unit) => r1 = r) (fun _ t => va_P D vwCl (gw cI cJ ad σ') t.heap) (gA ad sz)) args s 0 0 (gA ad sz)) σ 66 [(0, .ref (ad 28)), (1, .int l1)] [.int s0, .ref (ad 28)]) := by
  unfold F_Model_serve_B66
  refine g_callvi (As := [.int s0]) (n := 1) C (c_Model_goes l hl D cI cJ ad s0) ⟨rfl, rfl⟩ gcl6 rfl qc81 (hR := ⟨Nat.le_of_ble_eq_true rfl, Nat.le_of_ble_eq_true rfl⟩) rfl rfl (Nat.le_of_ble_eq_true rfl) dX6_serve_66 ⟨Nat.zero_le _, Nat.zero_le _⟩ (fun r2 σ1 => ?_)
  refine g_if_ne (tgt := 74) C dX6_serve_69 (by decide) (fun h3 => ?_) (fun h3 => ?_)
  · refine g_iconst (v := (0 : Int32)) C dX6_serve_72 (by decide) ?_
    exact g_iretz C (by decide) hr dX6_serve_73
  · refine g_aload_n C 0 dX6_serve_74 rfl rfl ?_
    refine g_aload_n C 0 dX6_serve_75 rfl rfl ?_
    refine g_getR (o' := 29) C 28 0 gcl6 rfl (by decide) rfl qw316 dX6_serve_76 ?_
    refine g_iconst (v := (2 : Int32)) C dX6_serve_79 (by decide) ?_
    refine g_ialdL (o := 29) (n := 92) C 2 ⟨by decide, by unfold vp_in; decide⟩ rfl rfl dX6_serve_80 ?_
    refine g_iload_n C 1 dX6_serve_81 rfl rfl ?_
    refine g_callvi (As := [.int (σ1 29 2), .int l1]) (n := 2) C (c_Model_place l hl D cI cJ ad (σ1 29 2) l1) ⟨rfl, rfl⟩ gcl6 rfl qc84 (hR := ⟨Nat.le_of_ble_eq_true rfl, Nat.le_of_ble_eq_true rfl⟩) rfl rfl (Nat.le_of_ble_eq_true rfl) dX6_serve_82 ⟨Nat.zero_le _, Nat.zero_le _⟩ (fun r5 σ4 => ?_)
    refine g_iconst (v := (1 : Int32)) C dX6_serve_85 (by decide) ?_
    refine g_icmp_ne (tgt := 93) C dX6_serve_86 (by decide) (fun h6 => ?_) (fun h6 => ?_)
    · refine g_iconst (v := (1 : Int32)) C dX6_serve_89 (by decide) ?_
      refine g_goto (tgt := 94) C dX6_serve_90 (by decide) ?_
      refine g_loc [0, 1] rfl ?_
      exact b_Model_serve_B94 C hr hl p1 l1 (1 : Int32) σ4
    · refine g_iconst (v := (0 : Int32)) C dX6_serve_93 (by decide) ?_
      refine g_loc [0, 1] rfl ?_
      exact b_Model_serve_B94 C hr hl p1 l1 (0 : Int32) σ4

set_option maxHeartbeats 4000000 in
set_option maxRecDepth 100000 in
theorem b_Model_serve_B47 {p : Program} {l : Launch} {e : Env} {s : State} {m : MethodId} {args : Array Value} {below : List Frame} {meth : Method} {c : Code} {D : va_G} {cI cJ : ClassId} {ad : Nat → Nat} {sz : Nat} {r : Int32} {σ' : gSt} (C : gC p s m args meth c D cI cJ ad (gA ad sz) cX6_serve 5 RX6) (hr : meth.sig.returnType = (some .boolean)) (hl : l.stackTraces = false) (p1 : Int32) (l1 : Int32) (l2 : Int32) (s0 : Int32) (σ : gSt) : gX (F_Model_serve_B47 p1 l1 l2 s0 σ) (r, σ') (gG p l e { frames := 2, cells := 0, slots := 0, locals := 45 } s m args below meth c D cI cJ ad (gA ad sz) 5 0 0 (MQ below (va_Qi (fun r1 (_ : Unit) => r1 = r) (fun _ t => va_P D vwCl (gw cI cJ ad σ') t.heap) (gA ad sz)) args s 0 0 (gA ad sz)) σ 47 [(0, .ref (ad 28)), (1, .int l1), (2, .int l2)] [.int s0]) := by
  unfold F_Model_serve_B47
  refine g_istore_n (L' := [(3, .int s0), (0, .ref (ad 28)), (1, .int l1), (2, .int l2)]) C dX6_serve_47 rfl (by decide) rfl ?_
  refine g_aload_n C 1 dX6_serve_48 rfl rfl ?_
  refine g_iload_n C 3 dX6_serve_49 rfl rfl ?_
  refine g_if_ne (tgt := 57) C dX6_serve_50 (by decide) (fun h1 => ?_) (fun h1 => ?_)
  · refine g_iconst (v := (1 : Int32)) C dX6_serve_53 (by decide) ?_
    refine g_goto (tgt := 66) C dX6_serve_54 (by decide) ?_
    refine g_loc [1, 2] rfl ?_
    exact b_Model_serve_B66 C hr hl p1 l1 (1 : Int32) σ
  · refine g_iload_n C 0 dX6_serve_57 rfl rfl ?_
    refine g_if_eq (tgt := 65) C dX6_serve_58 (by decide) (fun h2 => ?_) (fun h2 => ?_)
    · refine g_iconst (v := (2 : Int32)) C dX6_serve_65 (by decide) ?_
      refine g_loc [1, 2] rfl ?_
      exact b_Model_serve_B66 C hr hl p1 l1 (2 : Int32) σ
    · refine g_iconst (v := (0 : Int32)) C dX6_serve_61 (by decide) ?_
      refine g_goto (tgt := 66) C dX6_serve_62 (by decide) ?_
      refine g_loc [1, 2] rfl ?_
      exact b_Model_serve_B66 C hr hl p1 l1 (0 : Int32) σ

set_option maxHeartbeats 4000000 in
set_option maxRecDepth 100000 in
theorem b_Model_serve_B46 {p : Program} {l : Launch} {e : Env} {s : State} {m : MethodId} {args : Array Value} {below : List Frame} {meth : Method} {c : Code} {D : va_G} {cI cJ : ClassId} {ad : Nat → Nat} {sz : Nat} {r : Int32} {σ' : gSt} (C : gC p s m args meth c D cI cJ ad (gA ad sz) cX6_serve 5 RX6) (hr : meth.sig.returnType = (some .boolean)) (hl : l.stackTraces = false) (p1 : Int32) (l1 : Int32) (l2 : Int32) (σ : gSt) : gX (F_Model_serve_B46 p1 l1 l2 σ) (r, σ') (gG p l e { frames := 2, cells := 0, slots := 0, locals := 45 } s m args below meth c D cI cJ ad (gA ad sz) 5 0 0 (MQ below (va_Qi (fun r1 (_ : Unit) => r1 = r) (fun _ t => va_P D vwCl (gw cI cJ ad σ') t.heap) (gA ad sz)) args s 0 0 (gA ad sz)) σ 46 [(0, .ref (ad 28)), (1, .int l1), (2, .int l2)] []) := by
  unfold F_Model_serve_B46
  refine g_iconst (v := (0 : Int32)) C dX6_serve_46 (by decide) ?_
  refine g_loc [0, 1, 2] rfl ?_
  exact b_Model_serve_B47 C hr hl p1 l1 l2 (0 : Int32) σ

set_option maxHeartbeats 4000000 in
set_option maxRecDepth 100000 in
theorem c_Model_serve (l : Launch) (hl : l.stackTraces = false) (D : va_G) (cI cJ : ClassId) (ad : Nat → Nat) (p1 : Int32) : gMi l D cI cJ ad yX6_serve cX6_serve 5 (some .boolean) { frames := 2, cells := 0, slots := 0, locals := 45 } [.ref (ad 28), .int p1] (F_Model_serve p1) := by
  refine gStartI (L0 := [(0, .ref (ad 28)), (1, .int p1)]) RX6 (by decide) rfl rfl (Nat.le_of_ble_eq_true rfl) ?_
  intro p e s m args below meth c sz σ r σ' C hr
  unfold F_Model_serve
  refine g_iload_n C 1 dX6_serve_0 rfl rfl ?_
  refine g_callsi (As := [.int p1]) (n := 1) C (c_Model_isShirt l hl D cI cJ ad p1) ⟨rfl, rfl⟩ qc83 (hR := ⟨Nat.le_of_ble_eq_true rfl, Nat.le_of_ble_eq_true rfl⟩) rfl rfl (Nat.le_of_ble_eq_true rfl) dX6_serve_1 ⟨Nat.zero_le _, Nat.zero_le _⟩ (fun r2 σ1 => ?_)
  refine g_istore_n (L' := [(2, .int r2), (0, .ref (ad 28)), (1, .int p1)]) C dX6_serve_4 rfl (by decide) rfl ?_
  refine g_iload_n C 0 dX6_serve_5 rfl rfl ?_
  refine g_if_eq (tgt := 46) C dX6_serve_6 (by decide) (fun h3 => ?_) (fun h3 => ?_)
  · refine g_loc [1, 2, 0] rfl ?_
    exact b_Model_serve_B46 C hr hl p1 p1 r2 σ1
  · refine g_aload_n C 1 dX6_serve_9 rfl rfl ?_
    refine g_getR (o' := 29) C 28 0 gcl6 rfl (by decide) rfl qw316 dX6_serve_10 ?_
    refine g_iconst (v := (0 : Int32)) C dX6_serve_13 (by decide) ?_
    refine g_ialdL (o := 29) (n := 92) C 0 ⟨by decide, by unfold vp_in; decide⟩ rfl rfl dX6_serve_14 ?_
    refine g_iconst (v := (1 : Int32)) C dX6_serve_15 (by decide) ?_
    refine g_icmp_ne (tgt := 46) C dX6_serve_16 (by decide) (fun h4 => ?_) (fun h4 => ?_)
    · refine g_aload_n C 1 dX6_serve_19 rfl rfl ?_
      refine g_getR (o' := 29) C 28 0 gcl6 rfl (by decide) rfl qw316 dX6_serve_20 ?_
      refine g_iconst (v := (1 : Int32)) C dX6_serve_23 (by decide) ?_
      refine g_ialdL (o := 29) (n := 92) C 1 ⟨by decide, by unfold vp_in; decide⟩ rfl rfl dX6_serve_24 ?_
      refine g_if_ne (tgt := 46) C dX6_serve_25 (by decide) (fun h5 => ?_) (fun h5 => ?_)
      · refine g_aload_n C 1 dX6_serve_28 rfl rfl ?_
        refine g_aload_n C 1 dX6_serve_29 rfl rfl ?_
        refine g_getR (o' := 29) C 28 0 gcl6 rfl (by decide) rfl qw316 dX6_serve_30 ?_
        refine g_iconst (v := (2 : Int32)) C dX6_serve_33 (by decide) ?_
        refine g_ialdL (o := 29) (n := 92) C 2 ⟨by decide, by unfold vp_in; decide⟩ rfl rfl dX6_serve_34 ?_
        refine g_iload_n C 2 dX6_serve_35 rfl rfl ?_
        refine g_callvi (As := [.int (σ1 29 2), .int p1]) (n := 2) C (c_Model_place l hl D cI cJ ad (σ1 29 2) p1) ⟨rfl, rfl⟩ gcl6 rfl qc84 (hR := ⟨Nat.le_of_ble_eq_true rfl, Nat.le_of_ble_eq_true rfl⟩) rfl rfl (Nat.le_of_ble_eq_true rfl) dX6_serve_36 ⟨Nat.zero_le _, Nat.zero_le _⟩ (fun r7 σ6 => ?_)
        refine g_if_le (tgt := 46) C dX6_serve_39 (by decide) (fun h8 => ?_) (fun h8 => ?_)
        · refine g_loc [1, 2, 0] rfl ?_
          exact b_Model_serve_B46 C hr hl p1 p1 r2 σ6
        · refine g_iconst (v := (1 : Int32)) C dX6_serve_42 (by decide) ?_
          refine g_goto (tgt := 47) C dX6_serve_43 (by decide) ?_
          refine g_loc [1, 2, 0] rfl ?_
          exact b_Model_serve_B47 C hr hl p1 p1 r2 (1 : Int32) σ6
      · refine g_loc [1, 2, 0] rfl ?_
        exact b_Model_serve_B46 C hr hl p1 p1 r2 σ1
    · refine g_loc [1, 2, 0] rfl ?_
      exact b_Model_serve_B46 C hr hl p1 p1 r2 σ1

def F_Model_fault_B145 (p1 : Int32) (p2 : Int32) (p3 : Int32) (p4 : Int32) (l1 : Int32) (l2 : Int32) (l3 : Int32) (σ : gSt) : Option (Int32 × gSt) := if l3 = (1 : Int32) then (if ((26 : Int32) + l1) < 0 ∨ 92 ≤ ((26 : Int32) + l1).toNatClampNeg then none else if l2 = (σ 29 ((26 : Int32) + l1).toNatClampNeg) then (some ((5 : Int32), σ)) else (some ((0 : Int32), σ))) else (some ((0 : Int32), σ))

def F_Model_fault_B121 (p1 : Int32) (p2 : Int32) (p3 : Int32) (p4 : Int32) (l1 : Int32) (l2 : Int32) (l3 : Int32) (l4 : Int32) (l5 : Int32) (σ : gSt) : Option (Int32 × gSt) := if l5 = (0 : Int32) then (F_Model_fault_B145 p1 p2 p3 p4 l1 l2 l3 σ) else (if l3 = (2 : Int32) then (some ((4 : Int32), σ)) else (if l3 = (1 : Int32) then (if l4 = (0 : Int32) then (F_Model_fault_B145 p1 p2 p3 p4 l1 l2 l3 σ) else (some ((4 : Int32), σ))) else (F_Model_fault_B145 p1 p2 p3 p4 l1 l2 l3 σ)))

def F_Model_fault_B106 (p1 : Int32) (p2 : Int32) (p3 : Int32) (p4 : Int32) (l1 : Int32) (l2 : Int32) (l3 : Int32) (l4 : Int32) (l5 : Int32) (l7 : Int32) (σ : gSt) : Option (Int32 × gSt) := if l3 = (2 : Int32) then (F_Model_fault_B121 p1 p2 p3 p4 l1 l2 l3 l4 l5 σ) else (if l7 = (3 : Int32) then (some ((3 : Int32), σ)) else (F_Model_fault_B121 p1 p2 p3 p4 l1 l2 l3 l4 l5 σ))

def F_Model_fault_B86 (p1 : Int32) (p2 : Int32) (p3 : Int32) (p4 : Int32) (l1 : Int32) (l2 : Int32) (l3 : Int32) (l4 : Int32) (l5 : Int32) (l6 : Int32) (l7 : Int32) (σ : gSt) : Option (Int32 × gSt) := if l6 = (0 : Int32) then (F_Model_fault_B106 p1 p2 p3 p4 l1 l2 l3 l4 l5 l7 σ) else (if (σ 29 6) = (2 : Int32) then (F_Model_fault_B106 p1 p2 p3 p4 l1 l2 l3 l4 l5 l7 σ) else (some ((2 : Int32), σ)))

def F_Model_fault_B59 (p1 : Int32) (p2 : Int32) (p3 : Int32) (p4 : Int32) (l1 : Int32) (l2 : Int32) (l3 : Int32) (l4 : Int32) (l5 : Int32) (l6 : Int32) (s0 : Int32) (σ : gSt) : Option (Int32 × gSt) := if (σ 29 8) = (1 : Int32) then (if l1 = (σ 29 2) then (some ((1 : Int32), σ)) else (F_Model_fault_B86 p1 p2 p3 p4 l1 l2 l3 l4 l5 l6 s0 σ)) else (F_Model_fault_B86 p1 p2 p3 p4 l1 l2 l3 l4 l5 l6 s0 σ)

def F_Model_fault_B36 (p1 : Int32) (p2 : Int32) (p3 : Int32) (p4 : Int32) (l1 : Int32) (l2 : Int32) (l3 : Int32) (l4 : Int32) (l5 : Int32) (s0 : Int32) (σ : gSt) : Option (Int32 × gSt) := if (σ 29 4) = l1 then (F_Model_fault_B59 p1 p2 p3 p4 l1 l2 l3 l4 l5 s0 (σ 29 7) σ) else (F_Model_fault_B59 p1 p2 p3 p4 l1 l2 l3 l4 l5 s0 (0 : Int32) σ)

def F_Model_fault_B35 (p1 : Int32) (p2 : Int32) (p3 : Int32) (p4 : Int32) (l1 : Int32) (l2 : Int32) (l3 : Int32) (l4 : Int32) (l5 : Int32) (σ : gSt) : Option (Int32 × gSt) := F_Model_fault_B36 p1 p2 p3 p4 l1 l2 l3 l4 l5 (0 : Int32) σ

def F_Model_fault (p1 : Int32) (p2 : Int32) (p3 : Int32) (p4 : Int32) (σ : gSt) : Option (Int32 × gSt) := gbi (F_Model_place p1 p2 σ) fun r2 σ1 => gbi (F_Model_isBehind r2 σ1) fun r4 σ3 => if (σ3 29 4) = p1 then (if (σ3 29 5) = p2 then (F_Model_fault_B36 p1 p2 p3 p4 p1 p2 p3 p4 r4 (1 : Int32) σ3) else (F_Model_fault_B35 p1 p2 p3 p4 p1 p2 p3 p4 r4 σ3)) else (F_Model_fault_B35 p1 p2 p3 p4 p1 p2 p3 p4 r4 σ3)

set_option maxHeartbeats 4000000 in
set_option maxRecDepth 100000 in
theorem b_Model_fault_B145 {p : Program} {l : Launch} {e : Env} {s : State} {m : MethodId} {args : Array Value} {below : List Frame} {meth : Method} {c : Code} {D : va_G} {cI cJ : ClassId} {ad : Nat → Nat} {sz : Nat} {r : Int32} {σ' : gSt} (C : gC p s m args meth c D cI cJ ad (gA ad sz) cX6_fault 8 RX6) (hr : meth.sig.returnType = (some .int)) (hl : l.stackTraces = false) (p1 : Int32) (p2 : Int32) (p3 : Int32) (p4 : Int32) (l1 : Int32) (l2 : Int32) (l3 : Int32) (σ : gSt) : gX (F_Model_fault_B145 p1 p2 p3 p4 l1 l2 l3 σ) (r, σ') (gG p l e { frames := 2, cells := 0, slots := 0, locals := 45 } s m args below meth c D cI cJ ad (gA ad sz) 8 0 0 (MQ below (va_Qi (fun r1 (_ : Unit) => r1 = r) (fun _ t => va_P D vwCl (gw cI cJ ad σ') t.heap) (gA ad sz)) args s 0 0 (gA ad sz)) σ 145 [(0, .ref (ad 28)), (1, .int l1), (2, .int l2), (3, .int l3)] []) := by
  unfold F_Model_fault_B145
  refine g_iload_n C 3 dX6_fault_145 rfl rfl ?_
  refine g_iconst (v := (1 : Int32)) C dX6_fault_146 (by decide) ?_
  refine g_icmp_ne (tgt := 167) C dX6_fault_147 (by decide) (fun h1 => ?_) (fun h1 => ?_)
  · refine g_iload_n C 2 dX6_fault_150 rfl rfl ?_
    refine g_aload_n C 0 dX6_fault_151 rfl rfl ?_
    refine g_getR (o' := 29) C 28 0 gcl6 rfl (by decide) rfl qw316 dX6_fault_152 ?_
    refine g_bipush (v := (26 : Int32)) C dX6_fault_155 (by decide) ?_
    refine g_iload_n C 1 dX6_fault_157 rfl rfl ?_
    refine g_iadd C dX6_fault_158 ?_
    refine g_iald (o := 29) (n := 92) C rfl rfl dX6_fault_159 ?_
    refine g_icmp_ne (tgt := 167) C dX6_fault_160 (by decide) (fun h2 => ?_) (fun h2 => ?_)
    · refine g_iconst (v := (5 : Int32)) C dX6_fault_163 (by decide) ?_
      refine g_goto (tgt := 168) C dX6_fault_164 (by decide) ?_
      exact g_ireti C hr dX6_fault_168
    · refine g_iconst (v := (0 : Int32)) C dX6_fault_167 (by decide) ?_
      exact g_ireti C hr dX6_fault_168
  · refine g_iconst (v := (0 : Int32)) C dX6_fault_167 (by decide) ?_
    exact g_ireti C hr dX6_fault_168

set_option maxHeartbeats 4000000 in
set_option maxRecDepth 100000 in
theorem b_Model_fault_B121 {p : Program} {l : Launch} {e : Env} {s : State} {m : MethodId} {args : Array Value} {below : List Frame} {meth : Method} {c : Code} {D : va_G} {cI cJ : ClassId} {ad : Nat → Nat} {sz : Nat} {r : Int32} {σ' : gSt} (C : gC p s m args meth c D cI cJ ad (gA ad sz) cX6_fault 8 RX6) (hr : meth.sig.returnType = (some .int)) (hl : l.stackTraces = false) (p1 : Int32) (p2 : Int32) (p3 : Int32) (p4 : Int32) (l1 : Int32) (l2 : Int32) (l3 : Int32) (l4 : Int32) (l5 : Int32) (σ : gSt) : gX (F_Model_fault_B121 p1 p2 p3 p4 l1 l2 l3 l4 l5 σ) (r, σ') (gG p l e { frames := 2, cells := 0, slots := 0, locals := 45 } s m args below meth c D cI cJ ad (gA ad sz) 8 0 0 (MQ below (va_Qi (fun r1 (_ : Unit) => r1 = r) (fun _ t => va_P D vwCl (gw cI cJ ad σ') t.heap) (gA ad sz)) args s 0 0 (gA ad sz)) σ 121 [(0, .ref (ad 28)), (1, .int l1), (2, .int l2), (3, .int l3), (4, .int l4), (5, .int l5)] []) := by
  unfold F_Model_fault_B121
  refine g_iload C 5 dX6_fault_121 rfl ?_
  refine g_if_eq (tgt := 145) C dX6_fault_123 (by decide) (fun h1 => ?_) (fun h1 => ?_)
  · refine g_loc [0, 1, 2, 3] rfl ?_
    exact b_Model_fault_B145 C hr hl p1 p2 p3 p4 l1 l2 l3 σ
  · refine g_iload_n C 3 dX6_fault_126 rfl rfl ?_
    refine g_iconst (v := (2 : Int32)) C dX6_fault_127 (by decide) ?_
    refine g_icmp_eq (tgt := 141) C dX6_fault_128 (by decide) (fun h2 => ?_) (fun h2 => ?_)
    · refine g_iconst (v := (4 : Int32)) C dX6_fault_141 (by decide) ?_
      refine g_goto (tgt := 168) C dX6_fault_142 (by decide) ?_
      exact g_ireti C hr dX6_fault_168
    · refine g_iload_n C 3 dX6_fault_131 rfl rfl ?_
      refine g_iconst (v := (1 : Int32)) C dX6_fault_132 (by decide) ?_
      refine g_icmp_ne (tgt := 145) C dX6_fault_133 (by decide) (fun h3 => ?_) (fun h3 => ?_)
      · refine g_iload C 4 dX6_fault_136 rfl ?_
        refine g_if_eq (tgt := 145) C dX6_fault_138 (by decide) (fun h4 => ?_) (fun h4 => ?_)
        · refine g_loc [0, 1, 2, 3] rfl ?_
          exact b_Model_fault_B145 C hr hl p1 p2 p3 p4 l1 l2 l3 σ
        · refine g_iconst (v := (4 : Int32)) C dX6_fault_141 (by decide) ?_
          refine g_goto (tgt := 168) C dX6_fault_142 (by decide) ?_
          exact g_ireti C hr dX6_fault_168
      · refine g_loc [0, 1, 2, 3] rfl ?_
        exact b_Model_fault_B145 C hr hl p1 p2 p3 p4 l1 l2 l3 σ

set_option maxHeartbeats 4000000 in
set_option maxRecDepth 100000 in
theorem b_Model_fault_B106 {p : Program} {l : Launch} {e : Env} {s : State} {m : MethodId} {args : Array Value} {below : List Frame} {meth : Method} {c : Code} {D : va_G} {cI cJ : ClassId} {ad : Nat → Nat} {sz : Nat} {r : Int32} {σ' : gSt} (C : gC p s m args meth c D cI cJ ad (gA ad sz) cX6_fault 8 RX6) (hr : meth.sig.returnType = (some .int)) (hl : l.stackTraces = false) (p1 : Int32) (p2 : Int32) (p3 : Int32) (p4 : Int32) (l1 : Int32) (l2 : Int32) (l3 : Int32) (l4 : Int32) (l5 : Int32) (l7 : Int32) (σ : gSt) : gX (F_Model_fault_B106 p1 p2 p3 p4 l1 l2 l3 l4 l5 l7 σ) (r, σ') (gG p l e { frames := 2, cells := 0, slots := 0, locals := 45 } s m args below meth c D cI cJ ad (gA ad sz) 8 0 0 (MQ below (va_Qi (fun r1 (_ : Unit) => r1 = r) (fun _ t => va_P D vwCl (gw cI cJ ad σ') t.heap) (gA ad sz)) args s 0 0 (gA ad sz)) σ 106 [(0, .ref (ad 28)), (1, .int l1), (2, .int l2), (3, .int l3), (4, .int l4), (5, .int l5), (7, .int l7)] []) := by
  unfold F_Model_fault_B106
  refine g_iload_n C 3 dX6_fault_106 rfl rfl ?_
  refine g_iconst (v := (2 : Int32)) C dX6_fault_107 (by decide) ?_
  refine g_icmp_eq (tgt := 121) C dX6_fault_108 (by decide) (fun h1 => ?_) (fun h1 => ?_)
  · refine g_loc [0, 1, 2, 3, 4, 5] rfl ?_
    exact b_Model_fault_B121 C hr hl p1 p2 p3 p4 l1 l2 l3 l4 l5 σ
  · refine g_iload C 6 dX6_fault_111 rfl ?_
    refine g_iconst (v := (3 : Int32)) C dX6_fault_113 (by decide) ?_
    refine g_icmp_ne (tgt := 121) C dX6_fault_114 (by decide) (fun h2 => ?_) (fun h2 => ?_)
    · refine g_iconst (v := (3 : Int32)) C dX6_fault_117 (by decide) ?_
      refine g_goto (tgt := 168) C dX6_fault_118 (by decide) ?_
      exact g_ireti C hr dX6_fault_168
    · refine g_loc [0, 1, 2, 3, 4, 5] rfl ?_
      exact b_Model_fault_B121 C hr hl p1 p2 p3 p4 l1 l2 l3 l4 l5 σ

set_option maxHeartbeats 4000000 in
set_option maxRecDepth 100000 in
theorem b_Model_fault_B86 {p : Program} {l : Launch} {e : Env} {s : State} {m : MethodId} {args : Array Value} {below : List Frame} {meth : Method} {c : Code} {D : va_G} {cI cJ : ClassId} {ad : Nat → Nat} {sz : Nat} {r : Int32} {σ' : gSt} (C : gC p s m args meth c D cI cJ ad (gA ad sz) cX6_fault 8 RX6) (hr : meth.sig.returnType = (some .int)) (hl : l.stackTraces = false) (p1 : Int32) (p2 : Int32) (p3 : Int32) (p4 : Int32) (l1 : Int32) (l2 : Int32) (l3 : Int32) (l4 : Int32) (l5 : Int32) (l6 : Int32) (l7 : Int32) (σ : gSt) : gX (F_Model_fault_B86 p1 p2 p3 p4 l1 l2 l3 l4 l5 l6 l7 σ) (r, σ') (gG p l e { frames := 2, cells := 0, slots := 0, locals := 45 } s m args below meth c D cI cJ ad (gA ad sz) 8 0 0 (MQ below (va_Qi (fun r1 (_ : Unit) => r1 = r) (fun _ t => va_P D vwCl (gw cI cJ ad σ') t.heap) (gA ad sz)) args s 0 0 (gA ad sz)) σ 86 [(0, .ref (ad 28)), (1, .int l1), (2, .int l2), (3, .int l3), (4, .int l4), (5, .int l5), (6, .int l6), (7, .int l7)] []) := by
  unfold F_Model_fault_B86
  refine g_iload C 6 dX6_fault_86 rfl ?_
  refine g_if_eq (tgt := 106) C dX6_fault_88 (by decide) (fun h1 => ?_) (fun h1 => ?_)
  · refine g_loc [0, 1, 2, 3, 4, 5, 7] rfl ?_
    exact b_Model_fault_B106 C hr hl p1 p2 p3 p4 l1 l2 l3 l4 l5 l7 σ
  · refine g_aload_n C 0 dX6_fault_91 rfl rfl ?_
    refine g_getR (o' := 29) C 28 0 gcl6 rfl (by decide) rfl qw316 dX6_fault_92 ?_
    refine g_bipush (v := (6 : Int32)) C dX6_fault_95 (by decide) ?_
    refine g_ialdL (o := 29) (n := 92) C 6 ⟨by decide, by unfold vp_in; decide⟩ rfl rfl dX6_fault_97 ?_
    refine g_iconst (v := (2 : Int32)) C dX6_fault_98 (by decide) ?_
    refine g_icmp_eq (tgt := 106) C dX6_fault_99 (by decide) (fun h2 => ?_) (fun h2 => ?_)
    · refine g_loc [0, 1, 2, 3, 4, 5, 7] rfl ?_
      exact b_Model_fault_B106 C hr hl p1 p2 p3 p4 l1 l2 l3 l4 l5 l7 σ
    · refine g_iconst (v := (2 : Int32)) C dX6_fault_102 (by decide) ?_
      refine g_goto (tgt := 168) C dX6_fault_103 (by decide) ?_
      exact g_ireti C hr dX6_fault_168

set_option maxHeartbeats 4000000 in
set_option maxRecDepth 100000 in
theorem b_Model_fault_B59 {p : Program} {l : Launch} {e : Env} {s : State} {m : MethodId} {args : Array Value} {below : List Frame} {meth : Method} {c : Code} {D : va_G} {cI cJ : ClassId} {ad : Nat → Nat} {sz : Nat} {r : Int32} {σ' : gSt} (C : gC p s m args meth c D cI cJ ad (gA ad sz) cX6_fault 8 RX6) (hr : meth.sig.returnType = (some .int)) (hl : l.stackTraces = false) (p1 : Int32) (p2 : Int32) (p3 : Int32) (p4 : Int32) (l1 : Int32) (l2 : Int32) (l3 : Int32) (l4 : Int32) (l5 : Int32) (l6 : Int32) (s0 : Int32) (σ : gSt) : gX (F_Model_fault_B59 p1 p2 p3 p4 l1 l2 l3 l4 l5 l6 s0 σ) (r, σ') (gG p l e { frames := 2, cells := 0, slots := 0, locals := 45 } s m args below meth c D cI cJ ad (gA ad sz) 8 0 0 (MQ below (va_Qi (fun r1 (_ : Unit) => r1 = r) (fun _ t => va_P D vwCl (gw cI cJ ad σ') t.heap) (gA ad sz)) args s 0 0 (gA ad sz)) σ 59 [(0, .ref (ad 28)), (1, .int l1), (2, .int l2), (3, .int l3), (4, .int l4), (5, .int l5), (6, .int l6)] [.int s0]) := by
  unfold F_Model_fault_B59
  refine g_istore (L' := [(7, .int s0), (0, .ref (ad 28)), (1, .int l1), (2, .int l2), (3, .int l3), (4, .int l4), (5, .int l5), (6, .int l6)]) C dX6_fault_59 (by decide) rfl ?_
  refine g_aload_n C 1 dX6_fault_61 rfl rfl ?_
  refine g_getR (o' := 29) C 28 0 gcl6 rfl (by decide) rfl qw316 dX6_fault_62 ?_
  refine g_bipush (v := (8 : Int32)) C dX6_fault_65 (by decide) ?_
  refine g_ialdL (o := 29) (n := 92) C 8 ⟨by decide, by unfold vp_in; decide⟩ rfl rfl dX6_fault_67 ?_
  refine g_iconst (v := (1 : Int32)) C dX6_fault_68 (by decide) ?_
  refine g_icmp_ne (tgt := 86) C dX6_fault_69 (by decide) (fun h1 => ?_) (fun h1 => ?_)
  · refine g_iload_n C 2 dX6_fault_72 rfl rfl ?_
    refine g_aload_n C 1 dX6_fault_73 rfl rfl ?_
    refine g_getR (o' := 29) C 28 0 gcl6 rfl (by decide) rfl qw316 dX6_fault_74 ?_
    refine g_iconst (v := (2 : Int32)) C dX6_fault_77 (by decide) ?_
    refine g_ialdL (o := 29) (n := 92) C 2 ⟨by decide, by unfold vp_in; decide⟩ rfl rfl dX6_fault_78 ?_
    refine g_icmp_ne (tgt := 86) C dX6_fault_79 (by decide) (fun h2 => ?_) (fun h2 => ?_)
    · refine g_iconst (v := (1 : Int32)) C dX6_fault_82 (by decide) ?_
      refine g_goto (tgt := 168) C dX6_fault_83 (by decide) ?_
      exact g_ireti C hr dX6_fault_168
    · refine g_loc [1, 2, 3, 4, 5, 6, 7, 0] rfl ?_
      exact b_Model_fault_B86 C hr hl p1 p2 p3 p4 l1 l2 l3 l4 l5 l6 s0 σ
  · refine g_loc [1, 2, 3, 4, 5, 6, 7, 0] rfl ?_
    exact b_Model_fault_B86 C hr hl p1 p2 p3 p4 l1 l2 l3 l4 l5 l6 s0 σ

set_option maxHeartbeats 4000000 in
set_option maxRecDepth 100000 in
theorem b_Model_fault_B36 {p : Program} {l : Launch} {e : Env} {s : State} {m : MethodId} {args : Array Value} {below : List Frame} {meth : Method} {c : Code} {D : va_G} {cI cJ : ClassId} {ad : Nat → Nat} {sz : Nat} {r : Int32} {σ' : gSt} (C : gC p s m args meth c D cI cJ ad (gA ad sz) cX6_fault 8 RX6) (hr : meth.sig.returnType = (some .int)) (hl : l.stackTraces = false) (p1 : Int32) (p2 : Int32) (p3 : Int32) (p4 : Int32) (l1 : Int32) (l2 : Int32) (l3 : Int32) (l4 : Int32) (l5 : Int32) (s0 : Int32) (σ : gSt) : gX (F_Model_fault_B36 p1 p2 p3 p4 l1 l2 l3 l4 l5 s0 σ) (r, σ') (gG p l e { frames := 2, cells := 0, slots := 0, locals := 45 } s m args below meth c D cI cJ ad (gA ad sz) 8 0 0 (MQ below (va_Qi (fun r1 (_ : Unit) => r1 = r) (fun _ t => va_P D vwCl (gw cI cJ ad σ') t.heap) (gA ad sz)) args s 0 0 (gA ad sz)) σ 36 [(0, .ref (ad 28)), (1, .int l1), (2, .int l2), (3, .int l3), (4, .int l4), (5, .int l5)] [.int s0]) := by
  unfold F_Model_fault_B36
  refine g_istore (L' := [(6, .int s0), (0, .ref (ad 28)), (1, .int l1), (2, .int l2), (3, .int l3), (4, .int l4), (5, .int l5)]) C dX6_fault_36 (by decide) rfl ?_
  refine g_aload_n C 1 dX6_fault_38 rfl rfl ?_
  refine g_getR (o' := 29) C 28 0 gcl6 rfl (by decide) rfl qw316 dX6_fault_39 ?_
  refine g_iconst (v := (4 : Int32)) C dX6_fault_42 (by decide) ?_
  refine g_ialdL (o := 29) (n := 92) C 4 ⟨by decide, by unfold vp_in; decide⟩ rfl rfl dX6_fault_43 ?_
  refine g_iload_n C 2 dX6_fault_44 rfl rfl ?_
  refine g_icmp_ne (tgt := 58) C dX6_fault_45 (by decide) (fun h1 => ?_) (fun h1 => ?_)
  · refine g_aload_n C 1 dX6_fault_48 rfl rfl ?_
    refine g_getR (o' := 29) C 28 0 gcl6 rfl (by decide) rfl qw316 dX6_fault_49 ?_
    refine g_bipush (v := (7 : Int32)) C dX6_fault_52 (by decide) ?_
    refine g_ialdL (o := 29) (n := 92) C 7 ⟨by decide, by unfold vp_in; decide⟩ rfl rfl dX6_fault_54 ?_
    refine g_goto (tgt := 59) C dX6_fault_55 (by decide) ?_
    refine g_loc [1, 2, 3, 4, 5, 6, 0] rfl ?_
    exact b_Model_fault_B59 C hr hl p1 p2 p3 p4 l1 l2 l3 l4 l5 s0 (σ 29 7) σ
  · refine g_iconst (v := (0 : Int32)) C dX6_fault_58 (by decide) ?_
    refine g_loc [1, 2, 3, 4, 5, 6, 0] rfl ?_
    exact b_Model_fault_B59 C hr hl p1 p2 p3 p4 l1 l2 l3 l4 l5 s0 (0 : Int32) σ

set_option maxHeartbeats 4000000 in
set_option maxRecDepth 100000 in
theorem b_Model_fault_B35 {p : Program} {l : Launch} {e : Env} {s : State} {m : MethodId} {args : Array Value} {below : List Frame} {meth : Method} {c : Code} {D : va_G} {cI cJ : ClassId} {ad : Nat → Nat} {sz : Nat} {r : Int32} {σ' : gSt} (C : gC p s m args meth c D cI cJ ad (gA ad sz) cX6_fault 8 RX6) (hr : meth.sig.returnType = (some .int)) (hl : l.stackTraces = false) (p1 : Int32) (p2 : Int32) (p3 : Int32) (p4 : Int32) (l1 : Int32) (l2 : Int32) (l3 : Int32) (l4 : Int32) (l5 : Int32) (σ : gSt) : gX (F_Model_fault_B35 p1 p2 p3 p4 l1 l2 l3 l4 l5 σ) (r, σ') (gG p l e { frames := 2, cells := 0, slots := 0, locals := 45 } s m args below meth c D cI cJ ad (gA ad sz) 8 0 0 (MQ below (va_Qi (fun r1 (_ : Unit) => r1 = r) (fun _ t => va_P D vwCl (gw cI cJ ad σ') t.heap) (gA ad sz)) args s 0 0 (gA ad sz)) σ 35 [(0, .ref (ad 28)), (1, .int l1), (2, .int l2), (3, .int l3), (4, .int l4), (5, .int l5)] []) := by
  unfold F_Model_fault_B35
  refine g_iconst (v := (0 : Int32)) C dX6_fault_35 (by decide) ?_
  refine g_loc [0, 1, 2, 3, 4, 5] rfl ?_
  exact b_Model_fault_B36 C hr hl p1 p2 p3 p4 l1 l2 l3 l4 l5 (0 : Int32) σ

set_option maxHeartbeats 4000000 in
set_option maxRecDepth 100000 in
theorem c_Model_fault (l : Launch) (hl : l.stackTraces = false) (D : va_G) (cI cJ : ClassId) (ad : Nat → Nat) (p1 : Int32) (p2 : Int32) (p3 : Int32) (p4 : Int32) : gMi l D cI cJ ad yX6_fault cX6_fault 8 (some .int) { frames := 2, cells := 0, slots := 0, locals := 45 } [.ref (ad 28), .int p1, .int p2, .int p3, .int p4] (F_Model_fault p1 p2 p3 p4) := by
  refine gStartI (L0 := [(0, .ref (ad 28)), (1, .int p1), (2, .int p2), (3, .int p3), (4, .int p4)]) RX6 (by decide) rfl rfl (Nat.le_of_ble_eq_true rfl) ?_
  intro p e s m args below meth c sz σ r σ' C hr
  unfold F_Model_fault
  refine g_aload_n C 0 dX6_fault_0 rfl rfl ?_
  refine g_iload_n C 1 dX6_fault_1 rfl rfl ?_
  refine g_iload_n C 2 dX6_fault_2 rfl rfl ?_
  refine g_callvi (As := [.int p1, .int p2]) (n := 2) C (c_Model_place l hl D cI cJ ad p1 p2) ⟨rfl, rfl⟩ gcl6 rfl qc84 (hR := ⟨Nat.le_of_ble_eq_true rfl, Nat.le_of_ble_eq_true rfl⟩) rfl rfl (Nat.le_of_ble_eq_true rfl) dX6_fault_3 ⟨Nat.zero_le _, Nat.zero_le _⟩ (fun r2 σ1 => ?_)
  refine g_callsi (As := [.int r2]) (n := 1) C (c_Model_isBehind l hl D cI cJ ad r2) ⟨rfl, rfl⟩ qc89 (hR := ⟨Nat.le_of_ble_eq_true rfl, Nat.le_of_ble_eq_true rfl⟩) rfl rfl (Nat.le_of_ble_eq_true rfl) dX6_fault_6 ⟨Nat.zero_le _, Nat.zero_le _⟩ (fun r4 σ3 => ?_)
  refine g_istore (L' := [(5, .int r4), (0, .ref (ad 28)), (1, .int p1), (2, .int p2), (3, .int p3), (4, .int p4)]) C dX6_fault_9 (by decide) rfl ?_
  refine g_aload_n C 1 dX6_fault_11 rfl rfl ?_
  refine g_getR (o' := 29) C 28 0 gcl6 rfl (by decide) rfl qw316 dX6_fault_12 ?_
  refine g_iconst (v := (4 : Int32)) C dX6_fault_15 (by decide) ?_
  refine g_ialdL (o := 29) (n := 92) C 4 ⟨by decide, by unfold vp_in; decide⟩ rfl rfl dX6_fault_16 ?_
  refine g_iload_n C 2 dX6_fault_17 rfl rfl ?_
  refine g_icmp_ne (tgt := 35) C dX6_fault_18 (by decide) (fun h5 => ?_) (fun h5 => ?_)
  · refine g_aload_n C 1 dX6_fault_21 rfl rfl ?_
    refine g_getR (o' := 29) C 28 0 gcl6 rfl (by decide) rfl qw316 dX6_fault_22 ?_
    refine g_iconst (v := (5 : Int32)) C dX6_fault_25 (by decide) ?_
    refine g_ialdL (o := 29) (n := 92) C 5 ⟨by decide, by unfold vp_in; decide⟩ rfl rfl dX6_fault_26 ?_
    refine g_iload_n C 3 dX6_fault_27 rfl rfl ?_
    refine g_icmp_ne (tgt := 35) C dX6_fault_28 (by decide) (fun h6 => ?_) (fun h6 => ?_)
    · refine g_iconst (v := (1 : Int32)) C dX6_fault_31 (by decide) ?_
      refine g_goto (tgt := 36) C dX6_fault_32 (by decide) ?_
      refine g_loc [1, 2, 3, 4, 5, 0] rfl ?_
      exact b_Model_fault_B36 C hr hl p1 p2 p3 p4 p1 p2 p3 p4 r4 (1 : Int32) σ3
    · refine g_loc [1, 2, 3, 4, 5, 0] rfl ?_
      exact b_Model_fault_B35 C hr hl p1 p2 p3 p4 p1 p2 p3 p4 r4 σ3
  · refine g_loc [1, 2, 3, 4, 5, 0] rfl ?_
    exact b_Model_fault_B35 C hr hl p1 p2 p3 p4 p1 p2 p3 p4 r4 σ3

def F_Model_touch_B132 (p1 : Int32) (p2 : Int32) (p3 : Int32) (p4 : Int32) (l1 : Int32) (l2 : Int32) (l3 : Int32) (l7 : Int32) (s0 : Int32) (s1 : Int32) (σ : gSt) : Option (Int32 × gSt) := if s1 < 0 ∨ 92 ≤ s1.toNatClampNeg then none else gl (gup σ 29 s1.toNatClampNeg s0) fun σ1 => gl (gup σ1 29 4 l1) fun σ2 => gl (gup σ2 29 5 l2) fun σ3 => gl (gup σ3 29 6 l3) fun σ4 => gl (gup σ4 29 8 (0 : Int32)) fun σ5 => if l7 ≤ (0 : Int32) then (some (l7, σ5)) else (gbv (F_Model_ends ((1 : Int32) - l1) l7 σ5) fun σ7 => some (l7, σ7))

def F_Model_touch_B111 (p1 : Int32) (p2 : Int32) (p3 : Int32) (p4 : Int32) (l1 : Int32) (l2 : Int32) (l3 : Int32) (l7 : Int32) (s0 : Int32) (σ : gSt) : Option (Int32 × gSt) := if l3 = (2 : Int32) then (F_Model_touch_B132 p1 p2 p3 p4 l1 l2 l3 l7 (0 : Int32) (7 : Int32) σ) else (F_Model_touch_B132 p1 p2 p3 p4 l1 l2 l3 l7 (s0 + (1 : Int32)) (7 : Int32) σ)

def F_Model_touch_B71 (p1 : Int32) (p2 : Int32) (p3 : Int32) (p4 : Int32) (l1 : Int32) (l2 : Int32) (l3 : Int32) (l4 : Int32) (s0 : Int32) (σ : gSt) : Option (Int32 × gSt) := gbi (F_Model_goes s0 σ) fun r2 σ1 => if r2 = (0 : Int32) then (some ((0 : Int32), σ1)) else (gbi (F_Model_fault l1 l2 l3 l4 σ1) fun r5 σ4 => if (σ4 29 4) = l1 then (F_Model_touch_B111 p1 p2 p3 p4 l1 l2 l3 r5 (σ4 29 7) σ4) else (F_Model_touch_B111 p1 p2 p3 p4 l1 l2 l3 r5 (0 : Int32) σ4))

def F_Model_touch_B66 (p1 : Int32) (p2 : Int32) (p3 : Int32) (p4 : Int32) (l1 : Int32) (l2 : Int32) (l3 : Int32) (l4 : Int32) (σ : gSt) : Option (Int32 × gSt) := F_Model_touch_B71 p1 p2 p3 p4 l1 l2 l3 l4 (3 : Int32) σ

def F_Model_touch_B19 (p1 : Int32) (p2 : Int32) (p3 : Int32) (p4 : Int32) (l1 : Int32) (l2 : Int32) (l3 : Int32) (l4 : Int32) (s0 : Int32) (σ : gSt) : Option (Int32 × gSt) := gbi (F_Model_isIn l3 (0 : Int32) (2 : Int32) σ) fun r2 σ1 => if s0 = (0 : Int32) then (F_Model_touch_B71 p1 p2 p3 p4 l1 l2 l3 l4 (1 : Int32) σ1) else (if r2 = (0 : Int32) then (F_Model_touch_B71 p1 p2 p3 p4 l1 l2 l3 l4 (2 : Int32) σ1) else (if (σ1 29 1) = (0 : Int32) then (F_Model_touch_B66 p1 p2 p3 p4 l1 l2 l3 l4 σ1) else (gbi (F_Model_place l1 l2 σ1) fun r7 σ6 => if r7 = (0 : Int32) then (F_Model_touch_B66 p1 p2 p3 p4 l1 l2 l3 l4 σ6) else (F_Model_touch_B71 p1 p2 p3 p4 l1 l2 l3 l4 (0 : Int32) σ6))))

def F_Model_touch_B18 (p1 : Int32) (p2 : Int32) (p3 : Int32) (p4 : Int32) (l1 : Int32) (l2 : Int32) (l3 : Int32) (l4 : Int32) (σ : gSt) : Option (Int32 × gSt) := F_Model_touch_B19 p1 p2 p3 p4 l1 l2 l3 l4 (0 : Int32) σ

def F_Model_touch (p1 : Int32) (p2 : Int32) (p3 : Int32) (p4 : Int32) (σ : gSt) : Option (Int32 × gSt) := gbi (F_Model_isTeam p1 σ) fun r2 σ1 => if r2 = (0 : Int32) then (F_Model_touch_B18 p1 p2 p3 p4 p1 p2 p3 p4 σ1) else (gbi (F_Model_isShirt p2 σ1) fun r5 σ4 => if r5 = (0 : Int32) then (F_Model_touch_B18 p1 p2 p3 p4 p1 p2 p3 p4 σ4) else (F_Model_touch_B19 p1 p2 p3 p4 p1 p2 p3 p4 (1 : Int32) σ4))

set_option maxHeartbeats 4000000 in
set_option maxRecDepth 100000 in
theorem b_Model_touch_B132 {p : Program} {l : Launch} {e : Env} {s : State} {m : MethodId} {args : Array Value} {below : List Frame} {meth : Method} {c : Code} {D : va_G} {cI cJ : ClassId} {ad : Nat → Nat} {sz : Nat} {r : Int32} {σ' : gSt} (C : gC p s m args meth c D cI cJ ad (gA ad sz) cX6_touch 9 RX6) (hr : meth.sig.returnType = (some .int)) (hl : l.stackTraces = false) (p1 : Int32) (p2 : Int32) (p3 : Int32) (p4 : Int32) (l1 : Int32) (l2 : Int32) (l3 : Int32) (l7 : Int32) (s0 : Int32) (s1 : Int32) (σ : gSt) : gX (F_Model_touch_B132 p1 p2 p3 p4 l1 l2 l3 l7 s0 s1 σ) (r, σ') (gG p l e { frames := 5, cells := 0, slots := 0, locals := 113 } s m args below meth c D cI cJ ad (gA ad sz) 9 0 0 (MQ below (va_Qi (fun r1 (_ : Unit) => r1 = r) (fun _ t => va_P D vwCl (gw cI cJ ad σ') t.heap) (gA ad sz)) args s 0 0 (gA ad sz)) σ 132 [(0, .ref (ad 28)), (1, .int l1), (2, .int l2), (3, .int l3), (7, .int l7)] [.int s0, .int s1, .ref (ad 29)]) := by
  unfold F_Model_touch_B132
  refine g_iast (o := 29) (n := 92) C rfl rfl dX6_touch_132 (fun σ1 => ?_)
  refine g_aload_n C 0 dX6_touch_133 rfl rfl ?_
  refine g_getR (o' := 29) C 28 0 gcl6 rfl (by decide) rfl qw316 dX6_touch_134 ?_
  refine g_iconst (v := (4 : Int32)) C dX6_touch_137 (by decide) ?_
  refine g_iload_n C 1 dX6_touch_138 rfl rfl ?_
  refine g_iastL (o := 29) (n := 92) C 4 ⟨by decide, by unfold vp_in; decide⟩ rfl rfl dX6_touch_139 (fun σ2 => ?_)
  refine g_aload_n C 0 dX6_touch_140 rfl rfl ?_
  refine g_getR (o' := 29) C 28 0 gcl6 rfl (by decide) rfl qw316 dX6_touch_141 ?_
  refine g_iconst (v := (5 : Int32)) C dX6_touch_144 (by decide) ?_
  refine g_iload_n C 2 dX6_touch_145 rfl rfl ?_
  refine g_iastL (o := 29) (n := 92) C 5 ⟨by decide, by unfold vp_in; decide⟩ rfl rfl dX6_touch_146 (fun σ3 => ?_)
  refine g_aload_n C 0 dX6_touch_147 rfl rfl ?_
  refine g_getR (o' := 29) C 28 0 gcl6 rfl (by decide) rfl qw316 dX6_touch_148 ?_
  refine g_bipush (v := (6 : Int32)) C dX6_touch_151 (by decide) ?_
  refine g_iload_n C 3 dX6_touch_153 rfl rfl ?_
  refine g_iastL (o := 29) (n := 92) C 6 ⟨by decide, by unfold vp_in; decide⟩ rfl rfl dX6_touch_154 (fun σ4 => ?_)
  refine g_aload_n C 0 dX6_touch_155 rfl rfl ?_
  refine g_getR (o' := 29) C 28 0 gcl6 rfl (by decide) rfl qw316 dX6_touch_156 ?_
  refine g_bipush (v := (8 : Int32)) C dX6_touch_159 (by decide) ?_
  refine g_iconst (v := (0 : Int32)) C dX6_touch_161 (by decide) ?_
  refine g_iastL (o := 29) (n := 92) C 8 ⟨by decide, by unfold vp_in; decide⟩ rfl rfl dX6_touch_162 (fun σ5 => ?_)
  refine g_iload C 4 dX6_touch_163 rfl ?_
  refine g_if_le (tgt := 177) C dX6_touch_165 (by decide) (fun h6 => ?_) (fun h6 => ?_)
  · refine g_iload C 4 dX6_touch_177 rfl ?_
    exact g_ireti C hr dX6_touch_179
  · refine g_aload_n C 0 dX6_touch_168 rfl rfl ?_
    refine g_iconst (v := (1 : Int32)) C dX6_touch_169 (by decide) ?_
    refine g_iload_n C 1 dX6_touch_170 rfl rfl ?_
    refine g_isub C dX6_touch_171 ?_
    refine g_iload C 4 dX6_touch_172 rfl ?_
    refine g_callvv (As := [.int ((1 : Int32) - l1), .int l7]) (n := 2) C (c_Model_ends l hl D cI cJ ad ((1 : Int32) - l1) l7) ⟨rfl, rfl⟩ gcl6 rfl qc91 (hR := ⟨Nat.le_of_ble_eq_true rfl, Nat.le_of_ble_eq_true rfl⟩) rfl rfl (Nat.le_of_ble_eq_true rfl) dX6_touch_174 ⟨Nat.zero_le _, Nat.zero_le _⟩ (fun σ7 => ?_)
    refine g_iload C 4 dX6_touch_177 rfl ?_
    exact g_ireti C hr dX6_touch_179

set_option maxHeartbeats 4000000 in
set_option maxRecDepth 100000 in
theorem b_Model_touch_B111 {p : Program} {l : Launch} {e : Env} {s : State} {m : MethodId} {args : Array Value} {below : List Frame} {meth : Method} {c : Code} {D : va_G} {cI cJ : ClassId} {ad : Nat → Nat} {sz : Nat} {r : Int32} {σ' : gSt} (C : gC p s m args meth c D cI cJ ad (gA ad sz) cX6_touch 9 RX6) (hr : meth.sig.returnType = (some .int)) (hl : l.stackTraces = false) (p1 : Int32) (p2 : Int32) (p3 : Int32) (p4 : Int32) (l1 : Int32) (l2 : Int32) (l3 : Int32) (l7 : Int32) (s0 : Int32) (σ : gSt) : gX (F_Model_touch_B111 p1 p2 p3 p4 l1 l2 l3 l7 s0 σ) (r, σ') (gG p l e { frames := 5, cells := 0, slots := 0, locals := 113 } s m args below meth c D cI cJ ad (gA ad sz) 9 0 0 (MQ below (va_Qi (fun r1 (_ : Unit) => r1 = r) (fun _ t => va_P D vwCl (gw cI cJ ad σ') t.heap) (gA ad sz)) args s 0 0 (gA ad sz)) σ 111 [(0, .ref (ad 28)), (1, .int l1), (2, .int l2), (3, .int l3), (7, .int l7)] [.int s0]) := by
  unfold F_Model_touch_B111
  refine g_istore (L' := [(8, .int s0), (0, .ref (ad 28)), (1, .int l1), (2, .int l2), (3, .int l3), (7, .int l7)]) C dX6_touch_111 (by decide) rfl ?_
  refine g_aload_n C 1 dX6_touch_113 rfl rfl ?_
  refine g_getR (o' := 29) C 28 0 gcl6 rfl (by decide) rfl qw316 dX6_touch_114 ?_
  refine g_bipush (v := (7 : Int32)) C dX6_touch_117 (by decide) ?_
  refine g_iload_n C 4 dX6_touch_119 rfl rfl ?_
  refine g_iconst (v := (2 : Int32)) C dX6_touch_120 (by decide) ?_
  refine g_icmp_ne (tgt := 128) C dX6_touch_121 (by decide) (fun h1 => ?_) (fun h1 => ?_)
  · refine g_iconst (v := (0 : Int32)) C dX6_touch_124 (by decide) ?_
    refine g_goto (tgt := 132) C dX6_touch_125 (by decide) ?_
    refine g_loc [1, 2, 3, 4, 5] rfl ?_
    exact b_Model_touch_B132 C hr hl p1 p2 p3 p4 l1 l2 l3 l7 (0 : Int32) (7 : Int32) σ
  · refine g_iload C 0 dX6_touch_128 rfl ?_
    refine g_iconst (v := (1 : Int32)) C dX6_touch_130 (by decide) ?_
    refine g_iadd C dX6_touch_131 ?_
    refine g_loc [1, 2, 3, 4, 5] rfl ?_
    exact b_Model_touch_B132 C hr hl p1 p2 p3 p4 l1 l2 l3 l7 (s0 + (1 : Int32)) (7 : Int32) σ

set_option maxHeartbeats 4000000 in
set_option maxRecDepth 100000 in
theorem b_Model_touch_B71 {p : Program} {l : Launch} {e : Env} {s : State} {m : MethodId} {args : Array Value} {below : List Frame} {meth : Method} {c : Code} {D : va_G} {cI cJ : ClassId} {ad : Nat → Nat} {sz : Nat} {r : Int32} {σ' : gSt} (C : gC p s m args meth c D cI cJ ad (gA ad sz) cX6_touch 9 RX6) (hr : meth.sig.returnType = (some .int)) (hl : l.stackTraces = false) (p1 : Int32) (p2 : Int32) (p3 : Int32) (p4 : Int32) (l1 : Int32) (l2 : Int32) (l3 : Int32) (l4 : Int32) (s0 : Int32) (σ : gSt) : gX (F_Model_touch_B71 p1 p2 p3 p4 l1 l2 l3 l4 s0 σ) (r, σ') (gG p l e { frames := 5, cells := 0, slots := 0, locals := 113 } s m args below meth c D cI cJ ad (gA ad sz) 9 0 0 (MQ below (va_Qi (fun r1 (_ : Unit) => r1 = r) (fun _ t => va_P D vwCl (gw cI cJ ad σ') t.heap) (gA ad sz)) args s 0 0 (gA ad sz)) σ 71 [(0, .ref (ad 28)), (1, .int l1), (2, .int l2), (3, .int l3), (4, .int l4)] [.int s0, .ref (ad 28)]) := by
  unfold F_Model_touch_B71
  refine g_callvi (As := [.int s0]) (n := 1) C (c_Model_goes l hl D cI cJ ad s0) ⟨rfl, rfl⟩ gcl6 rfl qc81 (hR := ⟨Nat.le_of_ble_eq_true rfl, Nat.le_of_ble_eq_true rfl⟩) rfl rfl (Nat.le_of_ble_eq_true rfl) dX6_touch_71 ⟨Nat.zero_le _, Nat.zero_le _⟩ (fun r2 σ1 => ?_)
  refine g_if_ne (tgt := 79) C dX6_touch_74 (by decide) (fun h3 => ?_) (fun h3 => ?_)
  · refine g_iconst (v := (0 : Int32)) C dX6_touch_77 (by decide) ?_
    exact g_ireti C hr dX6_touch_78
  · refine g_aload_n C 0 dX6_touch_79 rfl rfl ?_
    refine g_iload_n C 1 dX6_touch_80 rfl rfl ?_
    refine g_iload_n C 2 dX6_touch_81 rfl rfl ?_
    refine g_iload_n C 3 dX6_touch_82 rfl rfl ?_
    refine g_iload C 4 dX6_touch_83 rfl ?_
    refine g_callvi (As := [.int l1, .int l2, .int l3, .int l4]) (n := 4) C (c_Model_fault l hl D cI cJ ad l1 l2 l3 l4) ⟨rfl, rfl⟩ gcl6 rfl qc90 (hR := ⟨Nat.le_of_ble_eq_true rfl, Nat.le_of_ble_eq_true rfl⟩) rfl rfl (Nat.le_of_ble_eq_true rfl) dX6_touch_85 ⟨Nat.zero_le _, Nat.zero_le _⟩ (fun r5 σ4 => ?_)
    refine g_istore (L' := [(7, .int r5), (0, .ref (ad 28)), (1, .int l1), (2, .int l2), (3, .int l3), (4, .int l4)]) C dX6_touch_88 (by decide) rfl ?_
    refine g_aload_n C 1 dX6_touch_90 rfl rfl ?_
    refine g_getR (o' := 29) C 28 0 gcl6 rfl (by decide) rfl qw316 dX6_touch_91 ?_
    refine g_iconst (v := (4 : Int32)) C dX6_touch_94 (by decide) ?_
    refine g_ialdL (o := 29) (n := 92) C 4 ⟨by decide, by unfold vp_in; decide⟩ rfl rfl dX6_touch_95 ?_
    refine g_iload_n C 2 dX6_touch_96 rfl rfl ?_
    refine g_icmp_ne (tgt := 110) C dX6_touch_97 (by decide) (fun h6 => ?_) (fun h6 => ?_)
    · refine g_aload_n C 1 dX6_touch_100 rfl rfl ?_
      refine g_getR (o' := 29) C 28 0 gcl6 rfl (by decide) rfl qw316 dX6_touch_101 ?_
      refine g_bipush (v := (7 : Int32)) C dX6_touch_104 (by decide) ?_
      refine g_ialdL (o := 29) (n := 92) C 7 ⟨by decide, by unfold vp_in; decide⟩ rfl rfl dX6_touch_106 ?_
      refine g_goto (tgt := 111) C dX6_touch_107 (by decide) ?_
      refine g_loc [1, 2, 3, 4, 0] rfl ?_
      exact b_Model_touch_B111 C hr hl p1 p2 p3 p4 l1 l2 l3 r5 (σ4 29 7) σ4
    · refine g_iconst (v := (0 : Int32)) C dX6_touch_110 (by decide) ?_
      refine g_loc [1, 2, 3, 4, 0] rfl ?_
      exact b_Model_touch_B111 C hr hl p1 p2 p3 p4 l1 l2 l3 r5 (0 : Int32) σ4

set_option maxHeartbeats 4000000 in
set_option maxRecDepth 100000 in
theorem b_Model_touch_B66 {p : Program} {l : Launch} {e : Env} {s : State} {m : MethodId} {args : Array Value} {below : List Frame} {meth : Method} {c : Code} {D : va_G} {cI cJ : ClassId} {ad : Nat → Nat} {sz : Nat} {r : Int32} {σ' : gSt} (C : gC p s m args meth c D cI cJ ad (gA ad sz) cX6_touch 9 RX6) (hr : meth.sig.returnType = (some .int)) (hl : l.stackTraces = false) (p1 : Int32) (p2 : Int32) (p3 : Int32) (p4 : Int32) (l1 : Int32) (l2 : Int32) (l3 : Int32) (l4 : Int32) (σ : gSt) : gX (F_Model_touch_B66 p1 p2 p3 p4 l1 l2 l3 l4 σ) (r, σ') (gG p l e { frames := 5, cells := 0, slots := 0, locals := 113 } s m args below meth c D cI cJ ad (gA ad sz) 9 0 0 (MQ below (va_Qi (fun r1 (_ : Unit) => r1 = r) (fun _ t => va_P D vwCl (gw cI cJ ad σ') t.heap) (gA ad sz)) args s 0 0 (gA ad sz)) σ 66 [(0, .ref (ad 28)), (1, .int l1), (2, .int l2), (3, .int l3), (4, .int l4)] [.ref (ad 28)]) := by
  unfold F_Model_touch_B66
  refine g_iconst (v := (3 : Int32)) C dX6_touch_66 (by decide) ?_
  refine g_goto (tgt := 71) C dX6_touch_67 (by decide) ?_
  refine g_loc [0, 1, 2, 3, 4] rfl ?_
  exact b_Model_touch_B71 C hr hl p1 p2 p3 p4 l1 l2 l3 l4 (3 : Int32) σ

set_option maxHeartbeats 4000000 in
set_option maxRecDepth 100000 in
theorem b_Model_touch_B19 {p : Program} {l : Launch} {e : Env} {s : State} {m : MethodId} {args : Array Value} {below : List Frame} {meth : Method} {c : Code} {D : va_G} {cI cJ : ClassId} {ad : Nat → Nat} {sz : Nat} {r : Int32} {σ' : gSt} (C : gC p s m args meth c D cI cJ ad (gA ad sz) cX6_touch 9 RX6) (hr : meth.sig.returnType = (some .int)) (hl : l.stackTraces = false) (p1 : Int32) (p2 : Int32) (p3 : Int32) (p4 : Int32) (l1 : Int32) (l2 : Int32) (l3 : Int32) (l4 : Int32) (s0 : Int32) (σ : gSt) : gX (F_Model_touch_B19 p1 p2 p3 p4 l1 l2 l3 l4 s0 σ) (r, σ') (gG p l e { frames := 5, cells := 0, slots := 0, locals := 113 } s m args below meth c D cI cJ ad (gA ad sz) 9 0 0 (MQ below (va_Qi (fun r1 (_ : Unit) => r1 = r) (fun _ t => va_P D vwCl (gw cI cJ ad σ') t.heap) (gA ad sz)) args s 0 0 (gA ad sz)) σ 19 [(0, .ref (ad 28)), (1, .int l1), (2, .int l2), (3, .int l3), (4, .int l4)] [.int s0]) := by
  unfold F_Model_touch_B19
  refine g_istore (L' := [(5, .int s0), (0, .ref (ad 28)), (1, .int l1), (2, .int l2), (3, .int l3), (4, .int l4)]) C dX6_touch_19 (by decide) rfl ?_
  refine g_iload_n C 4 dX6_touch_21 rfl rfl ?_
  refine g_iconst (v := (0 : Int32)) C dX6_touch_22 (by decide) ?_
  refine g_iconst (v := (2 : Int32)) C dX6_touch_23 (by decide) ?_
  refine g_callsi (As := [.int l3, .int (0 : Int32), .int (2 : Int32)]) (n := 3) C (c_Model_isIn l hl D cI cJ ad l3 (0 : Int32) (2 : Int32)) ⟨rfl, rfl⟩ qc78 (hR := ⟨Nat.le_of_ble_eq_true rfl, Nat.le_of_ble_eq_true rfl⟩) rfl rfl (Nat.le_of_ble_eq_true rfl) dX6_touch_24 ⟨Nat.zero_le _, Nat.zero_le _⟩ (fun r2 σ1 => ?_)
  refine g_istore (L' := [(6, .int r2), (5, .int s0), (0, .ref (ad 28)), (1, .int l1), (2, .int l2), (3, .int l3), (4, .int l4)]) C dX6_touch_27 (by decide) rfl ?_
  refine g_aload_n C 2 dX6_touch_29 rfl rfl ?_
  refine g_iload C 1 dX6_touch_30 rfl ?_
  refine g_if_ne (tgt := 39) C dX6_touch_32 (by decide) (fun h3 => ?_) (fun h3 => ?_)
  · refine g_iconst (v := (1 : Int32)) C dX6_touch_35 (by decide) ?_
    refine g_goto (tgt := 71) C dX6_touch_36 (by decide) ?_
    refine g_loc [2, 3, 4, 5, 6] rfl ?_
    exact b_Model_touch_B71 C hr hl p1 p2 p3 p4 l1 l2 l3 l4 (1 : Int32) σ1
  · refine g_iload C 0 dX6_touch_39 rfl ?_
    refine g_if_ne (tgt := 48) C dX6_touch_41 (by decide) (fun h4 => ?_) (fun h4 => ?_)
    · refine g_iconst (v := (2 : Int32)) C dX6_touch_44 (by decide) ?_
      refine g_goto (tgt := 71) C dX6_touch_45 (by decide) ?_
      refine g_loc [2, 3, 4, 5, 6] rfl ?_
      exact b_Model_touch_B71 C hr hl p1 p2 p3 p4 l1 l2 l3 l4 (2 : Int32) σ1
    · refine g_aload_n C 2 dX6_touch_48 rfl rfl ?_
      refine g_getR (o' := 29) C 28 0 gcl6 rfl (by decide) rfl qw316 dX6_touch_49 ?_
      refine g_iconst (v := (1 : Int32)) C dX6_touch_52 (by decide) ?_
      refine g_ialdL (o := 29) (n := 92) C 1 ⟨by decide, by unfold vp_in; decide⟩ rfl rfl dX6_touch_53 ?_
      refine g_if_eq (tgt := 66) C dX6_touch_54 (by decide) (fun h5 => ?_) (fun h5 => ?_)
      · refine g_loc [2, 3, 4, 5, 6] rfl ?_
        exact b_Model_touch_B66 C hr hl p1 p2 p3 p4 l1 l2 l3 l4 σ1
      · refine g_aload_n C 2 dX6_touch_57 rfl rfl ?_
        refine g_iload_n C 3 dX6_touch_58 rfl rfl ?_
        refine g_iload_n C 4 dX6_touch_59 rfl rfl ?_
        refine g_callvi (As := [.int l1, .int l2]) (n := 2) C (c_Model_place l hl D cI cJ ad l1 l2) ⟨rfl, rfl⟩ gcl6 rfl qc84 (hR := ⟨Nat.le_of_ble_eq_true rfl, Nat.le_of_ble_eq_true rfl⟩) rfl rfl (Nat.le_of_ble_eq_true rfl) dX6_touch_60 ⟨Nat.zero_le _, Nat.zero_le _⟩ (fun r7 σ6 => ?_)
        refine g_if_ne (tgt := 70) C dX6_touch_63 (by decide) (fun h8 => ?_) (fun h8 => ?_)
        · refine g_loc [2, 3, 4, 5, 6] rfl ?_
          exact b_Model_touch_B66 C hr hl p1 p2 p3 p4 l1 l2 l3 l4 σ6
        · refine g_iconst (v := (0 : Int32)) C dX6_touch_70 (by decide) ?_
          refine g_loc [2, 3, 4, 5, 6] rfl ?_
          exact b_Model_touch_B71 C hr hl p1 p2 p3 p4 l1 l2 l3 l4 (0 : Int32) σ6

set_option maxHeartbeats 4000000 in
set_option maxRecDepth 100000 in
theorem b_Model_touch_B18 {p : Program} {l : Launch} {e : Env} {s : State} {m : MethodId} {args : Array Value} {below : List Frame} {meth : Method} {c : Code} {D : va_G} {cI cJ : ClassId} {ad : Nat → Nat} {sz : Nat} {r : Int32} {σ' : gSt} (C : gC p s m args meth c D cI cJ ad (gA ad sz) cX6_touch 9 RX6) (hr : meth.sig.returnType = (some .int)) (hl : l.stackTraces = false) (p1 : Int32) (p2 : Int32) (p3 : Int32) (p4 : Int32) (l1 : Int32) (l2 : Int32) (l3 : Int32) (l4 : Int32) (σ : gSt) : gX (F_Model_touch_B18 p1 p2 p3 p4 l1 l2 l3 l4 σ) (r, σ') (gG p l e { frames := 5, cells := 0, slots := 0, locals := 113 } s m args below meth c D cI cJ ad (gA ad sz) 9 0 0 (MQ below (va_Qi (fun r1 (_ : Unit) => r1 = r) (fun _ t => va_P D vwCl (gw cI cJ ad σ') t.heap) (gA ad sz)) args s 0 0 (gA ad sz)) σ 18 [(0, .ref (ad 28)), (1, .int l1), (2, .int l2), (3, .int l3), (4, .int l4)] []) := by
  unfold F_Model_touch_B18
  refine g_iconst (v := (0 : Int32)) C dX6_touch_18 (by decide) ?_
  refine g_loc [0, 1, 2, 3, 4] rfl ?_
  exact b_Model_touch_B19 C hr hl p1 p2 p3 p4 l1 l2 l3 l4 (0 : Int32) σ

set_option maxHeartbeats 4000000 in
set_option maxRecDepth 100000 in
theorem c_Model_touch (l : Launch) (hl : l.stackTraces = false) (D : va_G) (cI cJ : ClassId) (ad : Nat → Nat) (p1 : Int32) (p2 : Int32) (p3 : Int32) (p4 : Int32) : gMi l D cI cJ ad yX6_touch cX6_touch 9 (some .int) { frames := 5, cells := 0, slots := 0, locals := 113 } [.ref (ad 28), .int p1, .int p2, .int p3, .int p4] (F_Model_touch p1 p2 p3 p4) := by
  refine gStartI (L0 := [(0, .ref (ad 28)), (1, .int p1), (2, .int p2), (3, .int p3), (4, .int p4)]) RX6 (by decide) rfl rfl (Nat.le_of_ble_eq_true rfl) ?_
  intro p e s m args below meth c sz σ r σ' C hr
  unfold F_Model_touch
  refine g_iload_n C 1 dX6_touch_0 rfl rfl ?_
  refine g_callsi (As := [.int p1]) (n := 1) C (c_Model_isTeam l hl D cI cJ ad p1) ⟨rfl, rfl⟩ qc80 (hR := ⟨Nat.le_of_ble_eq_true rfl, Nat.le_of_ble_eq_true rfl⟩) rfl rfl (Nat.le_of_ble_eq_true rfl) dX6_touch_1 ⟨Nat.zero_le _, Nat.zero_le _⟩ (fun r2 σ1 => ?_)
  refine g_if_eq (tgt := 18) C dX6_touch_4 (by decide) (fun h3 => ?_) (fun h3 => ?_)
  · refine g_loc [0, 1, 2, 3, 4] rfl ?_
    exact b_Model_touch_B18 C hr hl p1 p2 p3 p4 p1 p2 p3 p4 σ1
  · refine g_iload_n C 2 dX6_touch_7 rfl rfl ?_
    refine g_callsi (As := [.int p2]) (n := 1) C (c_Model_isShirt l hl D cI cJ ad p2) ⟨rfl, rfl⟩ qc83 (hR := ⟨Nat.le_of_ble_eq_true rfl, Nat.le_of_ble_eq_true rfl⟩) rfl rfl (Nat.le_of_ble_eq_true rfl) dX6_touch_8 ⟨Nat.zero_le _, Nat.zero_le _⟩ (fun r5 σ4 => ?_)
    refine g_if_eq (tgt := 18) C dX6_touch_11 (by decide) (fun h6 => ?_) (fun h6 => ?_)
    · refine g_loc [0, 1, 2, 3, 4] rfl ?_
      exact b_Model_touch_B18 C hr hl p1 p2 p3 p4 p1 p2 p3 p4 σ4
    · refine g_iconst (v := (1 : Int32)) C dX6_touch_14 (by decide) ?_
      refine g_goto (tgt := 19) C dX6_touch_15 (by decide) ?_
      refine g_loc [0, 1, 2, 3, 4] rfl ?_
      exact b_Model_touch_B19 C hr hl p1 p2 p3 p4 p1 p2 p3 p4 (1 : Int32) σ4

def F_Model_fall_B82 (p1 : Int32) (l3 : Int32) (s0 : Int32) (s1 : Int32) (σ : gSt) : Option (Int32 × gSt) := gbv (F_Model_ends s1 s0 σ) fun σ1 => some (l3, σ1)

def F_Model_fall_B66 (p1 : Int32) (l1 : Int32) (s0 : Int32) (s1 : Int32) (σ : gSt) : Option (Int32 × gSt) := gl (s1 - s0) fun x1 => if l1 = (-1 : Int32) then (F_Model_fall_B82 p1 x1 (7 : Int32) x1 σ) else (F_Model_fall_B82 p1 x1 (6 : Int32) x1 σ)

def F_Model_fall_B42 (p1 : Int32) (l1 : Int32) (s0 : Int32) (σ : gSt) : Option (Int32 × gSt) := gbi (F_Model_goes s0 σ) fun r2 σ1 => if r2 = (0 : Int32) then (some ((0 : Int32), σ1)) else (if l1 = (-1 : Int32) then (F_Model_fall_B66 p1 l1 (σ1 29 4) (1 : Int32) σ1) else (F_Model_fall_B66 p1 l1 l1 (1 : Int32) σ1))

def F_Model_fall_B17 (p1 : Int32) (l1 : Int32) (s0 : Int32) (σ : gSt) : Option (Int32 × gSt) := if s0 = (0 : Int32) then (F_Model_fall_B42 p1 l1 (1 : Int32) σ) else (if (σ 29 1) = (1 : Int32) then (F_Model_fall_B42 p1 l1 (0 : Int32) σ) else (F_Model_fall_B42 p1 l1 (2 : Int32) σ))

def F_Model_fall_B12 (p1 : Int32) (l1 : Int32) (σ : gSt) : Option (Int32 × gSt) := F_Model_fall_B17 p1 l1 (1 : Int32) σ

def F_Model_fall (p1 : Int32) (σ : gSt) : Option (Int32 × gSt) := if p1 = (-1 : Int32) then (F_Model_fall_B12 p1 p1 σ) else (gbi (F_Model_isTeam p1 σ) fun r3 σ2 => if r3 = (0 : Int32) then (F_Model_fall_B17 p1 p1 (0 : Int32) σ2) else (F_Model_fall_B12 p1 p1 σ2))

set_option maxHeartbeats 4000000 in
set_option maxRecDepth 100000 in
theorem b_Model_fall_B82 {p : Program} {l : Launch} {e : Env} {s : State} {m : MethodId} {args : Array Value} {below : List Frame} {meth : Method} {c : Code} {D : va_G} {cI cJ : ClassId} {ad : Nat → Nat} {sz : Nat} {r : Int32} {σ' : gSt} (C : gC p s m args meth c D cI cJ ad (gA ad sz) cX6_fall 4 RX6) (hr : meth.sig.returnType = (some .int)) (hl : l.stackTraces = false) (p1 : Int32) (l3 : Int32) (s0 : Int32) (s1 : Int32) (σ : gSt) : gX (F_Model_fall_B82 p1 l3 s0 s1 σ) (r, σ') (gG p l e { frames := 5, cells := 0, slots := 0, locals := 113 } s m args below meth c D cI cJ ad (gA ad sz) 4 0 0 (MQ below (va_Qi (fun r1 (_ : Unit) => r1 = r) (fun _ t => va_P D vwCl (gw cI cJ ad σ') t.heap) (gA ad sz)) args s 0 0 (gA ad sz)) σ 82 [(3, .int l3)] [.int s0, .int s1, .ref (ad 28)]) := by
  unfold F_Model_fall_B82
  refine g_callvv (As := [.int s1, .int s0]) (n := 2) C (c_Model_ends l hl D cI cJ ad s1 s0) ⟨rfl, rfl⟩ gcl6 rfl qc91 (hR := ⟨Nat.le_of_ble_eq_true rfl, Nat.le_of_ble_eq_true rfl⟩) rfl rfl (Nat.le_of_ble_eq_true rfl) dX6_fall_82 ⟨Nat.zero_le _, Nat.zero_le _⟩ (fun σ1 => ?_)
  refine g_iload_n C 0 dX6_fall_85 rfl rfl ?_
  exact g_ireti C hr dX6_fall_86

set_option maxHeartbeats 4000000 in
set_option maxRecDepth 100000 in
theorem b_Model_fall_B66 {p : Program} {l : Launch} {e : Env} {s : State} {m : MethodId} {args : Array Value} {below : List Frame} {meth : Method} {c : Code} {D : va_G} {cI cJ : ClassId} {ad : Nat → Nat} {sz : Nat} {r : Int32} {σ' : gSt} (C : gC p s m args meth c D cI cJ ad (gA ad sz) cX6_fall 4 RX6) (hr : meth.sig.returnType = (some .int)) (hl : l.stackTraces = false) (p1 : Int32) (l1 : Int32) (s0 : Int32) (s1 : Int32) (σ : gSt) : gX (F_Model_fall_B66 p1 l1 s0 s1 σ) (r, σ') (gG p l e { frames := 5, cells := 0, slots := 0, locals := 113 } s m args below meth c D cI cJ ad (gA ad sz) 4 0 0 (MQ below (va_Qi (fun r1 (_ : Unit) => r1 = r) (fun _ t => va_P D vwCl (gw cI cJ ad σ') t.heap) (gA ad sz)) args s 0 0 (gA ad sz)) σ 66 [(0, .ref (ad 28)), (1, .int l1)] [.int s0, .int s1]) := by
  unfold F_Model_fall_B66
  refine g_isub C dX6_fall_66 ?_
  refine g_name ?_; intro x1
  refine g_istore_n (L' := [(3, .int x1), (0, .ref (ad 28)), (1, .int l1)]) C dX6_fall_67 rfl (by decide) rfl ?_
  refine g_aload_n C 1 dX6_fall_68 rfl rfl ?_
  refine g_iload_n C 0 dX6_fall_69 rfl rfl ?_
  refine g_iload_n C 2 dX6_fall_70 rfl rfl ?_
  refine g_iconst (v := (-1 : Int32)) C dX6_fall_71 (by decide) ?_
  refine g_icmp_ne (tgt := 80) C dX6_fall_72 (by decide) (fun h2 => ?_) (fun h2 => ?_)
  · refine g_bipush (v := (7 : Int32)) C dX6_fall_75 (by decide) ?_
    refine g_goto (tgt := 82) C dX6_fall_77 (by decide) ?_
    refine g_loc [0] rfl ?_
    exact b_Model_fall_B82 C hr hl p1 x1 (7 : Int32) x1 σ
  · refine g_bipush (v := (6 : Int32)) C dX6_fall_80 (by decide) ?_
    refine g_loc [0] rfl ?_
    exact b_Model_fall_B82 C hr hl p1 x1 (6 : Int32) x1 σ

set_option maxHeartbeats 4000000 in
set_option maxRecDepth 100000 in
theorem b_Model_fall_B42 {p : Program} {l : Launch} {e : Env} {s : State} {m : MethodId} {args : Array Value} {below : List Frame} {meth : Method} {c : Code} {D : va_G} {cI cJ : ClassId} {ad : Nat → Nat} {sz : Nat} {r : Int32} {σ' : gSt} (C : gC p s m args meth c D cI cJ ad (gA ad sz) cX6_fall 4 RX6) (hr : meth.sig.returnType = (some .int)) (hl : l.stackTraces = false) (p1 : Int32) (l1 : Int32) (s0 : Int32) (σ : gSt) : gX (F_Model_fall_B42 p1 l1 s0 σ) (r, σ') (gG p l e { frames := 5, cells := 0, slots := 0, locals := 113 } s m args below meth c D cI cJ ad (gA ad sz) 4 0 0 (MQ below (va_Qi (fun r1 (_ : Unit) => r1 = r) (fun _ t => va_P D vwCl (gw cI cJ ad σ') t.heap) (gA ad sz)) args s 0 0 (gA ad sz)) σ 42 [(0, .ref (ad 28)), (1, .int l1)] [.int s0, .ref (ad 28)]) := by
  unfold F_Model_fall_B42
  refine g_callvi (As := [.int s0]) (n := 1) C (c_Model_goes l hl D cI cJ ad s0) ⟨rfl, rfl⟩ gcl6 rfl qc81 (hR := ⟨Nat.le_of_ble_eq_true rfl, Nat.le_of_ble_eq_true rfl⟩) rfl rfl (Nat.le_of_ble_eq_true rfl) dX6_fall_42 ⟨Nat.zero_le _, Nat.zero_le _⟩ (fun r2 σ1 => ?_)
  refine g_if_ne (tgt := 50) C dX6_fall_45 (by decide) (fun h3 => ?_) (fun h3 => ?_)
  · refine g_iconst (v := (0 : Int32)) C dX6_fall_48 (by decide) ?_
    exact g_ireti C hr dX6_fall_49
  · refine g_iconst (v := (1 : Int32)) C dX6_fall_50 (by decide) ?_
    refine g_iload_n C 1 dX6_fall_51 rfl rfl ?_
    refine g_iconst (v := (-1 : Int32)) C dX6_fall_52 (by decide) ?_
    refine g_icmp_ne (tgt := 65) C dX6_fall_53 (by decide) (fun h4 => ?_) (fun h4 => ?_)
    · refine g_aload_n C 0 dX6_fall_56 rfl rfl ?_
      refine g_getR (o' := 29) C 28 0 gcl6 rfl (by decide) rfl qw316 dX6_fall_57 ?_
      refine g_iconst (v := (4 : Int32)) C dX6_fall_60 (by decide) ?_
      refine g_ialdL (o := 29) (n := 92) C 4 ⟨by decide, by unfold vp_in; decide⟩ rfl rfl dX6_fall_61 ?_
      refine g_goto (tgt := 66) C dX6_fall_62 (by decide) ?_
      refine g_loc [0, 1] rfl ?_
      exact b_Model_fall_B66 C hr hl p1 l1 (σ1 29 4) (1 : Int32) σ1
    · refine g_iload_n C 1 dX6_fall_65 rfl rfl ?_
      refine g_loc [0, 1] rfl ?_
      exact b_Model_fall_B66 C hr hl p1 l1 l1 (1 : Int32) σ1

set_option maxHeartbeats 4000000 in
set_option maxRecDepth 100000 in
theorem b_Model_fall_B17 {p : Program} {l : Launch} {e : Env} {s : State} {m : MethodId} {args : Array Value} {below : List Frame} {meth : Method} {c : Code} {D : va_G} {cI cJ : ClassId} {ad : Nat → Nat} {sz : Nat} {r : Int32} {σ' : gSt} (C : gC p s m args meth c D cI cJ ad (gA ad sz) cX6_fall 4 RX6) (hr : meth.sig.returnType = (some .int)) (hl : l.stackTraces = false) (p1 : Int32) (l1 : Int32) (s0 : Int32) (σ : gSt) : gX (F_Model_fall_B17 p1 l1 s0 σ) (r, σ') (gG p l e { frames := 5, cells := 0, slots := 0, locals := 113 } s m args below meth c D cI cJ ad (gA ad sz) 4 0 0 (MQ below (va_Qi (fun r1 (_ : Unit) => r1 = r) (fun _ t => va_P D vwCl (gw cI cJ ad σ') t.heap) (gA ad sz)) args s 0 0 (gA ad sz)) σ 17 [(0, .ref (ad 28)), (1, .int l1)] [.int s0]) := by
  unfold F_Model_fall_B17
  refine g_istore_n (L' := [(2, .int s0), (0, .ref (ad 28)), (1, .int l1)]) C dX6_fall_17 rfl (by decide) rfl ?_
  refine g_aload_n C 1 dX6_fall_18 rfl rfl ?_
  refine g_iload_n C 0 dX6_fall_19 rfl rfl ?_
  refine g_if_ne (tgt := 27) C dX6_fall_20 (by decide) (fun h1 => ?_) (fun h1 => ?_)
  · refine g_iconst (v := (1 : Int32)) C dX6_fall_23 (by decide) ?_
    refine g_goto (tgt := 42) C dX6_fall_24 (by decide) ?_
    refine g_loc [1, 2] rfl ?_
    exact b_Model_fall_B42 C hr hl p1 l1 (1 : Int32) σ
  · refine g_aload_n C 1 dX6_fall_27 rfl rfl ?_
    refine g_getR (o' := 29) C 28 0 gcl6 rfl (by decide) rfl qw316 dX6_fall_28 ?_
    refine g_iconst (v := (1 : Int32)) C dX6_fall_31 (by decide) ?_
    refine g_ialdL (o := 29) (n := 92) C 1 ⟨by decide, by unfold vp_in; decide⟩ rfl rfl dX6_fall_32 ?_
    refine g_iconst (v := (1 : Int32)) C dX6_fall_33 (by decide) ?_
    refine g_icmp_ne (tgt := 41) C dX6_fall_34 (by decide) (fun h2 => ?_) (fun h2 => ?_)
    · refine g_iconst (v := (0 : Int32)) C dX6_fall_37 (by decide) ?_
      refine g_goto (tgt := 42) C dX6_fall_38 (by decide) ?_
      refine g_loc [1, 2] rfl ?_
      exact b_Model_fall_B42 C hr hl p1 l1 (0 : Int32) σ
    · refine g_iconst (v := (2 : Int32)) C dX6_fall_41 (by decide) ?_
      refine g_loc [1, 2] rfl ?_
      exact b_Model_fall_B42 C hr hl p1 l1 (2 : Int32) σ

set_option maxHeartbeats 4000000 in
set_option maxRecDepth 100000 in
theorem b_Model_fall_B12 {p : Program} {l : Launch} {e : Env} {s : State} {m : MethodId} {args : Array Value} {below : List Frame} {meth : Method} {c : Code} {D : va_G} {cI cJ : ClassId} {ad : Nat → Nat} {sz : Nat} {r : Int32} {σ' : gSt} (C : gC p s m args meth c D cI cJ ad (gA ad sz) cX6_fall 4 RX6) (hr : meth.sig.returnType = (some .int)) (hl : l.stackTraces = false) (p1 : Int32) (l1 : Int32) (σ : gSt) : gX (F_Model_fall_B12 p1 l1 σ) (r, σ') (gG p l e { frames := 5, cells := 0, slots := 0, locals := 113 } s m args below meth c D cI cJ ad (gA ad sz) 4 0 0 (MQ below (va_Qi (fun r1 (_ : Unit) => r1 = r) (fun _ t => va_P D vwCl (gw cI cJ ad σ') t.heap) (gA ad sz)) args s 0 0 (gA ad sz)) σ 12 [(0, .ref (ad 28)), (1, .int l1)] []) := by
  unfold F_Model_fall_B12
  refine g_iconst (v := (1 : Int32)) C dX6_fall_12 (by decide) ?_
  refine g_goto (tgt := 17) C dX6_fall_13 (by decide) ?_
  refine g_loc [0, 1] rfl ?_
  exact b_Model_fall_B17 C hr hl p1 l1 (1 : Int32) σ

set_option maxHeartbeats 4000000 in
set_option maxRecDepth 100000 in
theorem c_Model_fall (l : Launch) (hl : l.stackTraces = false) (D : va_G) (cI cJ : ClassId) (ad : Nat → Nat) (p1 : Int32) : gMi l D cI cJ ad yX6_fall cX6_fall 4 (some .int) { frames := 5, cells := 0, slots := 0, locals := 113 } [.ref (ad 28), .int p1] (F_Model_fall p1) := by
  refine gStartI (L0 := [(0, .ref (ad 28)), (1, .int p1)]) RX6 (by decide) rfl rfl (Nat.le_of_ble_eq_true rfl) ?_
  intro p e s m args below meth c sz σ r σ' C hr
  unfold F_Model_fall
  refine g_iload_n C 1 dX6_fall_0 rfl rfl ?_
  refine g_iconst (v := (-1 : Int32)) C dX6_fall_1 (by decide) ?_
  refine g_icmp_eq (tgt := 12) C dX6_fall_2 (by decide) (fun h1 => ?_) (fun h1 => ?_)
  · refine g_loc [0, 1] rfl ?_
    exact b_Model_fall_B12 C hr hl p1 p1 σ
  · refine g_iload_n C 1 dX6_fall_5 rfl rfl ?_
    refine g_callsi (As := [.int p1]) (n := 1) C (c_Model_isTeam l hl D cI cJ ad p1) ⟨rfl, rfl⟩ qc80 (hR := ⟨Nat.le_of_ble_eq_true rfl, Nat.le_of_ble_eq_true rfl⟩) rfl rfl (Nat.le_of_ble_eq_true rfl) dX6_fall_6 ⟨Nat.zero_le _, Nat.zero_le _⟩ (fun r3 σ2 => ?_)
    refine g_if_eq (tgt := 16) C dX6_fall_9 (by decide) (fun h4 => ?_) (fun h4 => ?_)
    · refine g_iconst (v := (0 : Int32)) C dX6_fall_16 (by decide) ?_
      refine g_loc [0, 1] rfl ?_
      exact b_Model_fall_B17 C hr hl p1 p1 (0 : Int32) σ2
    · refine g_loc [0, 1] rfl ?_
      exact b_Model_fall_B12 C hr hl p1 p1 σ2

def F_Model_net_B27 (p1 : Int32) (p2 : Int32) (l1 : Int32) (l2 : Int32) (s0 : Int32) (σ : gSt) : Option (Int32 × gSt) := gbi (F_Model_goes s0 σ) fun r2 σ1 => if r2 = (0 : Int32) then (some ((0 : Int32), σ1)) else (if l2 = (0 : Int32) then (if ((38 : Int32) + l1) < 0 ∨ 92 ≤ ((38 : Int32) + l1).toNatClampNeg then none else gl (gup σ1 29 ((38 : Int32) + l1).toNatClampNeg (1 : Int32)) fun σ5 => if l2 = 0 ∨ l2 = 1 then some (l2, σ5) else none) else (gbv (F_Model_ends ((1 : Int32) - l1) (8 : Int32) σ1) fun σ7 => if l2 = 0 ∨ l2 = 1 then some (l2, σ7) else none))

def F_Model_net (p1 : Int32) (p2 : Int32) (σ : gSt) : Option (Int32 × gSt) := gbi (F_Model_isTeam p1 σ) fun r2 σ1 => if r2 = (0 : Int32) then (F_Model_net_B27 p1 p2 p1 p2 (1 : Int32) σ1) else (if (σ1 29 1) = (1 : Int32) then (F_Model_net_B27 p1 p2 p1 p2 (0 : Int32) σ1) else (F_Model_net_B27 p1 p2 p1 p2 (2 : Int32) σ1))

set_option maxHeartbeats 4000000 in
set_option maxRecDepth 100000 in
theorem b_Model_net_B27 {p : Program} {l : Launch} {e : Env} {s : State} {m : MethodId} {args : Array Value} {below : List Frame} {meth : Method} {c : Code} {D : va_G} {cI cJ : ClassId} {ad : Nat → Nat} {sz : Nat} {r : Int32} {σ' : gSt} (C : gC p s m args meth c D cI cJ ad (gA ad sz) cX6_net 3 RX6) (hr : meth.sig.returnType = (some .boolean)) (hl : l.stackTraces = false) (p1 : Int32) (p2 : Int32) (l1 : Int32) (l2 : Int32) (s0 : Int32) (σ : gSt) : gX (F_Model_net_B27 p1 p2 l1 l2 s0 σ) (r, σ') (gG p l e { frames := 5, cells := 0, slots := 0, locals := 113 } s m args below meth c D cI cJ ad (gA ad sz) 3 0 0 (MQ below (va_Qi (fun r1 (_ : Unit) => r1 = r) (fun _ t => va_P D vwCl (gw cI cJ ad σ') t.heap) (gA ad sz)) args s 0 0 (gA ad sz)) σ 27 [(0, .ref (ad 28)), (1, .int l1), (2, .int l2)] [.int s0, .ref (ad 28)]) := by
  unfold F_Model_net_B27
  refine g_callvi (As := [.int s0]) (n := 1) C (c_Model_goes l hl D cI cJ ad s0) ⟨rfl, rfl⟩ gcl6 rfl qc81 (hR := ⟨Nat.le_of_ble_eq_true rfl, Nat.le_of_ble_eq_true rfl⟩) rfl rfl (Nat.le_of_ble_eq_true rfl) dX6_net_27 ⟨Nat.zero_le _, Nat.zero_le _⟩ (fun r2 σ1 => ?_)
  refine g_if_ne (tgt := 35) C dX6_net_30 (by decide) (fun h3 => ?_) (fun h3 => ?_)
  · refine g_iconst (v := (0 : Int32)) C dX6_net_33 (by decide) ?_
    exact g_iretz C (by decide) hr dX6_net_34
  · refine g_iload_n C 2 dX6_net_35 rfl rfl ?_
    refine g_if_eq (tgt := 51) C dX6_net_36 (by decide) (fun h4 => ?_) (fun h4 => ?_)
    · refine g_aload_n C 0 dX6_net_51 rfl rfl ?_
      refine g_getR (o' := 29) C 28 0 gcl6 rfl (by decide) rfl qw316 dX6_net_52 ?_
      refine g_bipush (v := (38 : Int32)) C dX6_net_55 (by decide) ?_
      refine g_iload_n C 1 dX6_net_57 rfl rfl ?_
      refine g_iadd C dX6_net_58 ?_
      refine g_iconst (v := (1 : Int32)) C dX6_net_59 (by decide) ?_
      refine g_iast (o := 29) (n := 92) C rfl rfl dX6_net_60 (fun σ5 => ?_)
      refine g_iload_n C 2 dX6_net_61 rfl rfl ?_
      refine gX_z (fun z6 => ?_)
      exact g_iretz C z6 hr dX6_net_62
    · refine g_aload_n C 0 dX6_net_39 rfl rfl ?_
      refine g_iconst (v := (1 : Int32)) C dX6_net_40 (by decide) ?_
      refine g_iload_n C 1 dX6_net_41 rfl rfl ?_
      refine g_isub C dX6_net_42 ?_
      refine g_bipush (v := (8 : Int32)) C dX6_net_43 (by decide) ?_
      refine g_callvv (As := [.int ((1 : Int32) - l1), .int (8 : Int32)]) (n := 2) C (c_Model_ends l hl D cI cJ ad ((1 : Int32) - l1) (8 : Int32)) ⟨rfl, rfl⟩ gcl6 rfl qc91 (hR := ⟨Nat.le_of_ble_eq_true rfl, Nat.le_of_ble_eq_true rfl⟩) rfl rfl (Nat.le_of_ble_eq_true rfl) dX6_net_45 ⟨Nat.zero_le _, Nat.zero_le _⟩ (fun σ7 => ?_)
      refine g_goto (tgt := 61) C dX6_net_48 (by decide) ?_
      refine g_iload_n C 2 dX6_net_61 rfl rfl ?_
      refine gX_z (fun z8 => ?_)
      exact g_iretz C z8 hr dX6_net_62

set_option maxHeartbeats 4000000 in
set_option maxRecDepth 100000 in
theorem c_Model_net (l : Launch) (hl : l.stackTraces = false) (D : va_G) (cI cJ : ClassId) (ad : Nat → Nat) (p1 : Int32) (p2 : Int32) : gMi l D cI cJ ad yX6_net cX6_net 3 (some .boolean) { frames := 5, cells := 0, slots := 0, locals := 113 } [.ref (ad 28), .int p1, .int p2] (F_Model_net p1 p2) := by
  refine gStartI (L0 := [(0, .ref (ad 28)), (1, .int p1), (2, .int p2)]) RX6 (by decide) rfl rfl (Nat.le_of_ble_eq_true rfl) ?_
  intro p e s m args below meth c sz σ r σ' C hr
  unfold F_Model_net
  refine g_aload_n C 0 dX6_net_0 rfl rfl ?_
  refine g_iload_n C 1 dX6_net_1 rfl rfl ?_
  refine g_callsi (As := [.int p1]) (n := 1) C (c_Model_isTeam l hl D cI cJ ad p1) ⟨rfl, rfl⟩ qc80 (hR := ⟨Nat.le_of_ble_eq_true rfl, Nat.le_of_ble_eq_true rfl⟩) rfl rfl (Nat.le_of_ble_eq_true rfl) dX6_net_2 ⟨Nat.zero_le _, Nat.zero_le _⟩ (fun r2 σ1 => ?_)
  refine g_if_ne (tgt := 12) C dX6_net_5 (by decide) (fun h3 => ?_) (fun h3 => ?_)
  · refine g_iconst (v := (1 : Int32)) C dX6_net_8 (by decide) ?_
    refine g_goto (tgt := 27) C dX6_net_9 (by decide) ?_
    refine g_loc [0, 1, 2] rfl ?_
    exact b_Model_net_B27 C hr hl p1 p2 p1 p2 (1 : Int32) σ1
  · refine g_aload_n C 0 dX6_net_12 rfl rfl ?_
    refine g_getR (o' := 29) C 28 0 gcl6 rfl (by decide) rfl qw316 dX6_net_13 ?_
    refine g_iconst (v := (1 : Int32)) C dX6_net_16 (by decide) ?_
    refine g_ialdL (o := 29) (n := 92) C 1 ⟨by decide, by unfold vp_in; decide⟩ rfl rfl dX6_net_17 ?_
    refine g_iconst (v := (1 : Int32)) C dX6_net_18 (by decide) ?_
    refine g_icmp_ne (tgt := 26) C dX6_net_19 (by decide) (fun h4 => ?_) (fun h4 => ?_)
    · refine g_iconst (v := (0 : Int32)) C dX6_net_22 (by decide) ?_
      refine g_goto (tgt := 27) C dX6_net_23 (by decide) ?_
      refine g_loc [0, 1, 2] rfl ?_
      exact b_Model_net_B27 C hr hl p1 p2 p1 p2 (0 : Int32) σ1
    · refine g_iconst (v := (2 : Int32)) C dX6_net_26 (by decide) ?_
      refine g_loc [0, 1, 2] rfl ?_
      exact b_Model_net_B27 C hr hl p1 p2 p1 p2 (2 : Int32) σ1

def F_Model_find_B46 (s0 : Int32) (σ : gSt) : Option (Int32 × gSt) := gbi (F_Model_goes s0 σ) fun r2 σ1 => if r2 = (0 : Int32) then (some ((0 : Int32), σ1)) else (gl (gup σ1 29 41 (0 : Int32)) fun σ4 => gl (σ4 29 2) fun x5 => if ((10 : Int32) + x5) < 0 ∨ 92 ≤ ((10 : Int32) + x5).toNatClampNeg then none else gl ((σ4 29 ((10 : Int32) + x5).toNatClampNeg) - (σ4 29 9)) fun x6 => if ((10 : Int32) + x5) < 0 ∨ 92 ≤ ((10 : Int32) + x5).toNatClampNeg then none else if ((10 : Int32) + x5) < 0 ∨ 92 ≤ ((10 : Int32) + x5).toNatClampNeg then none else gl (gup σ4 29 ((10 : Int32) + x5).toNatClampNeg ((σ4 29 ((10 : Int32) + x5).toNatClampNeg) - x6)) fun σ7 => gl (gup σ7 29 3 (9 : Int32)) fun σ8 => gbv (F_Model_scores ((1 : Int32) - x5) σ8) fun σ9 => some (x6, σ9))

def F_Model_find_B35 (s0 : Int32) (σ : gSt) : Option (Int32 × gSt) := if s0 = (0 : Int32) then (F_Model_find_B46 (1 : Int32) σ) else (F_Model_find_B46 (0 : Int32) σ)

def F_Model_find_B34  (σ : gSt) : Option (Int32 × gSt) := F_Model_find_B35 (0 : Int32) σ

def F_Model_find  (σ : gSt) : Option (Int32 × gSt) := if (σ 29 0) = (1 : Int32) then (if (σ 29 1) = (0 : Int32) then (if (σ 29 9) = (-1 : Int32) then (F_Model_find_B34 σ) else (F_Model_find_B35 (1 : Int32) σ)) else (F_Model_find_B34 σ)) else (F_Model_find_B34 σ)

set_option maxHeartbeats 4000000 in
set_option maxRecDepth 100000 in
theorem b_Model_find_B46 {p : Program} {l : Launch} {e : Env} {s : State} {m : MethodId} {args : Array Value} {below : List Frame} {meth : Method} {c : Code} {D : va_G} {cI cJ : ClassId} {ad : Nat → Nat} {sz : Nat} {r : Int32} {σ' : gSt} (C : gC p s m args meth c D cI cJ ad (gA ad sz) cX6_find 4 RX6) (hr : meth.sig.returnType = (some .int)) (hl : l.stackTraces = false) (s0 : Int32) (σ : gSt) : gX (F_Model_find_B46 s0 σ) (r, σ') (gG p l e { frames := 3, cells := 0, slots := 0, locals := 67 } s m args below meth c D cI cJ ad (gA ad sz) 4 0 0 (MQ below (va_Qi (fun r1 (_ : Unit) => r1 = r) (fun _ t => va_P D vwCl (gw cI cJ ad σ') t.heap) (gA ad sz)) args s 0 0 (gA ad sz)) σ 46 [(0, .ref (ad 28))] [.int s0, .ref (ad 28)]) := by
  unfold F_Model_find_B46
  refine g_callvi (As := [.int s0]) (n := 1) C (c_Model_goes l hl D cI cJ ad s0) ⟨rfl, rfl⟩ gcl6 rfl qc81 (hR := ⟨Nat.le_of_ble_eq_true rfl, Nat.le_of_ble_eq_true rfl⟩) rfl rfl (Nat.le_of_ble_eq_true rfl) dX6_find_46 ⟨Nat.zero_le _, Nat.zero_le _⟩ (fun r2 σ1 => ?_)
  refine g_if_ne (tgt := 54) C dX6_find_49 (by decide) (fun h3 => ?_) (fun h3 => ?_)
  · refine g_iconst (v := (0 : Int32)) C dX6_find_52 (by decide) ?_
    exact g_ireti C hr dX6_find_53
  · refine g_aload_n C 0 dX6_find_54 rfl rfl ?_
    refine g_getR (o' := 29) C 28 0 gcl6 rfl (by decide) rfl qw316 dX6_find_55 ?_
    refine g_bipush (v := (41 : Int32)) C dX6_find_58 (by decide) ?_
    refine g_iconst (v := (0 : Int32)) C dX6_find_60 (by decide) ?_
    refine g_iastL (o := 29) (n := 92) C 41 ⟨by decide, by unfold vp_in; decide⟩ rfl rfl dX6_find_61 (fun σ4 => ?_)
    refine g_aload_n C 0 dX6_find_62 rfl rfl ?_
    refine g_getR (o' := 29) C 28 0 gcl6 rfl (by decide) rfl qw316 dX6_find_63 ?_
    refine g_iconst (v := (2 : Int32)) C dX6_find_66 (by decide) ?_
    refine g_ialdL (o := 29) (n := 92) C 2 ⟨by decide, by unfold vp_in; decide⟩ rfl rfl dX6_find_67 ?_
    refine g_name ?_; intro x5
    refine g_istore_n (L' := [(2, .int x5), (0, .ref (ad 28))]) C dX6_find_68 rfl (by decide) rfl ?_
    refine g_aload_n C 1 dX6_find_69 rfl rfl ?_
    refine g_getR (o' := 29) C 28 0 gcl6 rfl (by decide) rfl qw316 dX6_find_70 ?_
    refine g_bipush (v := (10 : Int32)) C dX6_find_73 (by decide) ?_
    refine g_iload_n C 0 dX6_find_75 rfl rfl ?_
    refine g_iadd C dX6_find_76 ?_
    refine g_iald (o := 29) (n := 92) C rfl rfl dX6_find_77 ?_
    refine g_aload_n C 1 dX6_find_78 rfl rfl ?_
    refine g_getR (o' := 29) C 28 0 gcl6 rfl (by decide) rfl qw316 dX6_find_79 ?_
    refine g_bipush (v := (9 : Int32)) C dX6_find_82 (by decide) ?_
    refine g_ialdL (o := 29) (n := 92) C 9 ⟨by decide, by unfold vp_in; decide⟩ rfl rfl dX6_find_84 ?_
    refine g_isub C dX6_find_85 ?_
    refine g_name ?_; intro x6
    refine g_istore_n (L' := [(3, .int x6), (2, .int x5), (0, .ref (ad 28))]) C dX6_find_86 rfl (by decide) rfl ?_
    refine g_aload_n C 2 dX6_find_87 rfl rfl ?_
    refine g_getR (o' := 29) C 28 0 gcl6 rfl (by decide) rfl qw316 dX6_find_88 ?_
    refine g_bipush (v := (10 : Int32)) C dX6_find_91 (by decide) ?_
    refine g_iload_n C 1 dX6_find_93 rfl rfl ?_
    refine g_iadd C dX6_find_94 ?_
    refine g_dup2 C dX6_find_95 rfl rfl ?_
    refine g_iald (o := 29) (n := 92) C rfl rfl dX6_find_96 ?_
    refine g_iload_n C 0 dX6_find_97 rfl rfl ?_
    refine g_isub C dX6_find_98 ?_
    refine g_iast (o := 29) (n := 92) C rfl rfl dX6_find_99 (fun σ7 => ?_)
    refine g_aload_n C 2 dX6_find_100 rfl rfl ?_
    refine g_getR (o' := 29) C 28 0 gcl6 rfl (by decide) rfl qw316 dX6_find_101 ?_
    refine g_iconst (v := (3 : Int32)) C dX6_find_104 (by decide) ?_
    refine g_bipush (v := (9 : Int32)) C dX6_find_105 (by decide) ?_
    refine g_iastL (o := 29) (n := 92) C 3 ⟨by decide, by unfold vp_in; decide⟩ rfl rfl dX6_find_107 (fun σ8 => ?_)
    refine g_aload_n C 2 dX6_find_108 rfl rfl ?_
    refine g_iconst (v := (1 : Int32)) C dX6_find_109 (by decide) ?_
    refine g_iload_n C 1 dX6_find_110 rfl rfl ?_
    refine g_isub C dX6_find_111 ?_
    refine g_callvv (As := [.int ((1 : Int32) - x5)]) (n := 1) C (c_Model_scores l hl D cI cJ ad ((1 : Int32) - x5)) ⟨rfl, rfl⟩ gcl6 rfl qc87 (hR := ⟨Nat.le_of_ble_eq_true rfl, Nat.le_of_ble_eq_true rfl⟩) rfl rfl (Nat.le_of_ble_eq_true rfl) dX6_find_112 ⟨Nat.zero_le _, Nat.zero_le _⟩ (fun σ9 => ?_)
    refine g_iload_n C 0 dX6_find_115 rfl rfl ?_
    exact g_ireti C hr dX6_find_116

set_option maxHeartbeats 4000000 in
set_option maxRecDepth 100000 in
theorem b_Model_find_B35 {p : Program} {l : Launch} {e : Env} {s : State} {m : MethodId} {args : Array Value} {below : List Frame} {meth : Method} {c : Code} {D : va_G} {cI cJ : ClassId} {ad : Nat → Nat} {sz : Nat} {r : Int32} {σ' : gSt} (C : gC p s m args meth c D cI cJ ad (gA ad sz) cX6_find 4 RX6) (hr : meth.sig.returnType = (some .int)) (hl : l.stackTraces = false) (s0 : Int32) (σ : gSt) : gX (F_Model_find_B35 s0 σ) (r, σ') (gG p l e { frames := 3, cells := 0, slots := 0, locals := 67 } s m args below meth c D cI cJ ad (gA ad sz) 4 0 0 (MQ below (va_Qi (fun r1 (_ : Unit) => r1 = r) (fun _ t => va_P D vwCl (gw cI cJ ad σ') t.heap) (gA ad sz)) args s 0 0 (gA ad sz)) σ 35 [(0, .ref (ad 28))] [.int s0]) := by
  unfold F_Model_find_B35
  refine g_istore_n (L' := [(1, .int s0), (0, .ref (ad 28))]) C dX6_find_35 rfl (by decide) rfl ?_
  refine g_aload_n C 1 dX6_find_36 rfl rfl ?_
  refine g_iload_n C 0 dX6_find_37 rfl rfl ?_
  refine g_if_eq (tgt := 45) C dX6_find_38 (by decide) (fun h1 => ?_) (fun h1 => ?_)
  · refine g_iconst (v := (1 : Int32)) C dX6_find_45 (by decide) ?_
    refine g_loc [1] rfl ?_
    exact b_Model_find_B46 C hr hl (1 : Int32) σ
  · refine g_iconst (v := (0 : Int32)) C dX6_find_41 (by decide) ?_
    refine g_goto (tgt := 46) C dX6_find_42 (by decide) ?_
    refine g_loc [1] rfl ?_
    exact b_Model_find_B46 C hr hl (0 : Int32) σ

set_option maxHeartbeats 4000000 in
set_option maxRecDepth 100000 in
theorem b_Model_find_B34 {p : Program} {l : Launch} {e : Env} {s : State} {m : MethodId} {args : Array Value} {below : List Frame} {meth : Method} {c : Code} {D : va_G} {cI cJ : ClassId} {ad : Nat → Nat} {sz : Nat} {r : Int32} {σ' : gSt} (C : gC p s m args meth c D cI cJ ad (gA ad sz) cX6_find 4 RX6) (hr : meth.sig.returnType = (some .int)) (hl : l.stackTraces = false) (σ : gSt) : gX (F_Model_find_B34 σ) (r, σ') (gG p l e { frames := 3, cells := 0, slots := 0, locals := 67 } s m args below meth c D cI cJ ad (gA ad sz) 4 0 0 (MQ below (va_Qi (fun r1 (_ : Unit) => r1 = r) (fun _ t => va_P D vwCl (gw cI cJ ad σ') t.heap) (gA ad sz)) args s 0 0 (gA ad sz)) σ 34 [(0, .ref (ad 28))] []) := by
  unfold F_Model_find_B34
  refine g_iconst (v := (0 : Int32)) C dX6_find_34 (by decide) ?_
  refine g_loc [0] rfl ?_
  exact b_Model_find_B35 C hr hl (0 : Int32) σ

set_option maxHeartbeats 4000000 in
set_option maxRecDepth 100000 in
theorem c_Model_find (l : Launch) (hl : l.stackTraces = false) (D : va_G) (cI cJ : ClassId) (ad : Nat → Nat) : gMi l D cI cJ ad yX6_find cX6_find 4 (some .int) { frames := 3, cells := 0, slots := 0, locals := 67 } [.ref (ad 28)] (F_Model_find) := by
  refine gStartI (L0 := [(0, .ref (ad 28))]) RX6 (by decide) rfl rfl (Nat.le_of_ble_eq_true rfl) ?_
  intro p e s m args below meth c sz σ r σ' C hr
  unfold F_Model_find
  refine g_aload_n C 0 dX6_find_0 rfl rfl ?_
  refine g_getR (o' := 29) C 28 0 gcl6 rfl (by decide) rfl qw316 dX6_find_1 ?_
  refine g_iconst (v := (0 : Int32)) C dX6_find_4 (by decide) ?_
  refine g_ialdL (o := 29) (n := 92) C 0 ⟨by decide, by unfold vp_in; decide⟩ rfl rfl dX6_find_5 ?_
  refine g_iconst (v := (1 : Int32)) C dX6_find_6 (by decide) ?_
  refine g_icmp_ne (tgt := 34) C dX6_find_7 (by decide) (fun h1 => ?_) (fun h1 => ?_)
  · refine g_aload_n C 0 dX6_find_10 rfl rfl ?_
    refine g_getR (o' := 29) C 28 0 gcl6 rfl (by decide) rfl qw316 dX6_find_11 ?_
    refine g_iconst (v := (1 : Int32)) C dX6_find_14 (by decide) ?_
    refine g_ialdL (o := 29) (n := 92) C 1 ⟨by decide, by unfold vp_in; decide⟩ rfl rfl dX6_find_15 ?_
    refine g_if_ne (tgt := 34) C dX6_find_16 (by decide) (fun h2 => ?_) (fun h2 => ?_)
    · refine g_aload_n C 0 dX6_find_19 rfl rfl ?_
      refine g_getR (o' := 29) C 28 0 gcl6 rfl (by decide) rfl qw316 dX6_find_20 ?_
      refine g_bipush (v := (9 : Int32)) C dX6_find_23 (by decide) ?_
      refine g_ialdL (o := 29) (n := 92) C 9 ⟨by decide, by unfold vp_in; decide⟩ rfl rfl dX6_find_25 ?_
      refine g_iconst (v := (-1 : Int32)) C dX6_find_26 (by decide) ?_
      refine g_icmp_eq (tgt := 34) C dX6_find_27 (by decide) (fun h3 => ?_) (fun h3 => ?_)
      · refine g_loc [0] rfl ?_
        exact b_Model_find_B34 C hr hl σ
      · refine g_iconst (v := (1 : Int32)) C dX6_find_30 (by decide) ?_
        refine g_goto (tgt := 35) C dX6_find_31 (by decide) ?_
        refine g_loc [0] rfl ?_
        exact b_Model_find_B35 C hr hl (1 : Int32) σ
    · refine g_loc [0] rfl ?_
      exact b_Model_find_B34 C hr hl σ
  · refine g_loc [0] rfl ?_
    exact b_Model_find_B34 C hr hl σ

def F_Model_exchange_B262 (p1 : Int32) (p2 : Int32) (l5 : Int32) (σ : gSt) : Option (Int32 × gSt) := if l5 = (0 : Int32) then (some ((1 : Int32), σ)) else (some ((0 : Int32), σ))

def F_Model_exchange_B163 (p1 : Int32) (p2 : Int32) (l1 : Int32) (l2 : Int32) (l5 : Int32) (s0 : Int32) (σ : gSt) : Option (Int32 × gSt) := gbi (F_Model_goes s0 σ) fun r2 σ1 => if r2 = (0 : Int32) then (some ((0 : Int32), σ1)) else (gl (gup σ1 29 41 (0 : Int32)) fun σ4 => if ((30 : Int32) + l1) < 0 ∨ 92 ≤ ((30 : Int32) + l1).toNatClampNeg then none else gl (gup σ4 29 ((30 : Int32) + l1).toNatClampNeg (1 : Int32)) fun σ5 => if ((26 : Int32) + l1) < 0 ∨ 92 ≤ ((26 : Int32) + l1).toNatClampNeg then none else gl (σ5 29 ((26 : Int32) + l1).toNatClampNeg) fun x6 => if l5 = (0 : Int32) then (gbi (F_Model_place l1 l2 σ5) fun r9 σ8 => gbi (F_Model_slot l1 r9 σ8) fun r11 σ10 => if r11 < 0 ∨ 92 ≤ r11.toNatClampNeg then none else gl (gup σ10 29 r11.toNatClampNeg x6) fun σ12 => if ((28 : Int32) + l1) < 0 ∨ 92 ≤ ((28 : Int32) + l1).toNatClampNeg then none else gl (gup σ12 29 ((28 : Int32) + l1).toNatClampNeg l2) fun σ13 => F_Model_exchange_B262 p1 p2 l5 σ13) else (gbi (F_Model_place l1 x6 σ5) fun r15 σ14 => gbi (F_Model_slot l1 r15 σ14) fun r17 σ16 => if r17 < 0 ∨ 92 ≤ r17.toNatClampNeg then none else gl (gup σ16 29 r17.toNatClampNeg l2) fun σ18 => if ((28 : Int32) + l1) < 0 ∨ 92 ≤ ((28 : Int32) + l1).toNatClampNeg then none else gl (gup σ18 29 ((28 : Int32) + l1).toNatClampNeg (-1 : Int32)) fun σ19 => F_Model_exchange_B262 p1 p2 l5 σ19))

def F_Model_exchange_B142 (p1 : Int32) (p2 : Int32) (l1 : Int32) (l2 : Int32) (l3 : Int32) (l5 : Int32) (s0 : Int32) (σ : gSt) : Option (Int32 × gSt) := if l3 = (0 : Int32) then (F_Model_exchange_B163 p1 p2 l1 l2 l5 (1 : Int32) σ) else (if s0 = (0 : Int32) then (F_Model_exchange_B163 p1 p2 l1 l2 l5 (2 : Int32) σ) else (F_Model_exchange_B163 p1 p2 l1 l2 l5 (0 : Int32) σ))

def F_Model_exchange_B141 (p1 : Int32) (p2 : Int32) (l1 : Int32) (l2 : Int32) (l3 : Int32) (l5 : Int32) (σ : gSt) : Option (Int32 × gSt) := F_Model_exchange_B142 p1 p2 l1 l2 l3 l5 (0 : Int32) σ

def F_Model_exchange_B137 (p1 : Int32) (p2 : Int32) (l1 : Int32) (l2 : Int32) (l3 : Int32) (l5 : Int32) (σ : gSt) : Option (Int32 × gSt) := F_Model_exchange_B142 p1 p2 l1 l2 l3 l5 (1 : Int32) σ

def F_Model_exchange_B97 (p1 : Int32) (p2 : Int32) (l1 : Int32) (l2 : Int32) (l3 : Int32) (l4 : Int32) (s0 : Int32) (σ : gSt) : Option (Int32 × gSt) := if l4 = (0 : Int32) then (F_Model_exchange_B141 p1 p2 l1 l2 l3 s0 σ) else (if s0 = (0 : Int32) then (gbi (F_Model_place l1 l2 σ) fun r4 σ3 => gbi (F_Model_isBehind r4 σ3) fun r6 σ5 => if r6 = (0 : Int32) then (F_Model_exchange_B141 p1 p2 l1 l2 l3 s0 σ5) else (F_Model_exchange_B137 p1 p2 l1 l2 l3 s0 σ5)) else (if ((28 : Int32) + l1) < 0 ∨ 92 ≤ ((28 : Int32) + l1).toNatClampNeg then none else if l2 = (σ 29 ((28 : Int32) + l1).toNatClampNeg) then (F_Model_exchange_B137 p1 p2 l1 l2 l3 s0 σ) else (F_Model_exchange_B141 p1 p2 l1 l2 l3 s0 σ)))

def F_Model_exchange_B96 (p1 : Int32) (p2 : Int32) (l1 : Int32) (l2 : Int32) (l3 : Int32) (l4 : Int32) (σ : gSt) : Option (Int32 × gSt) := F_Model_exchange_B97 p1 p2 l1 l2 l3 l4 (0 : Int32) σ

def F_Model_exchange_B73 (p1 : Int32) (p2 : Int32) (l1 : Int32) (l2 : Int32) (l3 : Int32) (s0 : Int32) (σ : gSt) : Option (Int32 × gSt) := if l3 = (0 : Int32) then (F_Model_exchange_B96 p1 p2 l1 l2 l3 s0 σ) else (if ((28 : Int32) + l1) < 0 ∨ 92 ≤ ((28 : Int32) + l1).toNatClampNeg then none else if (σ 29 ((28 : Int32) + l1).toNatClampNeg) = (-1 : Int32) then (F_Model_exchange_B96 p1 p2 l1 l2 l3 s0 σ) else (F_Model_exchange_B97 p1 p2 l1 l2 l3 s0 (1 : Int32) σ))

def F_Model_exchange_B72 (p1 : Int32) (p2 : Int32) (l1 : Int32) (l2 : Int32) (l3 : Int32) (σ : gSt) : Option (Int32 × gSt) := F_Model_exchange_B73 p1 p2 l1 l2 l3 (0 : Int32) σ

def F_Model_exchange_B19 (p1 : Int32) (p2 : Int32) (l1 : Int32) (l2 : Int32) (s0 : Int32) (σ : gSt) : Option (Int32 × gSt) := if s0 = (0 : Int32) then (F_Model_exchange_B72 p1 p2 l1 l2 s0 σ) else (if (σ 29 0) = (1 : Int32) then (if (σ 29 1) = (0 : Int32) then (if ((30 : Int32) + l1) < 0 ∨ 92 ≤ ((30 : Int32) + l1).toNatClampNeg then none else if (σ 29 ((30 : Int32) + l1).toNatClampNeg) = (0 : Int32) then (if ((26 : Int32) + l1) < 0 ∨ 92 ≤ ((26 : Int32) + l1).toNatClampNeg then none else if (σ 29 ((26 : Int32) + l1).toNatClampNeg) = (-1 : Int32) then (F_Model_exchange_B72 p1 p2 l1 l2 s0 σ) else (F_Model_exchange_B73 p1 p2 l1 l2 s0 (1 : Int32) σ)) else (F_Model_exchange_B72 p1 p2 l1 l2 s0 σ)) else (F_Model_exchange_B72 p1 p2 l1 l2 s0 σ)) else (F_Model_exchange_B72 p1 p2 l1 l2 s0 σ))

def F_Model_exchange_B18 (p1 : Int32) (p2 : Int32) (l1 : Int32) (l2 : Int32) (σ : gSt) : Option (Int32 × gSt) := F_Model_exchange_B19 p1 p2 l1 l2 (0 : Int32) σ

def F_Model_exchange (p1 : Int32) (p2 : Int32) (σ : gSt) : Option (Int32 × gSt) := gbi (F_Model_isTeam p1 σ) fun r2 σ1 => if r2 = (0 : Int32) then (F_Model_exchange_B18 p1 p2 p1 p2 σ1) else (gbi (F_Model_isShirt p2 σ1) fun r5 σ4 => if r5 = (0 : Int32) then (F_Model_exchange_B18 p1 p2 p1 p2 σ4) else (F_Model_exchange_B19 p1 p2 p1 p2 (1 : Int32) σ4))

set_option maxHeartbeats 4000000 in
set_option maxRecDepth 100000 in
theorem b_Model_exchange_B262 {p : Program} {l : Launch} {e : Env} {s : State} {m : MethodId} {args : Array Value} {below : List Frame} {meth : Method} {c : Code} {D : va_G} {cI cJ : ClassId} {ad : Nat → Nat} {sz : Nat} {r : Int32} {σ' : gSt} (C : gC p s m args meth c D cI cJ ad (gA ad sz) cX6_exchange 8 RX6) (hr : meth.sig.returnType = (some .boolean)) (hl : l.stackTraces = false) (p1 : Int32) (p2 : Int32) (l5 : Int32) (σ : gSt) : gX (F_Model_exchange_B262 p1 p2 l5 σ) (r, σ') (gG p l e { frames := 2, cells := 0, slots := 0, locals := 45 } s m args below meth c D cI cJ ad (gA ad sz) 8 0 0 (MQ below (va_Qi (fun r1 (_ : Unit) => r1 = r) (fun _ t => va_P D vwCl (gw cI cJ ad σ') t.heap) (gA ad sz)) args s 0 0 (gA ad sz)) σ 262 [(5, .int l5)] []) := by
  unfold F_Model_exchange_B262
  refine g_iload C 0 dX6_exchange_262 rfl ?_
  refine g_if_ne (tgt := 271) C dX6_exchange_264 (by decide) (fun h1 => ?_) (fun h1 => ?_)
  · refine g_iconst (v := (1 : Int32)) C dX6_exchange_267 (by decide) ?_
    refine g_goto (tgt := 272) C dX6_exchange_268 (by decide) ?_
    exact g_iretz C (by decide) hr dX6_exchange_272
  · refine g_iconst (v := (0 : Int32)) C dX6_exchange_271 (by decide) ?_
    exact g_iretz C (by decide) hr dX6_exchange_272

set_option maxHeartbeats 4000000 in
set_option maxRecDepth 100000 in
theorem b_Model_exchange_B163 {p : Program} {l : Launch} {e : Env} {s : State} {m : MethodId} {args : Array Value} {below : List Frame} {meth : Method} {c : Code} {D : va_G} {cI cJ : ClassId} {ad : Nat → Nat} {sz : Nat} {r : Int32} {σ' : gSt} (C : gC p s m args meth c D cI cJ ad (gA ad sz) cX6_exchange 8 RX6) (hr : meth.sig.returnType = (some .boolean)) (hl : l.stackTraces = false) (p1 : Int32) (p2 : Int32) (l1 : Int32) (l2 : Int32) (l5 : Int32) (s0 : Int32) (σ : gSt) : gX (F_Model_exchange_B163 p1 p2 l1 l2 l5 s0 σ) (r, σ') (gG p l e { frames := 2, cells := 0, slots := 0, locals := 45 } s m args below meth c D cI cJ ad (gA ad sz) 8 0 0 (MQ below (va_Qi (fun r1 (_ : Unit) => r1 = r) (fun _ t => va_P D vwCl (gw cI cJ ad σ') t.heap) (gA ad sz)) args s 0 0 (gA ad sz)) σ 163 [(0, .ref (ad 28)), (1, .int l1), (2, .int l2), (5, .int l5)] [.int s0, .ref (ad 28)]) := by
  unfold F_Model_exchange_B163
  refine g_callvi (As := [.int s0]) (n := 1) C (c_Model_goes l hl D cI cJ ad s0) ⟨rfl, rfl⟩ gcl6 rfl qc81 (hR := ⟨Nat.le_of_ble_eq_true rfl, Nat.le_of_ble_eq_true rfl⟩) rfl rfl (Nat.le_of_ble_eq_true rfl) dX6_exchange_163 ⟨Nat.zero_le _, Nat.zero_le _⟩ (fun r2 σ1 => ?_)
  refine g_if_ne (tgt := 171) C dX6_exchange_166 (by decide) (fun h3 => ?_) (fun h3 => ?_)
  · refine g_iconst (v := (0 : Int32)) C dX6_exchange_169 (by decide) ?_
    exact g_iretz C (by decide) hr dX6_exchange_170
  · refine g_aload_n C 0 dX6_exchange_171 rfl rfl ?_
    refine g_getR (o' := 29) C 28 0 gcl6 rfl (by decide) rfl qw316 dX6_exchange_172 ?_
    refine g_bipush (v := (41 : Int32)) C dX6_exchange_175 (by decide) ?_
    refine g_iconst (v := (0 : Int32)) C dX6_exchange_177 (by decide) ?_
    refine g_iastL (o := 29) (n := 92) C 41 ⟨by decide, by unfold vp_in; decide⟩ rfl rfl dX6_exchange_178 (fun σ4 => ?_)
    refine g_aload_n C 0 dX6_exchange_179 rfl rfl ?_
    refine g_getR (o' := 29) C 28 0 gcl6 rfl (by decide) rfl qw316 dX6_exchange_180 ?_
    refine g_bipush (v := (30 : Int32)) C dX6_exchange_183 (by decide) ?_
    refine g_iload_n C 1 dX6_exchange_185 rfl rfl ?_
    refine g_iadd C dX6_exchange_186 ?_
    refine g_iconst (v := (1 : Int32)) C dX6_exchange_187 (by decide) ?_
    refine g_iast (o := 29) (n := 92) C rfl rfl dX6_exchange_188 (fun σ5 => ?_)
    refine g_aload_n C 0 dX6_exchange_189 rfl rfl ?_
    refine g_getR (o' := 29) C 28 0 gcl6 rfl (by decide) rfl qw316 dX6_exchange_190 ?_
    refine g_bipush (v := (26 : Int32)) C dX6_exchange_193 (by decide) ?_
    refine g_iload_n C 1 dX6_exchange_195 rfl rfl ?_
    refine g_iadd C dX6_exchange_196 ?_
    refine g_iald (o := 29) (n := 92) C rfl rfl dX6_exchange_197 ?_
    refine g_name ?_; intro x6
    refine g_istore (L' := [(7, .int x6), (0, .ref (ad 28)), (1, .int l1), (2, .int l2), (5, .int l5)]) C dX6_exchange_198 (by decide) rfl ?_
    refine g_iload C 4 dX6_exchange_200 rfl ?_
    refine g_if_eq (tgt := 235) C dX6_exchange_202 (by decide) (fun h7 => ?_) (fun h7 => ?_)
    · refine g_aload_n C 1 dX6_exchange_235 rfl rfl ?_
      refine g_getR (o' := 29) C 28 0 gcl6 rfl (by decide) rfl qw316 dX6_exchange_236 ?_
      refine g_iload_n C 2 dX6_exchange_239 rfl rfl ?_
      refine g_aload_n C 1 dX6_exchange_240 rfl rfl ?_
      refine g_iload_n C 2 dX6_exchange_241 rfl rfl ?_
      refine g_iload_n C 3 dX6_exchange_242 rfl rfl ?_
      refine g_callvi (As := [.int l1, .int l2]) (n := 2) C (c_Model_place l hl D cI cJ ad l1 l2) ⟨rfl, rfl⟩ gcl6 rfl qc84 (hR := ⟨Nat.le_of_ble_eq_true rfl, Nat.le_of_ble_eq_true rfl⟩) rfl rfl (Nat.le_of_ble_eq_true rfl) dX6_exchange_243 ⟨Nat.zero_le _, Nat.zero_le _⟩ (fun r9 σ8 => ?_)
      refine g_callsi (As := [.int l1, .int r9]) (n := 2) C (c_Model_slot l hl D cI cJ ad l1 r9) ⟨rfl, rfl⟩ qc79 (hR := ⟨Nat.le_of_ble_eq_true rfl, Nat.le_of_ble_eq_true rfl⟩) rfl rfl (Nat.le_of_ble_eq_true rfl) dX6_exchange_246 ⟨Nat.zero_le _, Nat.zero_le _⟩ (fun r11 σ10 => ?_)
      refine g_iload C 0 dX6_exchange_249 rfl ?_
      refine g_iast (o := 29) (n := 92) C rfl rfl dX6_exchange_251 (fun σ12 => ?_)
      refine g_aload_n C 1 dX6_exchange_252 rfl rfl ?_
      refine g_getR (o' := 29) C 28 0 gcl6 rfl (by decide) rfl qw316 dX6_exchange_253 ?_
      refine g_bipush (v := (28 : Int32)) C dX6_exchange_256 (by decide) ?_
      refine g_iload_n C 2 dX6_exchange_258 rfl rfl ?_
      refine g_iadd C dX6_exchange_259 ?_
      refine g_iload_n C 3 dX6_exchange_260 rfl rfl ?_
      refine g_iast (o := 29) (n := 92) C rfl rfl dX6_exchange_261 (fun σ13 => ?_)
      refine g_loc [4] rfl ?_
      exact b_Model_exchange_B262 C hr hl p1 p2 l5 σ13
    · refine g_aload_n C 1 dX6_exchange_205 rfl rfl ?_
      refine g_getR (o' := 29) C 28 0 gcl6 rfl (by decide) rfl qw316 dX6_exchange_206 ?_
      refine g_iload_n C 2 dX6_exchange_209 rfl rfl ?_
      refine g_aload_n C 1 dX6_exchange_210 rfl rfl ?_
      refine g_iload_n C 2 dX6_exchange_211 rfl rfl ?_
      refine g_iload C 0 dX6_exchange_212 rfl ?_
      refine g_callvi (As := [.int l1, .int x6]) (n := 2) C (c_Model_place l hl D cI cJ ad l1 x6) ⟨rfl, rfl⟩ gcl6 rfl qc84 (hR := ⟨Nat.le_of_ble_eq_true rfl, Nat.le_of_ble_eq_true rfl⟩) rfl rfl (Nat.le_of_ble_eq_true rfl) dX6_exchange_214 ⟨Nat.zero_le _, Nat.zero_le _⟩ (fun r15 σ14 => ?_)
      refine g_callsi (As := [.int l1, .int r15]) (n := 2) C (c_Model_slot l hl D cI cJ ad l1 r15) ⟨rfl, rfl⟩ qc79 (hR := ⟨Nat.le_of_ble_eq_true rfl, Nat.le_of_ble_eq_true rfl⟩) rfl rfl (Nat.le_of_ble_eq_true rfl) dX6_exchange_217 ⟨Nat.zero_le _, Nat.zero_le _⟩ (fun r17 σ16 => ?_)
      refine g_iload_n C 3 dX6_exchange_220 rfl rfl ?_
      refine g_iast (o := 29) (n := 92) C rfl rfl dX6_exchange_221 (fun σ18 => ?_)
      refine g_aload_n C 1 dX6_exchange_222 rfl rfl ?_
      refine g_getR (o' := 29) C 28 0 gcl6 rfl (by decide) rfl qw316 dX6_exchange_223 ?_
      refine g_bipush (v := (28 : Int32)) C dX6_exchange_226 (by decide) ?_
      refine g_iload_n C 2 dX6_exchange_228 rfl rfl ?_
      refine g_iadd C dX6_exchange_229 ?_
      refine g_iconst (v := (-1 : Int32)) C dX6_exchange_230 (by decide) ?_
      refine g_iast (o := 29) (n := 92) C rfl rfl dX6_exchange_231 (fun σ19 => ?_)
      refine g_goto (tgt := 262) C dX6_exchange_232 (by decide) ?_
      refine g_loc [4] rfl ?_
      exact b_Model_exchange_B262 C hr hl p1 p2 l5 σ19

set_option maxHeartbeats 4000000 in
set_option maxRecDepth 100000 in
theorem b_Model_exchange_B142 {p : Program} {l : Launch} {e : Env} {s : State} {m : MethodId} {args : Array Value} {below : List Frame} {meth : Method} {c : Code} {D : va_G} {cI cJ : ClassId} {ad : Nat → Nat} {sz : Nat} {r : Int32} {σ' : gSt} (C : gC p s m args meth c D cI cJ ad (gA ad sz) cX6_exchange 8 RX6) (hr : meth.sig.returnType = (some .boolean)) (hl : l.stackTraces = false) (p1 : Int32) (p2 : Int32) (l1 : Int32) (l2 : Int32) (l3 : Int32) (l5 : Int32) (s0 : Int32) (σ : gSt) : gX (F_Model_exchange_B142 p1 p2 l1 l2 l3 l5 s0 σ) (r, σ') (gG p l e { frames := 2, cells := 0, slots := 0, locals := 45 } s m args below meth c D cI cJ ad (gA ad sz) 8 0 0 (MQ below (va_Qi (fun r1 (_ : Unit) => r1 = r) (fun _ t => va_P D vwCl (gw cI cJ ad σ') t.heap) (gA ad sz)) args s 0 0 (gA ad sz)) σ 142 [(0, .ref (ad 28)), (1, .int l1), (2, .int l2), (3, .int l3), (5, .int l5)] [.int s0]) := by
  unfold F_Model_exchange_B142
  refine g_istore (L' := [(6, .int s0), (0, .ref (ad 28)), (1, .int l1), (2, .int l2), (3, .int l3), (5, .int l5)]) C dX6_exchange_142 (by decide) rfl ?_
  refine g_aload_n C 1 dX6_exchange_144 rfl rfl ?_
  refine g_iload_n C 4 dX6_exchange_145 rfl rfl ?_
  refine g_if_ne (tgt := 153) C dX6_exchange_146 (by decide) (fun h1 => ?_) (fun h1 => ?_)
  · refine g_iconst (v := (1 : Int32)) C dX6_exchange_149 (by decide) ?_
    refine g_goto (tgt := 163) C dX6_exchange_150 (by decide) ?_
    refine g_loc [1, 2, 3, 5] rfl ?_
    exact b_Model_exchange_B163 C hr hl p1 p2 l1 l2 l5 (1 : Int32) σ
  · refine g_iload C 0 dX6_exchange_153 rfl ?_
    refine g_if_eq (tgt := 162) C dX6_exchange_155 (by decide) (fun h2 => ?_) (fun h2 => ?_)
    · refine g_iconst (v := (2 : Int32)) C dX6_exchange_162 (by decide) ?_
      refine g_loc [1, 2, 3, 5] rfl ?_
      exact b_Model_exchange_B163 C hr hl p1 p2 l1 l2 l5 (2 : Int32) σ
    · refine g_iconst (v := (0 : Int32)) C dX6_exchange_158 (by decide) ?_
      refine g_goto (tgt := 163) C dX6_exchange_159 (by decide) ?_
      refine g_loc [1, 2, 3, 5] rfl ?_
      exact b_Model_exchange_B163 C hr hl p1 p2 l1 l2 l5 (0 : Int32) σ

set_option maxHeartbeats 4000000 in
set_option maxRecDepth 100000 in
theorem b_Model_exchange_B141 {p : Program} {l : Launch} {e : Env} {s : State} {m : MethodId} {args : Array Value} {below : List Frame} {meth : Method} {c : Code} {D : va_G} {cI cJ : ClassId} {ad : Nat → Nat} {sz : Nat} {r : Int32} {σ' : gSt} (C : gC p s m args meth c D cI cJ ad (gA ad sz) cX6_exchange 8 RX6) (hr : meth.sig.returnType = (some .boolean)) (hl : l.stackTraces = false) (p1 : Int32) (p2 : Int32) (l1 : Int32) (l2 : Int32) (l3 : Int32) (l5 : Int32) (σ : gSt) : gX (F_Model_exchange_B141 p1 p2 l1 l2 l3 l5 σ) (r, σ') (gG p l e { frames := 2, cells := 0, slots := 0, locals := 45 } s m args below meth c D cI cJ ad (gA ad sz) 8 0 0 (MQ below (va_Qi (fun r1 (_ : Unit) => r1 = r) (fun _ t => va_P D vwCl (gw cI cJ ad σ') t.heap) (gA ad sz)) args s 0 0 (gA ad sz)) σ 141 [(0, .ref (ad 28)), (1, .int l1), (2, .int l2), (3, .int l3), (5, .int l5)] []) := by
  unfold F_Model_exchange_B141
  refine g_iconst (v := (0 : Int32)) C dX6_exchange_141 (by decide) ?_
  refine g_loc [0, 1, 2, 3, 4] rfl ?_
  exact b_Model_exchange_B142 C hr hl p1 p2 l1 l2 l3 l5 (0 : Int32) σ

set_option maxHeartbeats 4000000 in
set_option maxRecDepth 100000 in
theorem b_Model_exchange_B137 {p : Program} {l : Launch} {e : Env} {s : State} {m : MethodId} {args : Array Value} {below : List Frame} {meth : Method} {c : Code} {D : va_G} {cI cJ : ClassId} {ad : Nat → Nat} {sz : Nat} {r : Int32} {σ' : gSt} (C : gC p s m args meth c D cI cJ ad (gA ad sz) cX6_exchange 8 RX6) (hr : meth.sig.returnType = (some .boolean)) (hl : l.stackTraces = false) (p1 : Int32) (p2 : Int32) (l1 : Int32) (l2 : Int32) (l3 : Int32) (l5 : Int32) (σ : gSt) : gX (F_Model_exchange_B137 p1 p2 l1 l2 l3 l5 σ) (r, σ') (gG p l e { frames := 2, cells := 0, slots := 0, locals := 45 } s m args below meth c D cI cJ ad (gA ad sz) 8 0 0 (MQ below (va_Qi (fun r1 (_ : Unit) => r1 = r) (fun _ t => va_P D vwCl (gw cI cJ ad σ') t.heap) (gA ad sz)) args s 0 0 (gA ad sz)) σ 137 [(0, .ref (ad 28)), (1, .int l1), (2, .int l2), (3, .int l3), (5, .int l5)] []) := by
  unfold F_Model_exchange_B137
  refine g_iconst (v := (1 : Int32)) C dX6_exchange_137 (by decide) ?_
  refine g_goto (tgt := 142) C dX6_exchange_138 (by decide) ?_
  refine g_loc [0, 1, 2, 3, 4] rfl ?_
  exact b_Model_exchange_B142 C hr hl p1 p2 l1 l2 l3 l5 (1 : Int32) σ

set_option maxHeartbeats 4000000 in
set_option maxRecDepth 100000 in
theorem b_Model_exchange_B97 {p : Program} {l : Launch} {e : Env} {s : State} {m : MethodId} {args : Array Value} {below : List Frame} {meth : Method} {c : Code} {D : va_G} {cI cJ : ClassId} {ad : Nat → Nat} {sz : Nat} {r : Int32} {σ' : gSt} (C : gC p s m args meth c D cI cJ ad (gA ad sz) cX6_exchange 8 RX6) (hr : meth.sig.returnType = (some .boolean)) (hl : l.stackTraces = false) (p1 : Int32) (p2 : Int32) (l1 : Int32) (l2 : Int32) (l3 : Int32) (l4 : Int32) (s0 : Int32) (σ : gSt) : gX (F_Model_exchange_B97 p1 p2 l1 l2 l3 l4 s0 σ) (r, σ') (gG p l e { frames := 2, cells := 0, slots := 0, locals := 45 } s m args below meth c D cI cJ ad (gA ad sz) 8 0 0 (MQ below (va_Qi (fun r1 (_ : Unit) => r1 = r) (fun _ t => va_P D vwCl (gw cI cJ ad σ') t.heap) (gA ad sz)) args s 0 0 (gA ad sz)) σ 97 [(0, .ref (ad 28)), (1, .int l1), (2, .int l2), (3, .int l3), (4, .int l4)] [.int s0]) := by
  unfold F_Model_exchange_B97
  refine g_istore (L' := [(5, .int s0), (0, .ref (ad 28)), (1, .int l1), (2, .int l2), (3, .int l3), (4, .int l4)]) C dX6_exchange_97 (by decide) rfl ?_
  refine g_iload C 5 dX6_exchange_99 rfl ?_
  refine g_if_eq (tgt := 141) C dX6_exchange_101 (by decide) (fun h1 => ?_) (fun h1 => ?_)
  · refine g_loc [1, 2, 3, 4, 0] rfl ?_
    exact b_Model_exchange_B141 C hr hl p1 p2 l1 l2 l3 s0 σ
  · refine g_iload C 0 dX6_exchange_104 rfl ?_
    refine g_if_eq (tgt := 125) C dX6_exchange_106 (by decide) (fun h2 => ?_) (fun h2 => ?_)
    · refine g_aload_n C 1 dX6_exchange_125 rfl rfl ?_
      refine g_iload_n C 2 dX6_exchange_126 rfl rfl ?_
      refine g_iload_n C 3 dX6_exchange_127 rfl rfl ?_
      refine g_callvi (As := [.int l1, .int l2]) (n := 2) C (c_Model_place l hl D cI cJ ad l1 l2) ⟨rfl, rfl⟩ gcl6 rfl qc84 (hR := ⟨Nat.le_of_ble_eq_true rfl, Nat.le_of_ble_eq_true rfl⟩) rfl rfl (Nat.le_of_ble_eq_true rfl) dX6_exchange_128 ⟨Nat.zero_le _, Nat.zero_le _⟩ (fun r4 σ3 => ?_)
      refine g_callsi (As := [.int r4]) (n := 1) C (c_Model_isBehind l hl D cI cJ ad r4) ⟨rfl, rfl⟩ qc89 (hR := ⟨Nat.le_of_ble_eq_true rfl, Nat.le_of_ble_eq_true rfl⟩) rfl rfl (Nat.le_of_ble_eq_true rfl) dX6_exchange_131 ⟨Nat.zero_le _, Nat.zero_le _⟩ (fun r6 σ5 => ?_)
      refine g_if_eq (tgt := 141) C dX6_exchange_134 (by decide) (fun h7 => ?_) (fun h7 => ?_)
      · refine g_loc [1, 2, 3, 4, 0] rfl ?_
        exact b_Model_exchange_B141 C hr hl p1 p2 l1 l2 l3 s0 σ5
      · refine g_loc [1, 2, 3, 4, 0] rfl ?_
        exact b_Model_exchange_B137 C hr hl p1 p2 l1 l2 l3 s0 σ5
    · refine g_iload_n C 3 dX6_exchange_109 rfl rfl ?_
      refine g_aload_n C 1 dX6_exchange_110 rfl rfl ?_
      refine g_getR (o' := 29) C 28 0 gcl6 rfl (by decide) rfl qw316 dX6_exchange_111 ?_
      refine g_bipush (v := (28 : Int32)) C dX6_exchange_114 (by decide) ?_
      refine g_iload_n C 2 dX6_exchange_116 rfl rfl ?_
      refine g_iadd C dX6_exchange_117 ?_
      refine g_iald (o := 29) (n := 92) C rfl rfl dX6_exchange_118 ?_
      refine g_icmp_ne (tgt := 141) C dX6_exchange_119 (by decide) (fun h8 => ?_) (fun h8 => ?_)
      · refine g_goto (tgt := 137) C dX6_exchange_122 (by decide) ?_
        refine g_loc [1, 2, 3, 4, 0] rfl ?_
        exact b_Model_exchange_B137 C hr hl p1 p2 l1 l2 l3 s0 σ
      · refine g_loc [1, 2, 3, 4, 0] rfl ?_
        exact b_Model_exchange_B141 C hr hl p1 p2 l1 l2 l3 s0 σ

set_option maxHeartbeats 4000000 in
set_option maxRecDepth 100000 in
theorem b_Model_exchange_B96 {p : Program} {l : Launch} {e : Env} {s : State} {m : MethodId} {args : Array Value} {below : List Frame} {meth : Method} {c : Code} {D : va_G} {cI cJ : ClassId} {ad : Nat → Nat} {sz : Nat} {r : Int32} {σ' : gSt} (C : gC p s m args meth c D cI cJ ad (gA ad sz) cX6_exchange 8 RX6) (hr : meth.sig.returnType = (some .boolean)) (hl : l.stackTraces = false) (p1 : Int32) (p2 : Int32) (l1 : Int32) (l2 : Int32) (l3 : Int32) (l4 : Int32) (σ : gSt) : gX (F_Model_exchange_B96 p1 p2 l1 l2 l3 l4 σ) (r, σ') (gG p l e { frames := 2, cells := 0, slots := 0, locals := 45 } s m args below meth c D cI cJ ad (gA ad sz) 8 0 0 (MQ below (va_Qi (fun r1 (_ : Unit) => r1 = r) (fun _ t => va_P D vwCl (gw cI cJ ad σ') t.heap) (gA ad sz)) args s 0 0 (gA ad sz)) σ 96 [(0, .ref (ad 28)), (1, .int l1), (2, .int l2), (3, .int l3), (4, .int l4)] []) := by
  unfold F_Model_exchange_B96
  refine g_iconst (v := (0 : Int32)) C dX6_exchange_96 (by decide) ?_
  refine g_loc [0, 1, 2, 3, 4] rfl ?_
  exact b_Model_exchange_B97 C hr hl p1 p2 l1 l2 l3 l4 (0 : Int32) σ

set_option maxHeartbeats 4000000 in
set_option maxRecDepth 100000 in
theorem b_Model_exchange_B73 {p : Program} {l : Launch} {e : Env} {s : State} {m : MethodId} {args : Array Value} {below : List Frame} {meth : Method} {c : Code} {D : va_G} {cI cJ : ClassId} {ad : Nat → Nat} {sz : Nat} {r : Int32} {σ' : gSt} (C : gC p s m args meth c D cI cJ ad (gA ad sz) cX6_exchange 8 RX6) (hr : meth.sig.returnType = (some .boolean)) (hl : l.stackTraces = false) (p1 : Int32) (p2 : Int32) (l1 : Int32) (l2 : Int32) (l3 : Int32) (s0 : Int32) (σ : gSt) : gX (F_Model_exchange_B73 p1 p2 l1 l2 l3 s0 σ) (r, σ') (gG p l e { frames := 2, cells := 0, slots := 0, locals := 45 } s m args below meth c D cI cJ ad (gA ad sz) 8 0 0 (MQ below (va_Qi (fun r1 (_ : Unit) => r1 = r) (fun _ t => va_P D vwCl (gw cI cJ ad σ') t.heap) (gA ad sz)) args s 0 0 (gA ad sz)) σ 73 [(0, .ref (ad 28)), (1, .int l1), (2, .int l2), (3, .int l3)] [.int s0]) := by
  unfold F_Model_exchange_B73
  refine g_istore (L' := [(4, .int s0), (0, .ref (ad 28)), (1, .int l1), (2, .int l2), (3, .int l3)]) C dX6_exchange_73 (by decide) rfl ?_
  refine g_iload_n C 4 dX6_exchange_75 rfl rfl ?_
  refine g_if_eq (tgt := 96) C dX6_exchange_76 (by decide) (fun h1 => ?_) (fun h1 => ?_)
  · refine g_loc [1, 2, 3, 4, 0] rfl ?_
    exact b_Model_exchange_B96 C hr hl p1 p2 l1 l2 l3 s0 σ
  · refine g_aload_n C 1 dX6_exchange_79 rfl rfl ?_
    refine g_getR (o' := 29) C 28 0 gcl6 rfl (by decide) rfl qw316 dX6_exchange_80 ?_
    refine g_bipush (v := (28 : Int32)) C dX6_exchange_83 (by decide) ?_
    refine g_iload_n C 2 dX6_exchange_85 rfl rfl ?_
    refine g_iadd C dX6_exchange_86 ?_
    refine g_iald (o := 29) (n := 92) C rfl rfl dX6_exchange_87 ?_
    refine g_iconst (v := (-1 : Int32)) C dX6_exchange_88 (by decide) ?_
    refine g_icmp_eq (tgt := 96) C dX6_exchange_89 (by decide) (fun h2 => ?_) (fun h2 => ?_)
    · refine g_loc [1, 2, 3, 4, 0] rfl ?_
      exact b_Model_exchange_B96 C hr hl p1 p2 l1 l2 l3 s0 σ
    · refine g_iconst (v := (1 : Int32)) C dX6_exchange_92 (by decide) ?_
      refine g_goto (tgt := 97) C dX6_exchange_93 (by decide) ?_
      refine g_loc [1, 2, 3, 4, 0] rfl ?_
      exact b_Model_exchange_B97 C hr hl p1 p2 l1 l2 l3 s0 (1 : Int32) σ

set_option maxHeartbeats 4000000 in
set_option maxRecDepth 100000 in
theorem b_Model_exchange_B72 {p : Program} {l : Launch} {e : Env} {s : State} {m : MethodId} {args : Array Value} {below : List Frame} {meth : Method} {c : Code} {D : va_G} {cI cJ : ClassId} {ad : Nat → Nat} {sz : Nat} {r : Int32} {σ' : gSt} (C : gC p s m args meth c D cI cJ ad (gA ad sz) cX6_exchange 8 RX6) (hr : meth.sig.returnType = (some .boolean)) (hl : l.stackTraces = false) (p1 : Int32) (p2 : Int32) (l1 : Int32) (l2 : Int32) (l3 : Int32) (σ : gSt) : gX (F_Model_exchange_B72 p1 p2 l1 l2 l3 σ) (r, σ') (gG p l e { frames := 2, cells := 0, slots := 0, locals := 45 } s m args below meth c D cI cJ ad (gA ad sz) 8 0 0 (MQ below (va_Qi (fun r1 (_ : Unit) => r1 = r) (fun _ t => va_P D vwCl (gw cI cJ ad σ') t.heap) (gA ad sz)) args s 0 0 (gA ad sz)) σ 72 [(0, .ref (ad 28)), (1, .int l1), (2, .int l2), (3, .int l3)] []) := by
  unfold F_Model_exchange_B72
  refine g_iconst (v := (0 : Int32)) C dX6_exchange_72 (by decide) ?_
  refine g_loc [0, 1, 2, 3] rfl ?_
  exact b_Model_exchange_B73 C hr hl p1 p2 l1 l2 l3 (0 : Int32) σ

set_option maxHeartbeats 4000000 in
set_option maxRecDepth 100000 in
theorem b_Model_exchange_B19 {p : Program} {l : Launch} {e : Env} {s : State} {m : MethodId} {args : Array Value} {below : List Frame} {meth : Method} {c : Code} {D : va_G} {cI cJ : ClassId} {ad : Nat → Nat} {sz : Nat} {r : Int32} {σ' : gSt} (C : gC p s m args meth c D cI cJ ad (gA ad sz) cX6_exchange 8 RX6) (hr : meth.sig.returnType = (some .boolean)) (hl : l.stackTraces = false) (p1 : Int32) (p2 : Int32) (l1 : Int32) (l2 : Int32) (s0 : Int32) (σ : gSt) : gX (F_Model_exchange_B19 p1 p2 l1 l2 s0 σ) (r, σ') (gG p l e { frames := 2, cells := 0, slots := 0, locals := 45 } s m args below meth c D cI cJ ad (gA ad sz) 8 0 0 (MQ below (va_Qi (fun r1 (_ : Unit) => r1 = r) (fun _ t => va_P D vwCl (gw cI cJ ad σ') t.heap) (gA ad sz)) args s 0 0 (gA ad sz)) σ 19 [(0, .ref (ad 28)), (1, .int l1), (2, .int l2)] [.int s0]) := by
  unfold F_Model_exchange_B19
  refine g_istore_n (L' := [(3, .int s0), (0, .ref (ad 28)), (1, .int l1), (2, .int l2)]) C dX6_exchange_19 rfl (by decide) rfl ?_
  refine g_iload_n C 0 dX6_exchange_20 rfl rfl ?_
  refine g_if_eq (tgt := 72) C dX6_exchange_21 (by decide) (fun h1 => ?_) (fun h1 => ?_)
  · refine g_loc [1, 2, 3, 0] rfl ?_
    exact b_Model_exchange_B72 C hr hl p1 p2 l1 l2 s0 σ
  · refine g_aload_n C 1 dX6_exchange_24 rfl rfl ?_
    refine g_getR (o' := 29) C 28 0 gcl6 rfl (by decide) rfl qw316 dX6_exchange_25 ?_
    refine g_iconst (v := (0 : Int32)) C dX6_exchange_28 (by decide) ?_
    refine g_ialdL (o := 29) (n := 92) C 0 ⟨by decide, by unfold vp_in; decide⟩ rfl rfl dX6_exchange_29 ?_
    refine g_iconst (v := (1 : Int32)) C dX6_exchange_30 (by decide) ?_
    refine g_icmp_ne (tgt := 72) C dX6_exchange_31 (by decide) (fun h2 => ?_) (fun h2 => ?_)
    · refine g_aload_n C 1 dX6_exchange_34 rfl rfl ?_
      refine g_getR (o' := 29) C 28 0 gcl6 rfl (by decide) rfl qw316 dX6_exchange_35 ?_
      refine g_iconst (v := (1 : Int32)) C dX6_exchange_38 (by decide) ?_
      refine g_ialdL (o := 29) (n := 92) C 1 ⟨by decide, by unfold vp_in; decide⟩ rfl rfl dX6_exchange_39 ?_
      refine g_if_ne (tgt := 72) C dX6_exchange_40 (by decide) (fun h3 => ?_) (fun h3 => ?_)
      · refine g_aload_n C 1 dX6_exchange_43 rfl rfl ?_
        refine g_getR (o' := 29) C 28 0 gcl6 rfl (by decide) rfl qw316 dX6_exchange_44 ?_
        refine g_bipush (v := (30 : Int32)) C dX6_exchange_47 (by decide) ?_
        refine g_iload_n C 2 dX6_exchange_49 rfl rfl ?_
        refine g_iadd C dX6_exchange_50 ?_
        refine g_iald (o := 29) (n := 92) C rfl rfl dX6_exchange_51 ?_
        refine g_if_ne (tgt := 72) C dX6_exchange_52 (by decide) (fun h4 => ?_) (fun h4 => ?_)
        · refine g_aload_n C 1 dX6_exchange_55 rfl rfl ?_
          refine g_getR (o' := 29) C 28 0 gcl6 rfl (by decide) rfl qw316 dX6_exchange_56 ?_
          refine g_bipush (v := (26 : Int32)) C dX6_exchange_59 (by decide) ?_
          refine g_iload_n C 2 dX6_exchange_61 rfl rfl ?_
          refine g_iadd C dX6_exchange_62 ?_
          refine g_iald (o := 29) (n := 92) C rfl rfl dX6_exchange_63 ?_
          refine g_iconst (v := (-1 : Int32)) C dX6_exchange_64 (by decide) ?_
          refine g_icmp_eq (tgt := 72) C dX6_exchange_65 (by decide) (fun h5 => ?_) (fun h5 => ?_)
          · refine g_loc [1, 2, 3, 0] rfl ?_
            exact b_Model_exchange_B72 C hr hl p1 p2 l1 l2 s0 σ
          · refine g_iconst (v := (1 : Int32)) C dX6_exchange_68 (by decide) ?_
            refine g_goto (tgt := 73) C dX6_exchange_69 (by decide) ?_
            refine g_loc [1, 2, 3, 0] rfl ?_
            exact b_Model_exchange_B73 C hr hl p1 p2 l1 l2 s0 (1 : Int32) σ
        · refine g_loc [1, 2, 3, 0] rfl ?_
          exact b_Model_exchange_B72 C hr hl p1 p2 l1 l2 s0 σ
      · refine g_loc [1, 2, 3, 0] rfl ?_
        exact b_Model_exchange_B72 C hr hl p1 p2 l1 l2 s0 σ
    · refine g_loc [1, 2, 3, 0] rfl ?_
      exact b_Model_exchange_B72 C hr hl p1 p2 l1 l2 s0 σ

set_option maxHeartbeats 4000000 in
set_option maxRecDepth 100000 in
theorem b_Model_exchange_B18 {p : Program} {l : Launch} {e : Env} {s : State} {m : MethodId} {args : Array Value} {below : List Frame} {meth : Method} {c : Code} {D : va_G} {cI cJ : ClassId} {ad : Nat → Nat} {sz : Nat} {r : Int32} {σ' : gSt} (C : gC p s m args meth c D cI cJ ad (gA ad sz) cX6_exchange 8 RX6) (hr : meth.sig.returnType = (some .boolean)) (hl : l.stackTraces = false) (p1 : Int32) (p2 : Int32) (l1 : Int32) (l2 : Int32) (σ : gSt) : gX (F_Model_exchange_B18 p1 p2 l1 l2 σ) (r, σ') (gG p l e { frames := 2, cells := 0, slots := 0, locals := 45 } s m args below meth c D cI cJ ad (gA ad sz) 8 0 0 (MQ below (va_Qi (fun r1 (_ : Unit) => r1 = r) (fun _ t => va_P D vwCl (gw cI cJ ad σ') t.heap) (gA ad sz)) args s 0 0 (gA ad sz)) σ 18 [(0, .ref (ad 28)), (1, .int l1), (2, .int l2)] []) := by
  unfold F_Model_exchange_B18
  refine g_iconst (v := (0 : Int32)) C dX6_exchange_18 (by decide) ?_
  refine g_loc [0, 1, 2] rfl ?_
  exact b_Model_exchange_B19 C hr hl p1 p2 l1 l2 (0 : Int32) σ

set_option maxHeartbeats 4000000 in
set_option maxRecDepth 100000 in
theorem c_Model_exchange (l : Launch) (hl : l.stackTraces = false) (D : va_G) (cI cJ : ClassId) (ad : Nat → Nat) (p1 : Int32) (p2 : Int32) : gMi l D cI cJ ad yX6_exchange cX6_exchange 8 (some .boolean) { frames := 2, cells := 0, slots := 0, locals := 45 } [.ref (ad 28), .int p1, .int p2] (F_Model_exchange p1 p2) := by
  refine gStartI (L0 := [(0, .ref (ad 28)), (1, .int p1), (2, .int p2)]) RX6 (by decide) rfl rfl (Nat.le_of_ble_eq_true rfl) ?_
  intro p e s m args below meth c sz σ r σ' C hr
  unfold F_Model_exchange
  refine g_iload_n C 1 dX6_exchange_0 rfl rfl ?_
  refine g_callsi (As := [.int p1]) (n := 1) C (c_Model_isTeam l hl D cI cJ ad p1) ⟨rfl, rfl⟩ qc80 (hR := ⟨Nat.le_of_ble_eq_true rfl, Nat.le_of_ble_eq_true rfl⟩) rfl rfl (Nat.le_of_ble_eq_true rfl) dX6_exchange_1 ⟨Nat.zero_le _, Nat.zero_le _⟩ (fun r2 σ1 => ?_)
  refine g_if_eq (tgt := 18) C dX6_exchange_4 (by decide) (fun h3 => ?_) (fun h3 => ?_)
  · refine g_loc [0, 1, 2] rfl ?_
    exact b_Model_exchange_B18 C hr hl p1 p2 p1 p2 σ1
  · refine g_iload_n C 2 dX6_exchange_7 rfl rfl ?_
    refine g_callsi (As := [.int p2]) (n := 1) C (c_Model_isShirt l hl D cI cJ ad p2) ⟨rfl, rfl⟩ qc83 (hR := ⟨Nat.le_of_ble_eq_true rfl, Nat.le_of_ble_eq_true rfl⟩) rfl rfl (Nat.le_of_ble_eq_true rfl) dX6_exchange_8 ⟨Nat.zero_le _, Nat.zero_le _⟩ (fun r5 σ4 => ?_)
    refine g_if_eq (tgt := 18) C dX6_exchange_11 (by decide) (fun h6 => ?_) (fun h6 => ?_)
    · refine g_loc [0, 1, 2] rfl ?_
      exact b_Model_exchange_B18 C hr hl p1 p2 p1 p2 σ4
    · refine g_iconst (v := (1 : Int32)) C dX6_exchange_14 (by decide) ?_
      refine g_goto (tgt := 19) C dX6_exchange_15 (by decide) ?_
      refine g_loc [0, 1, 2] rfl ?_
      exact b_Model_exchange_B19 C hr hl p1 p2 p1 p2 (1 : Int32) σ4

def F_Model_pair_B5 (p1 : Int32) (p2 : Int32) : Nat → Int32 → Int32 → Int32 → Int32 → gSt → Option (Int32 × gSt)
  | 0, _, _, _, _, _ => none
  | n + 1, l1, l2, l3, l4, σ => if ((78 : Int32) + l1) < 0 ∨ 92 ≤ ((78 : Int32) + l1).toNatClampNeg then none else if (σ 29 ((78 : Int32) + l1).toNatClampNeg) ≤ l4 then (some (l3, σ)) else (gl (((42 : Int32) + ((18 : Int32) * l1)) + ((3 : Int32) * l4)) fun x2 => if x2 < 0 ∨ 92 ≤ x2.toNatClampNeg then none else if (σ 29 x2.toNatClampNeg) = l2 then (F_Model_pair_B5 p1 p2 n l1 l2 x2 (l4 + (1 : Int32)) σ) else (if (x2 + (1 : Int32)) < 0 ∨ 92 ≤ (x2 + (1 : Int32)).toNatClampNeg then none else if (σ 29 (x2 + (1 : Int32)).toNatClampNeg) = l2 then (F_Model_pair_B5 p1 p2 n l1 l2 x2 (l4 + (1 : Int32)) σ) else (F_Model_pair_B5 p1 p2 n l1 l2 l3 (l4 + (1 : Int32)) σ)))

def F_Model_pair (p1 : Int32) (p2 : Int32) (σ : gSt) : Option (Int32 × gSt) := F_Model_pair_B5 p1 p2 100 p1 p2 (-1 : Int32) (0 : Int32) σ

set_option maxHeartbeats 4000000 in
set_option maxRecDepth 100000 in
theorem b_Model_pair_B5 {p : Program} {l : Launch} {e : Env} {s : State} {m : MethodId} {args : Array Value} {below : List Frame} {meth : Method} {c : Code} {D : va_G} {cI cJ : ClassId} {ad : Nat → Nat} {sz : Nat} {r : Int32} {σ' : gSt} (C : gC p s m args meth c D cI cJ ad (gA ad sz) cX6_pair 6 RX6) (hr : meth.sig.returnType = (some .int)) (hl : l.stackTraces = false) (p1 : Int32) (p2 : Int32) : ∀ (n : Nat) (l1 : Int32) (l2 : Int32) (l3 : Int32) (l4 : Int32) (σ : gSt), gX (F_Model_pair_B5 p1 p2 n l1 l2 l3 l4 σ) (r, σ') (gG p l e { frames := 0, cells := 0, slots := 0, locals := 0 } s m args below meth c D cI cJ ad (gA ad sz) 6 0 0 (MQ below (va_Qi (fun r1 (_ : Unit) => r1 = r) (fun _ t => va_P D vwCl (gw cI cJ ad σ') t.heap) (gA ad sz)) args s 0 0 (gA ad sz)) σ 5 [(0, .ref (ad 28)), (1, .int l1), (2, .int l2), (3, .int l3), (4, .int l4)] []) := by
  intro n
  induction n with
  | zero =>
    intro l1 l2 l3 l4 σ
    unfold F_Model_pair_B5
    exact gX_none
  | succ n ih =>
    intro l1 l2 l3 l4 σ
    unfold F_Model_pair_B5
    refine g_iload C 4 dX6_pair_5 rfl ?_
    refine g_aload_n C 0 dX6_pair_7 rfl rfl ?_
    refine g_getR (o' := 29) C 28 0 gcl6 rfl (by decide) rfl qw316 dX6_pair_8 ?_
    refine g_bipush (v := (78 : Int32)) C dX6_pair_11 (by decide) ?_
    refine g_iload_n C 1 dX6_pair_13 rfl rfl ?_
    refine g_iadd C dX6_pair_14 ?_
    refine g_iald (o := 29) (n := 92) C rfl rfl dX6_pair_15 ?_
    refine g_icmp_ge (tgt := 70) C dX6_pair_16 (by decide) (fun h1 => ?_) (fun h1 => ?_)
    · refine g_iload_n C 3 dX6_pair_70 rfl rfl ?_
      exact g_ireti C hr dX6_pair_71
    · refine g_bipush (v := (42 : Int32)) C dX6_pair_19 (by decide) ?_
      refine g_bipush (v := (18 : Int32)) C dX6_pair_21 (by decide) ?_
      refine g_iload_n C 1 dX6_pair_23 rfl rfl ?_
      refine g_imul C dX6_pair_24 ?_
      refine g_iadd C dX6_pair_25 ?_
      refine g_iconst (v := (3 : Int32)) C dX6_pair_26 (by decide) ?_
      refine g_iload C 4 dX6_pair_27 rfl ?_
      refine g_imul C dX6_pair_29 ?_
      refine g_iadd C dX6_pair_30 ?_
      refine g_name ?_; intro x2
      refine g_istore (L' := [(5, .int x2), (0, .ref (ad 28)), (1, .int l1), (2, .int l2), (3, .int l3), (4, .int l4)]) C dX6_pair_31 (by decide) rfl ?_
      refine g_aload_n C 1 dX6_pair_33 rfl rfl ?_
      refine g_getR (o' := 29) C 28 0 gcl6 rfl (by decide) rfl qw316 dX6_pair_34 ?_
      refine g_iload C 0 dX6_pair_37 rfl ?_
      refine g_iald (o := 29) (n := 92) C rfl rfl dX6_pair_39 ?_
      refine g_iload_n C 3 dX6_pair_40 rfl rfl ?_
      refine g_icmp_eq (tgt := 57) C dX6_pair_41 (by decide) (fun h3 => ?_) (fun h3 => ?_)
      · refine g_iload C 0 dX6_pair_57 rfl ?_
        refine g_goto (tgt := 63) C dX6_pair_59 (by decide) ?_
        refine g_istore_n (L' := [(3, .int x2), (5, .int x2), (0, .ref (ad 28)), (1, .int l1), (2, .int l2), (4, .int l4)]) C dX6_pair_63 rfl (by decide) rfl ?_
        refine g_iinc (v := (l4 + (1 : Int32))) (L' := [(4, .int (l4 + (1 : Int32))), (3, .int x2), (5, .int x2), (0, .ref (ad 28)), (1, .int l1), (2, .int l2)]) C 5 dX6_pair_64 rfl (by rfl) (by decide) rfl ?_
        refine g_goto (tgt := 5) C dX6_pair_67 (by decide) ?_
        refine g_loc [3, 4, 5, 1, 0] rfl ?_
        exact ih l1 l2 x2 (l4 + (1 : Int32)) σ
      · refine g_aload_n C 1 dX6_pair_44 rfl rfl ?_
        refine g_getR (o' := 29) C 28 0 gcl6 rfl (by decide) rfl qw316 dX6_pair_45 ?_
        refine g_iload C 0 dX6_pair_48 rfl ?_
        refine g_iconst (v := (1 : Int32)) C dX6_pair_50 (by decide) ?_
        refine g_iadd C dX6_pair_51 ?_
        refine g_iald (o := 29) (n := 92) C rfl rfl dX6_pair_52 ?_
        refine g_iload_n C 3 dX6_pair_53 rfl rfl ?_
        refine g_icmp_ne (tgt := 62) C dX6_pair_54 (by decide) (fun h4 => ?_) (fun h4 => ?_)
        · refine g_iload C 0 dX6_pair_57 rfl ?_
          refine g_goto (tgt := 63) C dX6_pair_59 (by decide) ?_
          refine g_istore_n (L' := [(3, .int x2), (5, .int x2), (0, .ref (ad 28)), (1, .int l1), (2, .int l2), (4, .int l4)]) C dX6_pair_63 rfl (by decide) rfl ?_
          refine g_iinc (v := (l4 + (1 : Int32))) (L' := [(4, .int (l4 + (1 : Int32))), (3, .int x2), (5, .int x2), (0, .ref (ad 28)), (1, .int l1), (2, .int l2)]) C 5 dX6_pair_64 rfl (by rfl) (by decide) rfl ?_
          refine g_goto (tgt := 5) C dX6_pair_67 (by decide) ?_
          refine g_loc [3, 4, 5, 1, 0] rfl ?_
          exact ih l1 l2 x2 (l4 + (1 : Int32)) σ
        · refine g_iload_n C 4 dX6_pair_62 rfl rfl ?_
          refine g_istore_n (L' := [(3, .int l3), (5, .int x2), (0, .ref (ad 28)), (1, .int l1), (2, .int l2), (4, .int l4)]) C dX6_pair_63 rfl (by decide) rfl ?_
          refine g_iinc (v := (l4 + (1 : Int32))) (L' := [(4, .int (l4 + (1 : Int32))), (3, .int l3), (5, .int x2), (0, .ref (ad 28)), (1, .int l1), (2, .int l2)]) C 5 dX6_pair_64 rfl (by rfl) (by decide) rfl ?_
          refine g_goto (tgt := 5) C dX6_pair_67 (by decide) ?_
          refine g_loc [3, 4, 5, 1, 0] rfl ?_
          exact ih l1 l2 l3 (l4 + (1 : Int32)) σ

set_option maxHeartbeats 4000000 in
set_option maxRecDepth 100000 in
theorem c_Model_pair (l : Launch) (hl : l.stackTraces = false) (D : va_G) (cI cJ : ClassId) (ad : Nat → Nat) (p1 : Int32) (p2 : Int32) : gMi l D cI cJ ad yX6_pair cX6_pair 6 (some .int) { frames := 0, cells := 0, slots := 0, locals := 0 } [.ref (ad 28), .int p1, .int p2] (F_Model_pair p1 p2) := by
  refine gStartI (L0 := [(0, .ref (ad 28)), (1, .int p1), (2, .int p2)]) RX6 (by decide) rfl rfl (Nat.le_of_ble_eq_true rfl) ?_
  intro p e s m args below meth c sz σ r σ' C hr
  unfold F_Model_pair
  refine g_iconst (v := (-1 : Int32)) C dX6_pair_0 (by decide) ?_
  refine g_istore_n (L' := [(3, .int (-1 : Int32)), (0, .ref (ad 28)), (1, .int p1), (2, .int p2)]) C dX6_pair_1 rfl (by decide) rfl ?_
  refine g_iconst (v := (0 : Int32)) C dX6_pair_2 (by decide) ?_
  refine g_istore (L' := [(4, .int (0 : Int32)), (3, .int (-1 : Int32)), (0, .ref (ad 28)), (1, .int p1), (2, .int p2)]) C dX6_pair_3 (by decide) rfl ?_
  refine g_loc [2, 3, 4, 1, 0] rfl ?_
  exact b_Model_pair_B5 C hr hl p1 p2 100 p1 p2 (-1 : Int32) (0 : Int32) σ

def F_Model_substitute_B355 (p1 : Int32) (p2 : Int32) (p3 : Int32) (l1 : Int32) (l2 : Int32) (l3 : Int32) (σ : gSt) : Option (Int32 × gSt) := gbi (F_Model_place l1 l2 σ) fun r2 σ1 => gbi (F_Model_slot l1 r2 σ1) fun r4 σ3 => if r4 < 0 ∨ 92 ≤ r4.toNatClampNeg then none else gl (gup σ3 29 r4.toNatClampNeg l3) fun σ5 => if ((32 : Int32) + l1) < 0 ∨ 92 ≤ ((32 : Int32) + l1).toNatClampNeg then none else if ((32 : Int32) + l1) < 0 ∨ 92 ≤ ((32 : Int32) + l1).toNatClampNeg then none else gl (gup σ5 29 ((32 : Int32) + l1).toNatClampNeg ((σ5 29 ((32 : Int32) + l1).toNatClampNeg) + (1 : Int32))) fun σ6 => if ((32 : Int32) + l1) < 0 ∨ 92 ≤ ((32 : Int32) + l1).toNatClampNeg then none else some ((σ6 29 ((32 : Int32) + l1).toNatClampNeg), σ6)

def F_Model_substitute_B259 (p1 : Int32) (p2 : Int32) (p3 : Int32) (l1 : Int32) (l2 : Int32) (l3 : Int32) (l7 : Int32) (l9 : Int32) (s0 : Int32) (σ : gSt) : Option (Int32 × gSt) := gbi (F_Model_goes s0 σ) fun r2 σ1 => if r2 = (0 : Int32) then (some ((0 : Int32), σ1)) else (gl (gup σ1 29 41 (0 : Int32)) fun σ4 => if l9 = (0 : Int32) then (if ((78 : Int32) + l1) < 0 ∨ 92 ≤ ((78 : Int32) + l1).toNatClampNeg then none else gl (((42 : Int32) + ((18 : Int32) * l1)) + ((3 : Int32) * (σ4 29 ((78 : Int32) + l1).toNatClampNeg))) fun x6 => if x6 < 0 ∨ 92 ≤ x6.toNatClampNeg then none else gl (gup σ4 29 x6.toNatClampNeg l2) fun σ7 => if (x6 + (1 : Int32)) < 0 ∨ 92 ≤ (x6 + (1 : Int32)).toNatClampNeg then none else gl (gup σ7 29 (x6 + (1 : Int32)).toNatClampNeg l3) fun σ8 => if (x6 + (2 : Int32)) < 0 ∨ 92 ≤ (x6 + (2 : Int32)).toNatClampNeg then none else gl (gup σ8 29 (x6 + (2 : Int32)).toNatClampNeg (1 : Int32)) fun σ9 => if ((78 : Int32) + l1) < 0 ∨ 92 ≤ ((78 : Int32) + l1).toNatClampNeg then none else if ((78 : Int32) + l1) < 0 ∨ 92 ≤ ((78 : Int32) + l1).toNatClampNeg then none else gl (gup σ9 29 ((78 : Int32) + l1).toNatClampNeg ((σ9 29 ((78 : Int32) + l1).toNatClampNeg) + (1 : Int32))) fun σ10 => F_Model_substitute_B355 p1 p2 p3 l1 l2 l3 σ10) else (if (l7 + (2 : Int32)) < 0 ∨ 92 ≤ (l7 + (2 : Int32)).toNatClampNeg then none else gl (gup σ4 29 (l7 + (2 : Int32)).toNatClampNeg (2 : Int32)) fun σ11 => F_Model_substitute_B355 p1 p2 p3 l1 l2 l3 σ11))

def F_Model_substitute_B258 (p1 : Int32) (p2 : Int32) (p3 : Int32) (l1 : Int32) (l2 : Int32) (l3 : Int32) (l7 : Int32) (l9 : Int32) (σ : gSt) : Option (Int32 × gSt) := F_Model_substitute_B259 p1 p2 p3 l1 l2 l3 l7 l9 (2 : Int32) σ

def F_Model_substitute_B254 (p1 : Int32) (p2 : Int32) (p3 : Int32) (l1 : Int32) (l2 : Int32) (l3 : Int32) (l7 : Int32) (l9 : Int32) (σ : gSt) : Option (Int32 × gSt) := F_Model_substitute_B259 p1 p2 p3 l1 l2 l3 l7 l9 (0 : Int32) σ

def F_Model_substitute_B220 (p1 : Int32) (p2 : Int32) (p3 : Int32) (l1 : Int32) (l2 : Int32) (l3 : Int32) (l4 : Int32) (l6 : Int32) (l7 : Int32) (l8 : Int32) (s0 : Int32) (σ : gSt) : Option (Int32 × gSt) := if l4 = (0 : Int32) then (F_Model_substitute_B259 p1 p2 p3 l1 l2 l3 l7 s0 (1 : Int32) σ) else (if l6 = (0 : Int32) then (F_Model_substitute_B258 p1 p2 p3 l1 l2 l3 l7 s0 σ) else (if s0 = (0 : Int32) then (if l7 = (-1 : Int32) then (if l8 = (-1 : Int32) then (F_Model_substitute_B254 p1 p2 p3 l1 l2 l3 l7 s0 σ) else (F_Model_substitute_B258 p1 p2 p3 l1 l2 l3 l7 s0 σ)) else (F_Model_substitute_B258 p1 p2 p3 l1 l2 l3 l7 s0 σ)) else (F_Model_substitute_B254 p1 p2 p3 l1 l2 l3 l7 s0 σ)))

def F_Model_substitute_B219 (p1 : Int32) (p2 : Int32) (p3 : Int32) (l1 : Int32) (l2 : Int32) (l3 : Int32) (l4 : Int32) (l6 : Int32) (l7 : Int32) (l8 : Int32) (σ : gSt) : Option (Int32 × gSt) := F_Model_substitute_B220 p1 p2 p3 l1 l2 l3 l4 l6 l7 l8 (0 : Int32) σ

def F_Model_substitute_B174 (p1 : Int32) (p2 : Int32) (p3 : Int32) (l1 : Int32) (l2 : Int32) (l3 : Int32) (l4 : Int32) (l6 : Int32) (l7 : Int32) (s0 : Int32) (σ : gSt) : Option (Int32 × gSt) := if l7 = (-1 : Int32) then (F_Model_substitute_B219 p1 p2 p3 l1 l2 l3 l4 l6 l7 s0 σ) else (if l7 = s0 then (if (l7 + (2 : Int32)) < 0 ∨ 92 ≤ (l7 + (2 : Int32)).toNatClampNeg then none else if (σ 29 (l7 + (2 : Int32)).toNatClampNeg) = (1 : Int32) then (if (l7 + (1 : Int32)) < 0 ∨ 92 ≤ (l7 + (1 : Int32)).toNatClampNeg then none else if (σ 29 (l7 + (1 : Int32)).toNatClampNeg) = l2 then (F_Model_substitute_B220 p1 p2 p3 l1 l2 l3 l4 l6 l7 s0 (1 : Int32) σ) else (F_Model_substitute_B219 p1 p2 p3 l1 l2 l3 l4 l6 l7 s0 σ)) else (F_Model_substitute_B219 p1 p2 p3 l1 l2 l3 l4 l6 l7 s0 σ)) else (F_Model_substitute_B219 p1 p2 p3 l1 l2 l3 l4 l6 l7 s0 σ))

def F_Model_substitute_B157 (p1 : Int32) (p2 : Int32) (p3 : Int32) (l1 : Int32) (l2 : Int32) (l3 : Int32) (l4 : Int32) (l6 : Int32) (s0 : Int32) (σ : gSt) : Option (Int32 × gSt) := if l6 = (0 : Int32) then (F_Model_substitute_B174 p1 p2 p3 l1 l2 l3 l4 l6 s0 (-1 : Int32) σ) else (gbi (F_Model_pair l1 l3 σ) fun r3 σ2 => F_Model_substitute_B174 p1 p2 p3 l1 l2 l3 l4 l6 s0 r3 σ2)

def F_Model_substitute_B140 (p1 : Int32) (p2 : Int32) (p3 : Int32) (l1 : Int32) (l2 : Int32) (l3 : Int32) (l4 : Int32) (s0 : Int32) (σ : gSt) : Option (Int32 × gSt) := if s0 = (0 : Int32) then (F_Model_substitute_B157 p1 p2 p3 l1 l2 l3 l4 s0 (-1 : Int32) σ) else (gbi (F_Model_pair l1 l2 σ) fun r3 σ2 => F_Model_substitute_B157 p1 p2 p3 l1 l2 l3 l4 s0 r3 σ2)

def F_Model_substitute_B139 (p1 : Int32) (p2 : Int32) (p3 : Int32) (l1 : Int32) (l2 : Int32) (l3 : Int32) (l4 : Int32) (σ : gSt) : Option (Int32 × gSt) := F_Model_substitute_B140 p1 p2 p3 l1 l2 l3 l4 (0 : Int32) σ

def F_Model_substitute_B71 (p1 : Int32) (p2 : Int32) (p3 : Int32) (l1 : Int32) (l2 : Int32) (l3 : Int32) (l4 : Int32) (s0 : Int32) (σ : gSt) : Option (Int32 × gSt) := if s0 = (0 : Int32) then (F_Model_substitute_B139 p1 p2 p3 l1 l2 l3 l4 σ) else (gbi (F_Model_place l1 l2 σ) fun r3 σ2 => if r3 ≤ (0 : Int32) then (F_Model_substitute_B139 p1 p2 p3 l1 l2 l3 l4 σ2) else (if ((26 : Int32) + l1) < 0 ∨ 92 ≤ ((26 : Int32) + l1).toNatClampNeg then none else if l2 = (σ2 29 ((26 : Int32) + l1).toNatClampNeg) then (F_Model_substitute_B139 p1 p2 p3 l1 l2 l3 l4 σ2) else (gbi (F_Model_place l1 l3 σ2) fun r7 σ6 => if r7 = (0 : Int32) then (if ((26 : Int32) + l1) < 0 ∨ 92 ≤ ((26 : Int32) + l1).toNatClampNeg then none else if l3 = (σ6 29 ((26 : Int32) + l1).toNatClampNeg) then (F_Model_substitute_B139 p1 p2 p3 l1 l2 l3 l4 σ6) else (if ((28 : Int32) + l1) < 0 ∨ 92 ≤ ((28 : Int32) + l1).toNatClampNeg then none else if l3 = (σ6 29 ((28 : Int32) + l1).toNatClampNeg) then (F_Model_substitute_B139 p1 p2 p3 l1 l2 l3 l4 σ6) else (F_Model_substitute_B140 p1 p2 p3 l1 l2 l3 l4 (1 : Int32) σ6))) else (F_Model_substitute_B139 p1 p2 p3 l1 l2 l3 l4 σ6))))

def F_Model_substitute_B70 (p1 : Int32) (p2 : Int32) (p3 : Int32) (l1 : Int32) (l2 : Int32) (l3 : Int32) (l4 : Int32) (σ : gSt) : Option (Int32 × gSt) := F_Model_substitute_B71 p1 p2 p3 l1 l2 l3 l4 (0 : Int32) σ

def F_Model_substitute_B26 (p1 : Int32) (p2 : Int32) (p3 : Int32) (l1 : Int32) (l2 : Int32) (l3 : Int32) (s0 : Int32) (σ : gSt) : Option (Int32 × gSt) := if s0 = (0 : Int32) then (F_Model_substitute_B70 p1 p2 p3 l1 l2 l3 s0 σ) else (if (σ 29 0) = (1 : Int32) then (if (σ 29 1) = (0 : Int32) then (if ((32 : Int32) + l1) < 0 ∨ 92 ≤ ((32 : Int32) + l1).toNatClampNeg then none else if (6 : Int32) ≤ (σ 29 ((32 : Int32) + l1).toNatClampNeg) then (F_Model_substitute_B70 p1 p2 p3 l1 l2 l3 s0 σ) else (F_Model_substitute_B71 p1 p2 p3 l1 l2 l3 s0 (1 : Int32) σ)) else (F_Model_substitute_B70 p1 p2 p3 l1 l2 l3 s0 σ)) else (F_Model_substitute_B70 p1 p2 p3 l1 l2 l3 s0 σ))

def F_Model_substitute_B25 (p1 : Int32) (p2 : Int32) (p3 : Int32) (l1 : Int32) (l2 : Int32) (l3 : Int32) (σ : gSt) : Option (Int32 × gSt) := F_Model_substitute_B26 p1 p2 p3 l1 l2 l3 (0 : Int32) σ

def F_Model_substitute (p1 : Int32) (p2 : Int32) (p3 : Int32) (σ : gSt) : Option (Int32 × gSt) := gbi (F_Model_isTeam p1 σ) fun r2 σ1 => if r2 = (0 : Int32) then (F_Model_substitute_B25 p1 p2 p3 p1 p2 p3 σ1) else (gbi (F_Model_isShirt p2 σ1) fun r5 σ4 => if r5 = (0 : Int32) then (F_Model_substitute_B25 p1 p2 p3 p1 p2 p3 σ4) else (gbi (F_Model_isShirt p3 σ4) fun r8 σ7 => if r8 = (0 : Int32) then (F_Model_substitute_B25 p1 p2 p3 p1 p2 p3 σ7) else (F_Model_substitute_B26 p1 p2 p3 p1 p2 p3 (1 : Int32) σ7)))

set_option maxHeartbeats 4000000 in
set_option maxRecDepth 100000 in
theorem b_Model_substitute_B355 {p : Program} {l : Launch} {e : Env} {s : State} {m : MethodId} {args : Array Value} {below : List Frame} {meth : Method} {c : Code} {D : va_G} {cI cJ : ClassId} {ad : Nat → Nat} {sz : Nat} {r : Int32} {σ' : gSt} (C : gC p s m args meth c D cI cJ ad (gA ad sz) cX6_substitute 11 RX6) (hr : meth.sig.returnType = (some .int)) (hl : l.stackTraces = false) (p1 : Int32) (p2 : Int32) (p3 : Int32) (l1 : Int32) (l2 : Int32) (l3 : Int32) (σ : gSt) : gX (F_Model_substitute_B355 p1 p2 p3 l1 l2 l3 σ) (r, σ') (gG p l e { frames := 2, cells := 0, slots := 0, locals := 45 } s m args below meth c D cI cJ ad (gA ad sz) 11 0 0 (MQ below (va_Qi (fun r1 (_ : Unit) => r1 = r) (fun _ t => va_P D vwCl (gw cI cJ ad σ') t.heap) (gA ad sz)) args s 0 0 (gA ad sz)) σ 355 [(0, .ref (ad 28)), (1, .int l1), (2, .int l2), (3, .int l3)] []) := by
  unfold F_Model_substitute_B355
  refine g_aload_n C 0 dX6_substitute_355 rfl rfl ?_
  refine g_getR (o' := 29) C 28 0 gcl6 rfl (by decide) rfl qw316 dX6_substitute_356 ?_
  refine g_iload_n C 1 dX6_substitute_359 rfl rfl ?_
  refine g_aload_n C 0 dX6_substitute_360 rfl rfl ?_
  refine g_iload_n C 1 dX6_substitute_361 rfl rfl ?_
  refine g_iload_n C 2 dX6_substitute_362 rfl rfl ?_
  refine g_callvi (As := [.int l1, .int l2]) (n := 2) C (c_Model_place l hl D cI cJ ad l1 l2) ⟨rfl, rfl⟩ gcl6 rfl qc84 (hR := ⟨Nat.le_of_ble_eq_true rfl, Nat.le_of_ble_eq_true rfl⟩) rfl rfl (Nat.le_of_ble_eq_true rfl) dX6_substitute_363 ⟨Nat.zero_le _, Nat.zero_le _⟩ (fun r2 σ1 => ?_)
  refine g_callsi (As := [.int l1, .int r2]) (n := 2) C (c_Model_slot l hl D cI cJ ad l1 r2) ⟨rfl, rfl⟩ qc79 (hR := ⟨Nat.le_of_ble_eq_true rfl, Nat.le_of_ble_eq_true rfl⟩) rfl rfl (Nat.le_of_ble_eq_true rfl) dX6_substitute_366 ⟨Nat.zero_le _, Nat.zero_le _⟩ (fun r4 σ3 => ?_)
  refine g_iload_n C 3 dX6_substitute_369 rfl rfl ?_
  refine g_iast (o := 29) (n := 92) C rfl rfl dX6_substitute_370 (fun σ5 => ?_)
  refine g_aload_n C 0 dX6_substitute_371 rfl rfl ?_
  refine g_getR (o' := 29) C 28 0 gcl6 rfl (by decide) rfl qw316 dX6_substitute_372 ?_
  refine g_bipush (v := (32 : Int32)) C dX6_substitute_375 (by decide) ?_
  refine g_iload_n C 1 dX6_substitute_377 rfl rfl ?_
  refine g_iadd C dX6_substitute_378 ?_
  refine g_dup2 C dX6_substitute_379 rfl rfl ?_
  refine g_iald (o := 29) (n := 92) C rfl rfl dX6_substitute_380 ?_
  refine g_iconst (v := (1 : Int32)) C dX6_substitute_381 (by decide) ?_
  refine g_iadd C dX6_substitute_382 ?_
  refine g_iast (o := 29) (n := 92) C rfl rfl dX6_substitute_383 (fun σ6 => ?_)
  refine g_aload_n C 0 dX6_substitute_384 rfl rfl ?_
  refine g_getR (o' := 29) C 28 0 gcl6 rfl (by decide) rfl qw316 dX6_substitute_385 ?_
  refine g_bipush (v := (32 : Int32)) C dX6_substitute_388 (by decide) ?_
  refine g_iload_n C 1 dX6_substitute_390 rfl rfl ?_
  refine g_iadd C dX6_substitute_391 ?_
  refine g_iald (o := 29) (n := 92) C rfl rfl dX6_substitute_392 ?_
  exact g_ireti C hr dX6_substitute_393

set_option maxHeartbeats 4000000 in
set_option maxRecDepth 100000 in
theorem b_Model_substitute_B259 {p : Program} {l : Launch} {e : Env} {s : State} {m : MethodId} {args : Array Value} {below : List Frame} {meth : Method} {c : Code} {D : va_G} {cI cJ : ClassId} {ad : Nat → Nat} {sz : Nat} {r : Int32} {σ' : gSt} (C : gC p s m args meth c D cI cJ ad (gA ad sz) cX6_substitute 11 RX6) (hr : meth.sig.returnType = (some .int)) (hl : l.stackTraces = false) (p1 : Int32) (p2 : Int32) (p3 : Int32) (l1 : Int32) (l2 : Int32) (l3 : Int32) (l7 : Int32) (l9 : Int32) (s0 : Int32) (σ : gSt) : gX (F_Model_substitute_B259 p1 p2 p3 l1 l2 l3 l7 l9 s0 σ) (r, σ') (gG p l e { frames := 2, cells := 0, slots := 0, locals := 45 } s m args below meth c D cI cJ ad (gA ad sz) 11 0 0 (MQ below (va_Qi (fun r1 (_ : Unit) => r1 = r) (fun _ t => va_P D vwCl (gw cI cJ ad σ') t.heap) (gA ad sz)) args s 0 0 (gA ad sz)) σ 259 [(0, .ref (ad 28)), (1, .int l1), (2, .int l2), (3, .int l3), (7, .int l7), (9, .int l9)] [.int s0, .ref (ad 28)]) := by
  unfold F_Model_substitute_B259
  refine g_callvi (As := [.int s0]) (n := 1) C (c_Model_goes l hl D cI cJ ad s0) ⟨rfl, rfl⟩ gcl6 rfl qc81 (hR := ⟨Nat.le_of_ble_eq_true rfl, Nat.le_of_ble_eq_true rfl⟩) rfl rfl (Nat.le_of_ble_eq_true rfl) dX6_substitute_259 ⟨Nat.zero_le _, Nat.zero_le _⟩ (fun r2 σ1 => ?_)
  refine g_if_ne (tgt := 267) C dX6_substitute_262 (by decide) (fun h3 => ?_) (fun h3 => ?_)
  · refine g_iconst (v := (0 : Int32)) C dX6_substitute_265 (by decide) ?_
    exact g_ireti C hr dX6_substitute_266
  · refine g_aload_n C 0 dX6_substitute_267 rfl rfl ?_
    refine g_getR (o' := 29) C 28 0 gcl6 rfl (by decide) rfl qw316 dX6_substitute_268 ?_
    refine g_bipush (v := (41 : Int32)) C dX6_substitute_271 (by decide) ?_
    refine g_iconst (v := (0 : Int32)) C dX6_substitute_273 (by decide) ?_
    refine g_iastL (o := 29) (n := 92) C 41 ⟨by decide, by unfold vp_in; decide⟩ rfl rfl dX6_substitute_274 (fun σ4 => ?_)
    refine g_iload C 5 dX6_substitute_275 rfl ?_
    refine g_if_eq (tgt := 293) C dX6_substitute_277 (by decide) (fun h5 => ?_) (fun h5 => ?_)
    · refine g_bipush (v := (42 : Int32)) C dX6_substitute_293 (by decide) ?_
      refine g_bipush (v := (18 : Int32)) C dX6_substitute_295 (by decide) ?_
      refine g_iload_n C 1 dX6_substitute_297 rfl rfl ?_
      refine g_imul C dX6_substitute_298 ?_
      refine g_iadd C dX6_substitute_299 ?_
      refine g_iconst (v := (3 : Int32)) C dX6_substitute_300 (by decide) ?_
      refine g_aload_n C 0 dX6_substitute_301 rfl rfl ?_
      refine g_getR (o' := 29) C 28 0 gcl6 rfl (by decide) rfl qw316 dX6_substitute_302 ?_
      refine g_bipush (v := (78 : Int32)) C dX6_substitute_305 (by decide) ?_
      refine g_iload_n C 1 dX6_substitute_307 rfl rfl ?_
      refine g_iadd C dX6_substitute_308 ?_
      refine g_iald (o := 29) (n := 92) C rfl rfl dX6_substitute_309 ?_
      refine g_imul C dX6_substitute_310 ?_
      refine g_iadd C dX6_substitute_311 ?_
      refine g_name ?_; intro x6
      refine g_istore (L' := [(10, .int x6), (0, .ref (ad 28)), (1, .int l1), (2, .int l2), (3, .int l3), (7, .int l7), (9, .int l9)]) C dX6_substitute_312 (by decide) rfl ?_
      refine g_aload_n C 1 dX6_substitute_314 rfl rfl ?_
      refine g_getR (o' := 29) C 28 0 gcl6 rfl (by decide) rfl qw316 dX6_substitute_315 ?_
      refine g_iload C 0 dX6_substitute_318 rfl ?_
      refine g_iload_n C 3 dX6_substitute_320 rfl rfl ?_
      refine g_iast (o := 29) (n := 92) C rfl rfl dX6_substitute_321 (fun σ7 => ?_)
      refine g_aload_n C 1 dX6_substitute_322 rfl rfl ?_
      refine g_getR (o' := 29) C 28 0 gcl6 rfl (by decide) rfl qw316 dX6_substitute_323 ?_
      refine g_iload C 0 dX6_substitute_326 rfl ?_
      refine g_iconst (v := (1 : Int32)) C dX6_substitute_328 (by decide) ?_
      refine g_iadd C dX6_substitute_329 ?_
      refine g_iload_n C 4 dX6_substitute_330 rfl rfl ?_
      refine g_iast (o := 29) (n := 92) C rfl rfl dX6_substitute_331 (fun σ8 => ?_)
      refine g_aload_n C 1 dX6_substitute_332 rfl rfl ?_
      refine g_getR (o' := 29) C 28 0 gcl6 rfl (by decide) rfl qw316 dX6_substitute_333 ?_
      refine g_iload C 0 dX6_substitute_336 rfl ?_
      refine g_iconst (v := (2 : Int32)) C dX6_substitute_338 (by decide) ?_
      refine g_iadd C dX6_substitute_339 ?_
      refine g_iconst (v := (1 : Int32)) C dX6_substitute_340 (by decide) ?_
      refine g_iast (o := 29) (n := 92) C rfl rfl dX6_substitute_341 (fun σ9 => ?_)
      refine g_aload_n C 1 dX6_substitute_342 rfl rfl ?_
      refine g_getR (o' := 29) C 28 0 gcl6 rfl (by decide) rfl qw316 dX6_substitute_343 ?_
      refine g_bipush (v := (78 : Int32)) C dX6_substitute_346 (by decide) ?_
      refine g_iload_n C 2 dX6_substitute_348 rfl rfl ?_
      refine g_iadd C dX6_substitute_349 ?_
      refine g_dup2 C dX6_substitute_350 rfl rfl ?_
      refine g_iald (o := 29) (n := 92) C rfl rfl dX6_substitute_351 ?_
      refine g_iconst (v := (1 : Int32)) C dX6_substitute_352 (by decide) ?_
      refine g_iadd C dX6_substitute_353 ?_
      refine g_iast (o := 29) (n := 92) C rfl rfl dX6_substitute_354 (fun σ10 => ?_)
      refine g_loc [1, 2, 3, 4] rfl ?_
      exact b_Model_substitute_B355 C hr hl p1 p2 p3 l1 l2 l3 σ10
    · refine g_aload_n C 0 dX6_substitute_280 rfl rfl ?_
      refine g_getR (o' := 29) C 28 0 gcl6 rfl (by decide) rfl qw316 dX6_substitute_281 ?_
      refine g_iload C 4 dX6_substitute_284 rfl ?_
      refine g_iconst (v := (2 : Int32)) C dX6_substitute_286 (by decide) ?_
      refine g_iadd C dX6_substitute_287 ?_
      refine g_iconst (v := (2 : Int32)) C dX6_substitute_288 (by decide) ?_
      refine g_iast (o := 29) (n := 92) C rfl rfl dX6_substitute_289 (fun σ11 => ?_)
      refine g_goto (tgt := 355) C dX6_substitute_290 (by decide) ?_
      refine g_loc [0, 1, 2, 3] rfl ?_
      exact b_Model_substitute_B355 C hr hl p1 p2 p3 l1 l2 l3 σ11

set_option maxHeartbeats 4000000 in
set_option maxRecDepth 100000 in
theorem b_Model_substitute_B258 {p : Program} {l : Launch} {e : Env} {s : State} {m : MethodId} {args : Array Value} {below : List Frame} {meth : Method} {c : Code} {D : va_G} {cI cJ : ClassId} {ad : Nat → Nat} {sz : Nat} {r : Int32} {σ' : gSt} (C : gC p s m args meth c D cI cJ ad (gA ad sz) cX6_substitute 11 RX6) (hr : meth.sig.returnType = (some .int)) (hl : l.stackTraces = false) (p1 : Int32) (p2 : Int32) (p3 : Int32) (l1 : Int32) (l2 : Int32) (l3 : Int32) (l7 : Int32) (l9 : Int32) (σ : gSt) : gX (F_Model_substitute_B258 p1 p2 p3 l1 l2 l3 l7 l9 σ) (r, σ') (gG p l e { frames := 2, cells := 0, slots := 0, locals := 45 } s m args below meth c D cI cJ ad (gA ad sz) 11 0 0 (MQ below (va_Qi (fun r1 (_ : Unit) => r1 = r) (fun _ t => va_P D vwCl (gw cI cJ ad σ') t.heap) (gA ad sz)) args s 0 0 (gA ad sz)) σ 258 [(0, .ref (ad 28)), (1, .int l1), (2, .int l2), (3, .int l3), (7, .int l7), (9, .int l9)] [.ref (ad 28)]) := by
  unfold F_Model_substitute_B258
  refine g_iconst (v := (2 : Int32)) C dX6_substitute_258 (by decide) ?_
  refine g_loc [0, 1, 2, 3, 4, 5] rfl ?_
  exact b_Model_substitute_B259 C hr hl p1 p2 p3 l1 l2 l3 l7 l9 (2 : Int32) σ

set_option maxHeartbeats 4000000 in
set_option maxRecDepth 100000 in
theorem b_Model_substitute_B254 {p : Program} {l : Launch} {e : Env} {s : State} {m : MethodId} {args : Array Value} {below : List Frame} {meth : Method} {c : Code} {D : va_G} {cI cJ : ClassId} {ad : Nat → Nat} {sz : Nat} {r : Int32} {σ' : gSt} (C : gC p s m args meth c D cI cJ ad (gA ad sz) cX6_substitute 11 RX6) (hr : meth.sig.returnType = (some .int)) (hl : l.stackTraces = false) (p1 : Int32) (p2 : Int32) (p3 : Int32) (l1 : Int32) (l2 : Int32) (l3 : Int32) (l7 : Int32) (l9 : Int32) (σ : gSt) : gX (F_Model_substitute_B254 p1 p2 p3 l1 l2 l3 l7 l9 σ) (r, σ') (gG p l e { frames := 2, cells := 0, slots := 0, locals := 45 } s m args below meth c D cI cJ ad (gA ad sz) 11 0 0 (MQ below (va_Qi (fun r1 (_ : Unit) => r1 = r) (fun _ t => va_P D vwCl (gw cI cJ ad σ') t.heap) (gA ad sz)) args s 0 0 (gA ad sz)) σ 254 [(0, .ref (ad 28)), (1, .int l1), (2, .int l2), (3, .int l3), (7, .int l7), (9, .int l9)] [.ref (ad 28)]) := by
  unfold F_Model_substitute_B254
  refine g_iconst (v := (0 : Int32)) C dX6_substitute_254 (by decide) ?_
  refine g_goto (tgt := 259) C dX6_substitute_255 (by decide) ?_
  refine g_loc [0, 1, 2, 3, 4, 5] rfl ?_
  exact b_Model_substitute_B259 C hr hl p1 p2 p3 l1 l2 l3 l7 l9 (0 : Int32) σ

set_option maxHeartbeats 4000000 in
set_option maxRecDepth 100000 in
theorem b_Model_substitute_B220 {p : Program} {l : Launch} {e : Env} {s : State} {m : MethodId} {args : Array Value} {below : List Frame} {meth : Method} {c : Code} {D : va_G} {cI cJ : ClassId} {ad : Nat → Nat} {sz : Nat} {r : Int32} {σ' : gSt} (C : gC p s m args meth c D cI cJ ad (gA ad sz) cX6_substitute 11 RX6) (hr : meth.sig.returnType = (some .int)) (hl : l.stackTraces = false) (p1 : Int32) (p2 : Int32) (p3 : Int32) (l1 : Int32) (l2 : Int32) (l3 : Int32) (l4 : Int32) (l6 : Int32) (l7 : Int32) (l8 : Int32) (s0 : Int32) (σ : gSt) : gX (F_Model_substitute_B220 p1 p2 p3 l1 l2 l3 l4 l6 l7 l8 s0 σ) (r, σ') (gG p l e { frames := 2, cells := 0, slots := 0, locals := 45 } s m args below meth c D cI cJ ad (gA ad sz) 11 0 0 (MQ below (va_Qi (fun r1 (_ : Unit) => r1 = r) (fun _ t => va_P D vwCl (gw cI cJ ad σ') t.heap) (gA ad sz)) args s 0 0 (gA ad sz)) σ 220 [(0, .ref (ad 28)), (1, .int l1), (2, .int l2), (3, .int l3), (4, .int l4), (6, .int l6), (7, .int l7), (8, .int l8)] [.int s0]) := by
  unfold F_Model_substitute_B220
  refine g_istore (L' := [(9, .int s0), (0, .ref (ad 28)), (1, .int l1), (2, .int l2), (3, .int l3), (4, .int l4), (6, .int l6), (7, .int l7), (8, .int l8)]) C dX6_substitute_220 (by decide) rfl ?_
  refine g_aload_n C 1 dX6_substitute_222 rfl rfl ?_
  refine g_iload C 5 dX6_substitute_223 rfl ?_
  refine g_if_ne (tgt := 232) C dX6_substitute_225 (by decide) (fun h1 => ?_) (fun h1 => ?_)
  · refine g_iconst (v := (1 : Int32)) C dX6_substitute_228 (by decide) ?_
    refine g_goto (tgt := 259) C dX6_substitute_229 (by decide) ?_
    refine g_loc [1, 2, 3, 4, 7, 0] rfl ?_
    exact b_Model_substitute_B259 C hr hl p1 p2 p3 l1 l2 l3 l7 s0 (1 : Int32) σ
  · refine g_iload C 6 dX6_substitute_232 rfl ?_
    refine g_if_eq (tgt := 258) C dX6_substitute_234 (by decide) (fun h2 => ?_) (fun h2 => ?_)
    · refine g_loc [1, 2, 3, 4, 7, 0] rfl ?_
      exact b_Model_substitute_B258 C hr hl p1 p2 p3 l1 l2 l3 l7 s0 σ
    · refine g_iload C 0 dX6_substitute_237 rfl ?_
      refine g_if_ne (tgt := 254) C dX6_substitute_239 (by decide) (fun h3 => ?_) (fun h3 => ?_)
      · refine g_iload C 7 dX6_substitute_242 rfl ?_
        refine g_iconst (v := (-1 : Int32)) C dX6_substitute_244 (by decide) ?_
        refine g_icmp_ne (tgt := 258) C dX6_substitute_245 (by decide) (fun h4 => ?_) (fun h4 => ?_)
        · refine g_iload C 8 dX6_substitute_248 rfl ?_
          refine g_iconst (v := (-1 : Int32)) C dX6_substitute_250 (by decide) ?_
          refine g_icmp_ne (tgt := 258) C dX6_substitute_251 (by decide) (fun h5 => ?_) (fun h5 => ?_)
          · refine g_loc [1, 2, 3, 4, 7, 0] rfl ?_
            exact b_Model_substitute_B254 C hr hl p1 p2 p3 l1 l2 l3 l7 s0 σ
          · refine g_loc [1, 2, 3, 4, 7, 0] rfl ?_
            exact b_Model_substitute_B258 C hr hl p1 p2 p3 l1 l2 l3 l7 s0 σ
        · refine g_loc [1, 2, 3, 4, 7, 0] rfl ?_
          exact b_Model_substitute_B258 C hr hl p1 p2 p3 l1 l2 l3 l7 s0 σ
      · refine g_loc [1, 2, 3, 4, 7, 0] rfl ?_
        exact b_Model_substitute_B254 C hr hl p1 p2 p3 l1 l2 l3 l7 s0 σ

set_option maxHeartbeats 4000000 in
set_option maxRecDepth 100000 in
theorem b_Model_substitute_B219 {p : Program} {l : Launch} {e : Env} {s : State} {m : MethodId} {args : Array Value} {below : List Frame} {meth : Method} {c : Code} {D : va_G} {cI cJ : ClassId} {ad : Nat → Nat} {sz : Nat} {r : Int32} {σ' : gSt} (C : gC p s m args meth c D cI cJ ad (gA ad sz) cX6_substitute 11 RX6) (hr : meth.sig.returnType = (some .int)) (hl : l.stackTraces = false) (p1 : Int32) (p2 : Int32) (p3 : Int32) (l1 : Int32) (l2 : Int32) (l3 : Int32) (l4 : Int32) (l6 : Int32) (l7 : Int32) (l8 : Int32) (σ : gSt) : gX (F_Model_substitute_B219 p1 p2 p3 l1 l2 l3 l4 l6 l7 l8 σ) (r, σ') (gG p l e { frames := 2, cells := 0, slots := 0, locals := 45 } s m args below meth c D cI cJ ad (gA ad sz) 11 0 0 (MQ below (va_Qi (fun r1 (_ : Unit) => r1 = r) (fun _ t => va_P D vwCl (gw cI cJ ad σ') t.heap) (gA ad sz)) args s 0 0 (gA ad sz)) σ 219 [(0, .ref (ad 28)), (1, .int l1), (2, .int l2), (3, .int l3), (4, .int l4), (6, .int l6), (7, .int l7), (8, .int l8)] []) := by
  unfold F_Model_substitute_B219
  refine g_iconst (v := (0 : Int32)) C dX6_substitute_219 (by decide) ?_
  refine g_loc [0, 1, 2, 3, 4, 5, 6, 7] rfl ?_
  exact b_Model_substitute_B220 C hr hl p1 p2 p3 l1 l2 l3 l4 l6 l7 l8 (0 : Int32) σ

set_option maxHeartbeats 4000000 in
set_option maxRecDepth 100000 in
theorem b_Model_substitute_B174 {p : Program} {l : Launch} {e : Env} {s : State} {m : MethodId} {args : Array Value} {below : List Frame} {meth : Method} {c : Code} {D : va_G} {cI cJ : ClassId} {ad : Nat → Nat} {sz : Nat} {r : Int32} {σ' : gSt} (C : gC p s m args meth c D cI cJ ad (gA ad sz) cX6_substitute 11 RX6) (hr : meth.sig.returnType = (some .int)) (hl : l.stackTraces = false) (p1 : Int32) (p2 : Int32) (p3 : Int32) (l1 : Int32) (l2 : Int32) (l3 : Int32) (l4 : Int32) (l6 : Int32) (l7 : Int32) (s0 : Int32) (σ : gSt) : gX (F_Model_substitute_B174 p1 p2 p3 l1 l2 l3 l4 l6 l7 s0 σ) (r, σ') (gG p l e { frames := 2, cells := 0, slots := 0, locals := 45 } s m args below meth c D cI cJ ad (gA ad sz) 11 0 0 (MQ below (va_Qi (fun r1 (_ : Unit) => r1 = r) (fun _ t => va_P D vwCl (gw cI cJ ad σ') t.heap) (gA ad sz)) args s 0 0 (gA ad sz)) σ 174 [(0, .ref (ad 28)), (1, .int l1), (2, .int l2), (3, .int l3), (4, .int l4), (6, .int l6), (7, .int l7)] [.int s0]) := by
  unfold F_Model_substitute_B174
  refine g_istore (L' := [(8, .int s0), (0, .ref (ad 28)), (1, .int l1), (2, .int l2), (3, .int l3), (4, .int l4), (6, .int l6), (7, .int l7)]) C dX6_substitute_174 (by decide) rfl ?_
  refine g_iload C 7 dX6_substitute_176 rfl ?_
  refine g_iconst (v := (-1 : Int32)) C dX6_substitute_178 (by decide) ?_
  refine g_icmp_eq (tgt := 219) C dX6_substitute_179 (by decide) (fun h1 => ?_) (fun h1 => ?_)
  · refine g_loc [1, 2, 3, 4, 5, 6, 7, 0] rfl ?_
    exact b_Model_substitute_B219 C hr hl p1 p2 p3 l1 l2 l3 l4 l6 l7 s0 σ
  · refine g_iload C 7 dX6_substitute_182 rfl ?_
    refine g_iload C 0 dX6_substitute_184 rfl ?_
    refine g_icmp_ne (tgt := 219) C dX6_substitute_186 (by decide) (fun h2 => ?_) (fun h2 => ?_)
    · refine g_aload_n C 1 dX6_substitute_189 rfl rfl ?_
      refine g_getR (o' := 29) C 28 0 gcl6 rfl (by decide) rfl qw316 dX6_substitute_190 ?_
      refine g_iload C 7 dX6_substitute_193 rfl ?_
      refine g_iconst (v := (2 : Int32)) C dX6_substitute_195 (by decide) ?_
      refine g_iadd C dX6_substitute_196 ?_
      refine g_iald (o := 29) (n := 92) C rfl rfl dX6_substitute_197 ?_
      refine g_iconst (v := (1 : Int32)) C dX6_substitute_198 (by decide) ?_
      refine g_icmp_ne (tgt := 219) C dX6_substitute_199 (by decide) (fun h3 => ?_) (fun h3 => ?_)
      · refine g_aload_n C 1 dX6_substitute_202 rfl rfl ?_
        refine g_getR (o' := 29) C 28 0 gcl6 rfl (by decide) rfl qw316 dX6_substitute_203 ?_
        refine g_iload C 7 dX6_substitute_206 rfl ?_
        refine g_iconst (v := (1 : Int32)) C dX6_substitute_208 (by decide) ?_
        refine g_iadd C dX6_substitute_209 ?_
        refine g_iald (o := 29) (n := 92) C rfl rfl dX6_substitute_210 ?_
        refine g_iload_n C 3 dX6_substitute_211 rfl rfl ?_
        refine g_icmp_ne (tgt := 219) C dX6_substitute_212 (by decide) (fun h4 => ?_) (fun h4 => ?_)
        · refine g_iconst (v := (1 : Int32)) C dX6_substitute_215 (by decide) ?_
          refine g_goto (tgt := 220) C dX6_substitute_216 (by decide) ?_
          refine g_loc [1, 2, 3, 4, 5, 6, 7, 0] rfl ?_
          exact b_Model_substitute_B220 C hr hl p1 p2 p3 l1 l2 l3 l4 l6 l7 s0 (1 : Int32) σ
        · refine g_loc [1, 2, 3, 4, 5, 6, 7, 0] rfl ?_
          exact b_Model_substitute_B219 C hr hl p1 p2 p3 l1 l2 l3 l4 l6 l7 s0 σ
      · refine g_loc [1, 2, 3, 4, 5, 6, 7, 0] rfl ?_
        exact b_Model_substitute_B219 C hr hl p1 p2 p3 l1 l2 l3 l4 l6 l7 s0 σ
    · refine g_loc [1, 2, 3, 4, 5, 6, 7, 0] rfl ?_
      exact b_Model_substitute_B219 C hr hl p1 p2 p3 l1 l2 l3 l4 l6 l7 s0 σ

set_option maxHeartbeats 4000000 in
set_option maxRecDepth 100000 in
theorem b_Model_substitute_B157 {p : Program} {l : Launch} {e : Env} {s : State} {m : MethodId} {args : Array Value} {below : List Frame} {meth : Method} {c : Code} {D : va_G} {cI cJ : ClassId} {ad : Nat → Nat} {sz : Nat} {r : Int32} {σ' : gSt} (C : gC p s m args meth c D cI cJ ad (gA ad sz) cX6_substitute 11 RX6) (hr : meth.sig.returnType = (some .int)) (hl : l.stackTraces = false) (p1 : Int32) (p2 : Int32) (p3 : Int32) (l1 : Int32) (l2 : Int32) (l3 : Int32) (l4 : Int32) (l6 : Int32) (s0 : Int32) (σ : gSt) : gX (F_Model_substitute_B157 p1 p2 p3 l1 l2 l3 l4 l6 s0 σ) (r, σ') (gG p l e { frames := 2, cells := 0, slots := 0, locals := 45 } s m args below meth c D cI cJ ad (gA ad sz) 11 0 0 (MQ below (va_Qi (fun r1 (_ : Unit) => r1 = r) (fun _ t => va_P D vwCl (gw cI cJ ad σ') t.heap) (gA ad sz)) args s 0 0 (gA ad sz)) σ 157 [(0, .ref (ad 28)), (1, .int l1), (2, .int l2), (3, .int l3), (4, .int l4), (6, .int l6)] [.int s0]) := by
  unfold F_Model_substitute_B157
  refine g_istore (L' := [(7, .int s0), (0, .ref (ad 28)), (1, .int l1), (2, .int l2), (3, .int l3), (4, .int l4), (6, .int l6)]) C dX6_substitute_157 (by decide) rfl ?_
  refine g_iload C 6 dX6_substitute_159 rfl ?_
  refine g_if_eq (tgt := 173) C dX6_substitute_161 (by decide) (fun h1 => ?_) (fun h1 => ?_)
  · refine g_iconst (v := (-1 : Int32)) C dX6_substitute_173 (by decide) ?_
    refine g_loc [1, 2, 3, 4, 5, 6, 0] rfl ?_
    exact b_Model_substitute_B174 C hr hl p1 p2 p3 l1 l2 l3 l4 l6 s0 (-1 : Int32) σ
  · refine g_aload_n C 1 dX6_substitute_164 rfl rfl ?_
    refine g_iload_n C 2 dX6_substitute_165 rfl rfl ?_
    refine g_iload_n C 4 dX6_substitute_166 rfl rfl ?_
    refine g_callvi (As := [.int l1, .int l3]) (n := 2) C (c_Model_pair l hl D cI cJ ad l1 l3) ⟨rfl, rfl⟩ gcl6 rfl qc92 (hR := ⟨Nat.le_of_ble_eq_true rfl, Nat.le_of_ble_eq_true rfl⟩) rfl rfl (Nat.le_of_ble_eq_true rfl) dX6_substitute_167 ⟨Nat.zero_le _, Nat.zero_le _⟩ (fun r3 σ2 => ?_)
    refine g_goto (tgt := 174) C dX6_substitute_170 (by decide) ?_
    refine g_loc [1, 2, 3, 4, 5, 6, 0] rfl ?_
    exact b_Model_substitute_B174 C hr hl p1 p2 p3 l1 l2 l3 l4 l6 s0 r3 σ2

set_option maxHeartbeats 4000000 in
set_option maxRecDepth 100000 in
theorem b_Model_substitute_B140 {p : Program} {l : Launch} {e : Env} {s : State} {m : MethodId} {args : Array Value} {below : List Frame} {meth : Method} {c : Code} {D : va_G} {cI cJ : ClassId} {ad : Nat → Nat} {sz : Nat} {r : Int32} {σ' : gSt} (C : gC p s m args meth c D cI cJ ad (gA ad sz) cX6_substitute 11 RX6) (hr : meth.sig.returnType = (some .int)) (hl : l.stackTraces = false) (p1 : Int32) (p2 : Int32) (p3 : Int32) (l1 : Int32) (l2 : Int32) (l3 : Int32) (l4 : Int32) (s0 : Int32) (σ : gSt) : gX (F_Model_substitute_B140 p1 p2 p3 l1 l2 l3 l4 s0 σ) (r, σ') (gG p l e { frames := 2, cells := 0, slots := 0, locals := 45 } s m args below meth c D cI cJ ad (gA ad sz) 11 0 0 (MQ below (va_Qi (fun r1 (_ : Unit) => r1 = r) (fun _ t => va_P D vwCl (gw cI cJ ad σ') t.heap) (gA ad sz)) args s 0 0 (gA ad sz)) σ 140 [(0, .ref (ad 28)), (1, .int l1), (2, .int l2), (3, .int l3), (4, .int l4)] [.int s0]) := by
  unfold F_Model_substitute_B140
  refine g_istore (L' := [(6, .int s0), (0, .ref (ad 28)), (1, .int l1), (2, .int l2), (3, .int l3), (4, .int l4)]) C dX6_substitute_140 (by decide) rfl ?_
  refine g_iload C 0 dX6_substitute_142 rfl ?_
  refine g_if_eq (tgt := 156) C dX6_substitute_144 (by decide) (fun h1 => ?_) (fun h1 => ?_)
  · refine g_iconst (v := (-1 : Int32)) C dX6_substitute_156 (by decide) ?_
    refine g_loc [1, 2, 3, 4, 5, 0] rfl ?_
    exact b_Model_substitute_B157 C hr hl p1 p2 p3 l1 l2 l3 l4 s0 (-1 : Int32) σ
  · refine g_aload_n C 1 dX6_substitute_147 rfl rfl ?_
    refine g_iload_n C 2 dX6_substitute_148 rfl rfl ?_
    refine g_iload_n C 3 dX6_substitute_149 rfl rfl ?_
    refine g_callvi (As := [.int l1, .int l2]) (n := 2) C (c_Model_pair l hl D cI cJ ad l1 l2) ⟨rfl, rfl⟩ gcl6 rfl qc92 (hR := ⟨Nat.le_of_ble_eq_true rfl, Nat.le_of_ble_eq_true rfl⟩) rfl rfl (Nat.le_of_ble_eq_true rfl) dX6_substitute_150 ⟨Nat.zero_le _, Nat.zero_le _⟩ (fun r3 σ2 => ?_)
    refine g_goto (tgt := 157) C dX6_substitute_153 (by decide) ?_
    refine g_loc [1, 2, 3, 4, 5, 0] rfl ?_
    exact b_Model_substitute_B157 C hr hl p1 p2 p3 l1 l2 l3 l4 s0 r3 σ2

set_option maxHeartbeats 4000000 in
set_option maxRecDepth 100000 in
theorem b_Model_substitute_B139 {p : Program} {l : Launch} {e : Env} {s : State} {m : MethodId} {args : Array Value} {below : List Frame} {meth : Method} {c : Code} {D : va_G} {cI cJ : ClassId} {ad : Nat → Nat} {sz : Nat} {r : Int32} {σ' : gSt} (C : gC p s m args meth c D cI cJ ad (gA ad sz) cX6_substitute 11 RX6) (hr : meth.sig.returnType = (some .int)) (hl : l.stackTraces = false) (p1 : Int32) (p2 : Int32) (p3 : Int32) (l1 : Int32) (l2 : Int32) (l3 : Int32) (l4 : Int32) (σ : gSt) : gX (F_Model_substitute_B139 p1 p2 p3 l1 l2 l3 l4 σ) (r, σ') (gG p l e { frames := 2, cells := 0, slots := 0, locals := 45 } s m args below meth c D cI cJ ad (gA ad sz) 11 0 0 (MQ below (va_Qi (fun r1 (_ : Unit) => r1 = r) (fun _ t => va_P D vwCl (gw cI cJ ad σ') t.heap) (gA ad sz)) args s 0 0 (gA ad sz)) σ 139 [(0, .ref (ad 28)), (1, .int l1), (2, .int l2), (3, .int l3), (4, .int l4)] []) := by
  unfold F_Model_substitute_B139
  refine g_iconst (v := (0 : Int32)) C dX6_substitute_139 (by decide) ?_
  refine g_loc [0, 1, 2, 3, 4] rfl ?_
  exact b_Model_substitute_B140 C hr hl p1 p2 p3 l1 l2 l3 l4 (0 : Int32) σ

set_option maxHeartbeats 4000000 in
set_option maxRecDepth 100000 in
theorem b_Model_substitute_B71 {p : Program} {l : Launch} {e : Env} {s : State} {m : MethodId} {args : Array Value} {below : List Frame} {meth : Method} {c : Code} {D : va_G} {cI cJ : ClassId} {ad : Nat → Nat} {sz : Nat} {r : Int32} {σ' : gSt} (C : gC p s m args meth c D cI cJ ad (gA ad sz) cX6_substitute 11 RX6) (hr : meth.sig.returnType = (some .int)) (hl : l.stackTraces = false) (p1 : Int32) (p2 : Int32) (p3 : Int32) (l1 : Int32) (l2 : Int32) (l3 : Int32) (l4 : Int32) (s0 : Int32) (σ : gSt) : gX (F_Model_substitute_B71 p1 p2 p3 l1 l2 l3 l4 s0 σ) (r, σ') (gG p l e { frames := 2, cells := 0, slots := 0, locals := 45 } s m args below meth c D cI cJ ad (gA ad sz) 11 0 0 (MQ below (va_Qi (fun r1 (_ : Unit) => r1 = r) (fun _ t => va_P D vwCl (gw cI cJ ad σ') t.heap) (gA ad sz)) args s 0 0 (gA ad sz)) σ 71 [(0, .ref (ad 28)), (1, .int l1), (2, .int l2), (3, .int l3), (4, .int l4)] [.int s0]) := by
  unfold F_Model_substitute_B71
  refine g_istore (L' := [(5, .int s0), (0, .ref (ad 28)), (1, .int l1), (2, .int l2), (3, .int l3), (4, .int l4)]) C dX6_substitute_71 (by decide) rfl ?_
  refine g_iload C 0 dX6_substitute_73 rfl ?_
  refine g_if_eq (tgt := 139) C dX6_substitute_75 (by decide) (fun h1 => ?_) (fun h1 => ?_)
  · refine g_loc [1, 2, 3, 4, 5] rfl ?_
    exact b_Model_substitute_B139 C hr hl p1 p2 p3 l1 l2 l3 l4 σ
  · refine g_aload_n C 1 dX6_substitute_78 rfl rfl ?_
    refine g_iload_n C 2 dX6_substitute_79 rfl rfl ?_
    refine g_iload_n C 3 dX6_substitute_80 rfl rfl ?_
    refine g_callvi (As := [.int l1, .int l2]) (n := 2) C (c_Model_place l hl D cI cJ ad l1 l2) ⟨rfl, rfl⟩ gcl6 rfl qc84 (hR := ⟨Nat.le_of_ble_eq_true rfl, Nat.le_of_ble_eq_true rfl⟩) rfl rfl (Nat.le_of_ble_eq_true rfl) dX6_substitute_81 ⟨Nat.zero_le _, Nat.zero_le _⟩ (fun r3 σ2 => ?_)
    refine g_if_le (tgt := 139) C dX6_substitute_84 (by decide) (fun h4 => ?_) (fun h4 => ?_)
    · refine g_loc [1, 2, 3, 4, 5] rfl ?_
      exact b_Model_substitute_B139 C hr hl p1 p2 p3 l1 l2 l3 l4 σ2
    · refine g_iload_n C 3 dX6_substitute_87 rfl rfl ?_
      refine g_aload_n C 1 dX6_substitute_88 rfl rfl ?_
      refine g_getR (o' := 29) C 28 0 gcl6 rfl (by decide) rfl qw316 dX6_substitute_89 ?_
      refine g_bipush (v := (26 : Int32)) C dX6_substitute_92 (by decide) ?_
      refine g_iload_n C 2 dX6_substitute_94 rfl rfl ?_
      refine g_iadd C dX6_substitute_95 ?_
      refine g_iald (o := 29) (n := 92) C rfl rfl dX6_substitute_96 ?_
      refine g_icmp_eq (tgt := 139) C dX6_substitute_97 (by decide) (fun h5 => ?_) (fun h5 => ?_)
      · refine g_loc [1, 2, 3, 4, 5] rfl ?_
        exact b_Model_substitute_B139 C hr hl p1 p2 p3 l1 l2 l3 l4 σ2
      · refine g_aload_n C 1 dX6_substitute_100 rfl rfl ?_
        refine g_iload_n C 2 dX6_substitute_101 rfl rfl ?_
        refine g_iload_n C 4 dX6_substitute_102 rfl rfl ?_
        refine g_callvi (As := [.int l1, .int l3]) (n := 2) C (c_Model_place l hl D cI cJ ad l1 l3) ⟨rfl, rfl⟩ gcl6 rfl qc84 (hR := ⟨Nat.le_of_ble_eq_true rfl, Nat.le_of_ble_eq_true rfl⟩) rfl rfl (Nat.le_of_ble_eq_true rfl) dX6_substitute_103 ⟨Nat.zero_le _, Nat.zero_le _⟩ (fun r7 σ6 => ?_)
        refine g_if_ne (tgt := 139) C dX6_substitute_106 (by decide) (fun h8 => ?_) (fun h8 => ?_)
        · refine g_iload_n C 4 dX6_substitute_109 rfl rfl ?_
          refine g_aload_n C 1 dX6_substitute_110 rfl rfl ?_
          refine g_getR (o' := 29) C 28 0 gcl6 rfl (by decide) rfl qw316 dX6_substitute_111 ?_
          refine g_bipush (v := (26 : Int32)) C dX6_substitute_114 (by decide) ?_
          refine g_iload_n C 2 dX6_substitute_116 rfl rfl ?_
          refine g_iadd C dX6_substitute_117 ?_
          refine g_iald (o := 29) (n := 92) C rfl rfl dX6_substitute_118 ?_
          refine g_icmp_eq (tgt := 139) C dX6_substitute_119 (by decide) (fun h9 => ?_) (fun h9 => ?_)
          · refine g_loc [1, 2, 3, 4, 5] rfl ?_
            exact b_Model_substitute_B139 C hr hl p1 p2 p3 l1 l2 l3 l4 σ6
          · refine g_iload_n C 4 dX6_substitute_122 rfl rfl ?_
            refine g_aload_n C 1 dX6_substitute_123 rfl rfl ?_
            refine g_getR (o' := 29) C 28 0 gcl6 rfl (by decide) rfl qw316 dX6_substitute_124 ?_
            refine g_bipush (v := (28 : Int32)) C dX6_substitute_127 (by decide) ?_
            refine g_iload_n C 2 dX6_substitute_129 rfl rfl ?_
            refine g_iadd C dX6_substitute_130 ?_
            refine g_iald (o := 29) (n := 92) C rfl rfl dX6_substitute_131 ?_
            refine g_icmp_eq (tgt := 139) C dX6_substitute_132 (by decide) (fun h10 => ?_) (fun h10 => ?_)
            · refine g_loc [1, 2, 3, 4, 5] rfl ?_
              exact b_Model_substitute_B139 C hr hl p1 p2 p3 l1 l2 l3 l4 σ6
            · refine g_iconst (v := (1 : Int32)) C dX6_substitute_135 (by decide) ?_
              refine g_goto (tgt := 140) C dX6_substitute_136 (by decide) ?_
              refine g_loc [1, 2, 3, 4, 5] rfl ?_
              exact b_Model_substitute_B140 C hr hl p1 p2 p3 l1 l2 l3 l4 (1 : Int32) σ6
        · refine g_loc [1, 2, 3, 4, 5] rfl ?_
          exact b_Model_substitute_B139 C hr hl p1 p2 p3 l1 l2 l3 l4 σ6

set_option maxHeartbeats 4000000 in
set_option maxRecDepth 100000 in
theorem b_Model_substitute_B70 {p : Program} {l : Launch} {e : Env} {s : State} {m : MethodId} {args : Array Value} {below : List Frame} {meth : Method} {c : Code} {D : va_G} {cI cJ : ClassId} {ad : Nat → Nat} {sz : Nat} {r : Int32} {σ' : gSt} (C : gC p s m args meth c D cI cJ ad (gA ad sz) cX6_substitute 11 RX6) (hr : meth.sig.returnType = (some .int)) (hl : l.stackTraces = false) (p1 : Int32) (p2 : Int32) (p3 : Int32) (l1 : Int32) (l2 : Int32) (l3 : Int32) (l4 : Int32) (σ : gSt) : gX (F_Model_substitute_B70 p1 p2 p3 l1 l2 l3 l4 σ) (r, σ') (gG p l e { frames := 2, cells := 0, slots := 0, locals := 45 } s m args below meth c D cI cJ ad (gA ad sz) 11 0 0 (MQ below (va_Qi (fun r1 (_ : Unit) => r1 = r) (fun _ t => va_P D vwCl (gw cI cJ ad σ') t.heap) (gA ad sz)) args s 0 0 (gA ad sz)) σ 70 [(0, .ref (ad 28)), (1, .int l1), (2, .int l2), (3, .int l3), (4, .int l4)] []) := by
  unfold F_Model_substitute_B70
  refine g_iconst (v := (0 : Int32)) C dX6_substitute_70 (by decide) ?_
  refine g_loc [0, 1, 2, 3, 4] rfl ?_
  exact b_Model_substitute_B71 C hr hl p1 p2 p3 l1 l2 l3 l4 (0 : Int32) σ

set_option maxHeartbeats 4000000 in
set_option maxRecDepth 100000 in
theorem b_Model_substitute_B26 {p : Program} {l : Launch} {e : Env} {s : State} {m : MethodId} {args : Array Value} {below : List Frame} {meth : Method} {c : Code} {D : va_G} {cI cJ : ClassId} {ad : Nat → Nat} {sz : Nat} {r : Int32} {σ' : gSt} (C : gC p s m args meth c D cI cJ ad (gA ad sz) cX6_substitute 11 RX6) (hr : meth.sig.returnType = (some .int)) (hl : l.stackTraces = false) (p1 : Int32) (p2 : Int32) (p3 : Int32) (l1 : Int32) (l2 : Int32) (l3 : Int32) (s0 : Int32) (σ : gSt) : gX (F_Model_substitute_B26 p1 p2 p3 l1 l2 l3 s0 σ) (r, σ') (gG p l e { frames := 2, cells := 0, slots := 0, locals := 45 } s m args below meth c D cI cJ ad (gA ad sz) 11 0 0 (MQ below (va_Qi (fun r1 (_ : Unit) => r1 = r) (fun _ t => va_P D vwCl (gw cI cJ ad σ') t.heap) (gA ad sz)) args s 0 0 (gA ad sz)) σ 26 [(0, .ref (ad 28)), (1, .int l1), (2, .int l2), (3, .int l3)] [.int s0]) := by
  unfold F_Model_substitute_B26
  refine g_istore (L' := [(4, .int s0), (0, .ref (ad 28)), (1, .int l1), (2, .int l2), (3, .int l3)]) C dX6_substitute_26 (by decide) rfl ?_
  refine g_iload C 0 dX6_substitute_28 rfl ?_
  refine g_if_eq (tgt := 70) C dX6_substitute_30 (by decide) (fun h1 => ?_) (fun h1 => ?_)
  · refine g_loc [1, 2, 3, 4, 0] rfl ?_
    exact b_Model_substitute_B70 C hr hl p1 p2 p3 l1 l2 l3 s0 σ
  · refine g_aload_n C 1 dX6_substitute_33 rfl rfl ?_
    refine g_getR (o' := 29) C 28 0 gcl6 rfl (by decide) rfl qw316 dX6_substitute_34 ?_
    refine g_iconst (v := (0 : Int32)) C dX6_substitute_37 (by decide) ?_
    refine g_ialdL (o := 29) (n := 92) C 0 ⟨by decide, by unfold vp_in; decide⟩ rfl rfl dX6_substitute_38 ?_
    refine g_iconst (v := (1 : Int32)) C dX6_substitute_39 (by decide) ?_
    refine g_icmp_ne (tgt := 70) C dX6_substitute_40 (by decide) (fun h2 => ?_) (fun h2 => ?_)
    · refine g_aload_n C 1 dX6_substitute_43 rfl rfl ?_
      refine g_getR (o' := 29) C 28 0 gcl6 rfl (by decide) rfl qw316 dX6_substitute_44 ?_
      refine g_iconst (v := (1 : Int32)) C dX6_substitute_47 (by decide) ?_
      refine g_ialdL (o := 29) (n := 92) C 1 ⟨by decide, by unfold vp_in; decide⟩ rfl rfl dX6_substitute_48 ?_
      refine g_if_ne (tgt := 70) C dX6_substitute_49 (by decide) (fun h3 => ?_) (fun h3 => ?_)
      · refine g_aload_n C 1 dX6_substitute_52 rfl rfl ?_
        refine g_getR (o' := 29) C 28 0 gcl6 rfl (by decide) rfl qw316 dX6_substitute_53 ?_
        refine g_bipush (v := (32 : Int32)) C dX6_substitute_56 (by decide) ?_
        refine g_iload_n C 2 dX6_substitute_58 rfl rfl ?_
        refine g_iadd C dX6_substitute_59 ?_
        refine g_iald (o := 29) (n := 92) C rfl rfl dX6_substitute_60 ?_
        refine g_bipush (v := (6 : Int32)) C dX6_substitute_61 (by decide) ?_
        refine g_icmp_ge (tgt := 70) C dX6_substitute_63 (by decide) (fun h4 => ?_) (fun h4 => ?_)
        · refine g_loc [1, 2, 3, 4, 0] rfl ?_
          exact b_Model_substitute_B70 C hr hl p1 p2 p3 l1 l2 l3 s0 σ
        · refine g_iconst (v := (1 : Int32)) C dX6_substitute_66 (by decide) ?_
          refine g_goto (tgt := 71) C dX6_substitute_67 (by decide) ?_
          refine g_loc [1, 2, 3, 4, 0] rfl ?_
          exact b_Model_substitute_B71 C hr hl p1 p2 p3 l1 l2 l3 s0 (1 : Int32) σ
      · refine g_loc [1, 2, 3, 4, 0] rfl ?_
        exact b_Model_substitute_B70 C hr hl p1 p2 p3 l1 l2 l3 s0 σ
    · refine g_loc [1, 2, 3, 4, 0] rfl ?_
      exact b_Model_substitute_B70 C hr hl p1 p2 p3 l1 l2 l3 s0 σ

set_option maxHeartbeats 4000000 in
set_option maxRecDepth 100000 in
theorem b_Model_substitute_B25 {p : Program} {l : Launch} {e : Env} {s : State} {m : MethodId} {args : Array Value} {below : List Frame} {meth : Method} {c : Code} {D : va_G} {cI cJ : ClassId} {ad : Nat → Nat} {sz : Nat} {r : Int32} {σ' : gSt} (C : gC p s m args meth c D cI cJ ad (gA ad sz) cX6_substitute 11 RX6) (hr : meth.sig.returnType = (some .int)) (hl : l.stackTraces = false) (p1 : Int32) (p2 : Int32) (p3 : Int32) (l1 : Int32) (l2 : Int32) (l3 : Int32) (σ : gSt) : gX (F_Model_substitute_B25 p1 p2 p3 l1 l2 l3 σ) (r, σ') (gG p l e { frames := 2, cells := 0, slots := 0, locals := 45 } s m args below meth c D cI cJ ad (gA ad sz) 11 0 0 (MQ below (va_Qi (fun r1 (_ : Unit) => r1 = r) (fun _ t => va_P D vwCl (gw cI cJ ad σ') t.heap) (gA ad sz)) args s 0 0 (gA ad sz)) σ 25 [(0, .ref (ad 28)), (1, .int l1), (2, .int l2), (3, .int l3)] []) := by
  unfold F_Model_substitute_B25
  refine g_iconst (v := (0 : Int32)) C dX6_substitute_25 (by decide) ?_
  refine g_loc [0, 1, 2, 3] rfl ?_
  exact b_Model_substitute_B26 C hr hl p1 p2 p3 l1 l2 l3 (0 : Int32) σ

set_option maxHeartbeats 4000000 in
set_option maxRecDepth 100000 in
theorem c_Model_substitute (l : Launch) (hl : l.stackTraces = false) (D : va_G) (cI cJ : ClassId) (ad : Nat → Nat) (p1 : Int32) (p2 : Int32) (p3 : Int32) : gMi l D cI cJ ad yX6_substitute cX6_substitute 11 (some .int) { frames := 2, cells := 0, slots := 0, locals := 45 } [.ref (ad 28), .int p1, .int p2, .int p3] (F_Model_substitute p1 p2 p3) := by
  refine gStartI (L0 := [(0, .ref (ad 28)), (1, .int p1), (2, .int p2), (3, .int p3)]) RX6 (by decide) rfl rfl (Nat.le_of_ble_eq_true rfl) ?_
  intro p e s m args below meth c sz σ r σ' C hr
  unfold F_Model_substitute
  refine g_iload_n C 1 dX6_substitute_0 rfl rfl ?_
  refine g_callsi (As := [.int p1]) (n := 1) C (c_Model_isTeam l hl D cI cJ ad p1) ⟨rfl, rfl⟩ qc80 (hR := ⟨Nat.le_of_ble_eq_true rfl, Nat.le_of_ble_eq_true rfl⟩) rfl rfl (Nat.le_of_ble_eq_true rfl) dX6_substitute_1 ⟨Nat.zero_le _, Nat.zero_le _⟩ (fun r2 σ1 => ?_)
  refine g_if_eq (tgt := 25) C dX6_substitute_4 (by decide) (fun h3 => ?_) (fun h3 => ?_)
  · refine g_loc [0, 1, 2, 3] rfl ?_
    exact b_Model_substitute_B25 C hr hl p1 p2 p3 p1 p2 p3 σ1
  · refine g_iload_n C 2 dX6_substitute_7 rfl rfl ?_
    refine g_callsi (As := [.int p2]) (n := 1) C (c_Model_isShirt l hl D cI cJ ad p2) ⟨rfl, rfl⟩ qc83 (hR := ⟨Nat.le_of_ble_eq_true rfl, Nat.le_of_ble_eq_true rfl⟩) rfl rfl (Nat.le_of_ble_eq_true rfl) dX6_substitute_8 ⟨Nat.zero_le _, Nat.zero_le _⟩ (fun r5 σ4 => ?_)
    refine g_if_eq (tgt := 25) C dX6_substitute_11 (by decide) (fun h6 => ?_) (fun h6 => ?_)
    · refine g_loc [0, 1, 2, 3] rfl ?_
      exact b_Model_substitute_B25 C hr hl p1 p2 p3 p1 p2 p3 σ4
    · refine g_iload_n C 3 dX6_substitute_14 rfl rfl ?_
      refine g_callsi (As := [.int p3]) (n := 1) C (c_Model_isShirt l hl D cI cJ ad p3) ⟨rfl, rfl⟩ qc83 (hR := ⟨Nat.le_of_ble_eq_true rfl, Nat.le_of_ble_eq_true rfl⟩) rfl rfl (Nat.le_of_ble_eq_true rfl) dX6_substitute_15 ⟨Nat.zero_le _, Nat.zero_le _⟩ (fun r8 σ7 => ?_)
      refine g_if_eq (tgt := 25) C dX6_substitute_18 (by decide) (fun h9 => ?_) (fun h9 => ?_)
      · refine g_loc [0, 1, 2, 3] rfl ?_
        exact b_Model_substitute_B25 C hr hl p1 p2 p3 p1 p2 p3 σ7
      · refine g_iconst (v := (1 : Int32)) C dX6_substitute_21 (by decide) ?_
        refine g_goto (tgt := 26) C dX6_substitute_22 (by decide) ?_
        refine g_loc [0, 1, 2, 3] rfl ?_
        exact b_Model_substitute_B26 C hr hl p1 p2 p3 p1 p2 p3 (1 : Int32) σ7

def F_Model_challenge_B113 (p1 : Int32) : Nat → Int32 → Int32 → gSt → Option (Int32 × gSt)
  | 0, _, _, _ => none
  | n + 1, l1, l4, σ => if (92 : Int32) ≤ l4 then (gbv (F_Model_wins l1 (8 : Int32) σ) fun σ2 => gl (gup σ2 29 41 (0 : Int32)) fun σ3 => some ((1 : Int32), σ3)) else (if l4 < 0 ∨ 92 ≤ l4.toNatClampNeg then none else if l4 < 0 ∨ 92 ≤ l4.toNatClampNeg then none else gl (gup σ 29 l4.toNatClampNeg (σ 30 l4.toNatClampNeg)) fun σ4 => F_Model_challenge_B113 p1 n l1 (l4 + (1 : Int32)) σ4)

def F_Model_challenge_B67 (p1 : Int32) (l1 : Int32) (s0 : Int32) (σ : gSt) : Option (Int32 × gSt) := gbi (F_Model_goes s0 σ) fun r2 σ1 => if r2 = (0 : Int32) then (some ((0 : Int32), σ1)) else (if ((39 : Int32) - l1) < 0 ∨ 92 ≤ ((39 : Int32) - l1).toNatClampNeg then none else if (σ1 29 ((39 : Int32) - l1).toNatClampNeg) = (0 : Int32) then (gl (gup σ1 29 41 (0 : Int32)) fun σ5 => if ((34 : Int32) + l1) < 0 ∨ 92 ≤ ((34 : Int32) + l1).toNatClampNeg then none else if ((34 : Int32) + l1) < 0 ∨ 92 ≤ ((34 : Int32) + l1).toNatClampNeg then none else gl (gup σ5 29 ((34 : Int32) + l1).toNatClampNeg ((σ5 29 ((34 : Int32) + l1).toNatClampNeg) - (1 : Int32))) fun σ6 => some ((0 : Int32), σ6)) else (F_Model_challenge_B113 p1 100 l1 (0 : Int32) σ1))

def F_Model_challenge_B48 (p1 : Int32) (l1 : Int32) (l2 : Int32) (s0 : Int32) (σ : gSt) : Option (Int32 × gSt) := if l2 = (0 : Int32) then (F_Model_challenge_B67 p1 l1 (1 : Int32) σ) else (if s0 = (0 : Int32) then (F_Model_challenge_B67 p1 l1 (2 : Int32) σ) else (F_Model_challenge_B67 p1 l1 (0 : Int32) σ))

def F_Model_challenge_B47 (p1 : Int32) (l1 : Int32) (l2 : Int32) (σ : gSt) : Option (Int32 × gSt) := F_Model_challenge_B48 p1 l1 l2 (0 : Int32) σ

def F_Model_challenge (p1 : Int32) (σ : gSt) : Option (Int32 × gSt) := gbi (F_Model_isTeam p1 σ) fun r2 σ1 => if r2 = (0 : Int32) then (F_Model_challenge_B47 p1 p1 r2 σ1) else (if (σ1 29 41) = (1 : Int32) then (if (σ1 29 40) = p1 then (if ((34 : Int32) + p1) < 0 ∨ 92 ≤ ((34 : Int32) + p1).toNatClampNeg then none else if (σ1 29 ((34 : Int32) + p1).toNatClampNeg) ≤ (0 : Int32) then (F_Model_challenge_B47 p1 p1 r2 σ1) else (F_Model_challenge_B48 p1 p1 r2 (1 : Int32) σ1)) else (F_Model_challenge_B47 p1 p1 r2 σ1)) else (F_Model_challenge_B47 p1 p1 r2 σ1))

set_option maxHeartbeats 4000000 in
set_option maxRecDepth 100000 in
theorem b_Model_challenge_B113 {p : Program} {l : Launch} {e : Env} {s : State} {m : MethodId} {args : Array Value} {below : List Frame} {meth : Method} {c : Code} {D : va_G} {cI cJ : ClassId} {ad : Nat → Nat} {sz : Nat} {r : Int32} {σ' : gSt} (C : gC p s m args meth c D cI cJ ad (gA ad sz) cX6_challenge 5 RX6) (hr : meth.sig.returnType = (some .boolean)) (hl : l.stackTraces = false) (p1 : Int32) : ∀ (n : Nat) (l1 : Int32) (l4 : Int32) (σ : gSt), gX (F_Model_challenge_B113 p1 n l1 l4 σ) (r, σ') (gG p l e { frames := 4, cells := 0, slots := 0, locals := 90 } s m args below meth c D cI cJ ad (gA ad sz) 5 0 0 (MQ below (va_Qi (fun r1 (_ : Unit) => r1 = r) (fun _ t => va_P D vwCl (gw cI cJ ad σ') t.heap) (gA ad sz)) args s 0 0 (gA ad sz)) σ 113 [(0, .ref (ad 28)), (1, .int l1), (4, .int l4)] []) := by
  intro n
  induction n with
  | zero =>
    intro l1 l4 σ
    unfold F_Model_challenge_B113
    exact gX_none
  | succ n ih =>
    intro l1 l4 σ
    unfold F_Model_challenge_B113
    refine g_iload C 2 dX6_challenge_113 rfl ?_
    refine g_bipush (v := (92 : Int32)) C dX6_challenge_115 (by decide) ?_
    refine g_icmp_ge (tgt := 140) C dX6_challenge_117 (by decide) (fun h1 => ?_) (fun h1 => ?_)
    · refine g_aload_n C 0 dX6_challenge_140 rfl rfl ?_
      refine g_iload_n C 1 dX6_challenge_141 rfl rfl ?_
      refine g_bipush (v := (8 : Int32)) C dX6_challenge_142 (by decide) ?_
      refine g_callvv (As := [.int l1, .int (8 : Int32)]) (n := 2) C (c_Model_wins l hl D cI cJ ad l1 (8 : Int32)) ⟨rfl, rfl⟩ gcl6 rfl qc88 (hR := ⟨Nat.le_of_ble_eq_true rfl, Nat.le_of_ble_eq_true rfl⟩) rfl rfl (Nat.le_of_ble_eq_true rfl) dX6_challenge_144 ⟨Nat.zero_le _, Nat.zero_le _⟩ (fun σ2 => ?_)
      refine g_aload_n C 0 dX6_challenge_147 rfl rfl ?_
      refine g_getR (o' := 29) C 28 0 gcl6 rfl (by decide) rfl qw316 dX6_challenge_148 ?_
      refine g_bipush (v := (41 : Int32)) C dX6_challenge_151 (by decide) ?_
      refine g_iconst (v := (0 : Int32)) C dX6_challenge_153 (by decide) ?_
      refine g_iastL (o := 29) (n := 92) C 41 ⟨by decide, by unfold vp_in; decide⟩ rfl rfl dX6_challenge_154 (fun σ3 => ?_)
      refine g_iconst (v := (1 : Int32)) C dX6_challenge_155 (by decide) ?_
      exact g_iretz C (by decide) hr dX6_challenge_156
    · refine g_aload_n C 0 dX6_challenge_120 rfl rfl ?_
      refine g_getR (o' := 29) C 28 0 gcl6 rfl (by decide) rfl qw316 dX6_challenge_121 ?_
      refine g_iload C 2 dX6_challenge_124 rfl ?_
      refine g_aload_n C 0 dX6_challenge_126 rfl rfl ?_
      refine g_getR (o' := 30) C 28 1 gcl6 rfl (by decide) rfl qw358 dX6_challenge_127 ?_
      refine g_iload C 2 dX6_challenge_130 rfl ?_
      refine g_iald (o := 30) (n := 92) C rfl rfl dX6_challenge_132 ?_
      refine g_iast (o := 29) (n := 92) C rfl rfl dX6_challenge_133 (fun σ4 => ?_)
      refine g_iinc (v := (l4 + (1 : Int32))) (L' := [(4, .int (l4 + (1 : Int32))), (0, .ref (ad 28)), (1, .int l1)]) C 2 dX6_challenge_134 rfl (by rfl) (by decide) rfl ?_
      refine g_goto (tgt := 113) C dX6_challenge_137 (by decide) ?_
      refine g_loc [1, 2, 0] rfl ?_
      exact ih l1 (l4 + (1 : Int32)) σ4

set_option maxHeartbeats 4000000 in
set_option maxRecDepth 100000 in
theorem b_Model_challenge_B67 {p : Program} {l : Launch} {e : Env} {s : State} {m : MethodId} {args : Array Value} {below : List Frame} {meth : Method} {c : Code} {D : va_G} {cI cJ : ClassId} {ad : Nat → Nat} {sz : Nat} {r : Int32} {σ' : gSt} (C : gC p s m args meth c D cI cJ ad (gA ad sz) cX6_challenge 5 RX6) (hr : meth.sig.returnType = (some .boolean)) (hl : l.stackTraces = false) (p1 : Int32) (l1 : Int32) (s0 : Int32) (σ : gSt) : gX (F_Model_challenge_B67 p1 l1 s0 σ) (r, σ') (gG p l e { frames := 4, cells := 0, slots := 0, locals := 90 } s m args below meth c D cI cJ ad (gA ad sz) 5 0 0 (MQ below (va_Qi (fun r1 (_ : Unit) => r1 = r) (fun _ t => va_P D vwCl (gw cI cJ ad σ') t.heap) (gA ad sz)) args s 0 0 (gA ad sz)) σ 67 [(0, .ref (ad 28)), (1, .int l1)] [.int s0, .ref (ad 28)]) := by
  unfold F_Model_challenge_B67
  refine g_callvi (As := [.int s0]) (n := 1) C (c_Model_goes l hl D cI cJ ad s0) ⟨rfl, rfl⟩ gcl6 rfl qc81 (hR := ⟨Nat.le_of_ble_eq_true rfl, Nat.le_of_ble_eq_true rfl⟩) rfl rfl (Nat.le_of_ble_eq_true rfl) dX6_challenge_67 ⟨Nat.zero_le _, Nat.zero_le _⟩ (fun r2 σ1 => ?_)
  refine g_if_ne (tgt := 75) C dX6_challenge_70 (by decide) (fun h3 => ?_) (fun h3 => ?_)
  · refine g_iconst (v := (0 : Int32)) C dX6_challenge_73 (by decide) ?_
    exact g_iretz C (by decide) hr dX6_challenge_74
  · refine g_aload_n C 0 dX6_challenge_75 rfl rfl ?_
    refine g_getR (o' := 29) C 28 0 gcl6 rfl (by decide) rfl qw316 dX6_challenge_76 ?_
    refine g_bipush (v := (39 : Int32)) C dX6_challenge_79 (by decide) ?_
    refine g_iload_n C 1 dX6_challenge_81 rfl rfl ?_
    refine g_isub C dX6_challenge_82 ?_
    refine g_iald (o := 29) (n := 92) C rfl rfl dX6_challenge_83 ?_
    refine g_if_ne (tgt := 110) C dX6_challenge_84 (by decide) (fun h4 => ?_) (fun h4 => ?_)
    · refine g_aload_n C 0 dX6_challenge_87 rfl rfl ?_
      refine g_getR (o' := 29) C 28 0 gcl6 rfl (by decide) rfl qw316 dX6_challenge_88 ?_
      refine g_bipush (v := (41 : Int32)) C dX6_challenge_91 (by decide) ?_
      refine g_iconst (v := (0 : Int32)) C dX6_challenge_93 (by decide) ?_
      refine g_iastL (o := 29) (n := 92) C 41 ⟨by decide, by unfold vp_in; decide⟩ rfl rfl dX6_challenge_94 (fun σ5 => ?_)
      refine g_aload_n C 0 dX6_challenge_95 rfl rfl ?_
      refine g_getR (o' := 29) C 28 0 gcl6 rfl (by decide) rfl qw316 dX6_challenge_96 ?_
      refine g_bipush (v := (34 : Int32)) C dX6_challenge_99 (by decide) ?_
      refine g_iload_n C 1 dX6_challenge_101 rfl rfl ?_
      refine g_iadd C dX6_challenge_102 ?_
      refine g_dup2 C dX6_challenge_103 rfl rfl ?_
      refine g_iald (o := 29) (n := 92) C rfl rfl dX6_challenge_104 ?_
      refine g_iconst (v := (1 : Int32)) C dX6_challenge_105 (by decide) ?_
      refine g_isub C dX6_challenge_106 ?_
      refine g_iast (o := 29) (n := 92) C rfl rfl dX6_challenge_107 (fun σ6 => ?_)
      refine g_iconst (v := (0 : Int32)) C dX6_challenge_108 (by decide) ?_
      exact g_iretz C (by decide) hr dX6_challenge_109
    · refine g_iconst (v := (0 : Int32)) C dX6_challenge_110 (by decide) ?_
      refine g_istore (L' := [(4, .int (0 : Int32)), (0, .ref (ad 28)), (1, .int l1)]) C dX6_challenge_111 (by decide) rfl ?_
      refine g_loc [1, 2, 0] rfl ?_
      exact b_Model_challenge_B113 C hr hl p1 100 l1 (0 : Int32) σ1

set_option maxHeartbeats 4000000 in
set_option maxRecDepth 100000 in
theorem b_Model_challenge_B48 {p : Program} {l : Launch} {e : Env} {s : State} {m : MethodId} {args : Array Value} {below : List Frame} {meth : Method} {c : Code} {D : va_G} {cI cJ : ClassId} {ad : Nat → Nat} {sz : Nat} {r : Int32} {σ' : gSt} (C : gC p s m args meth c D cI cJ ad (gA ad sz) cX6_challenge 5 RX6) (hr : meth.sig.returnType = (some .boolean)) (hl : l.stackTraces = false) (p1 : Int32) (l1 : Int32) (l2 : Int32) (s0 : Int32) (σ : gSt) : gX (F_Model_challenge_B48 p1 l1 l2 s0 σ) (r, σ') (gG p l e { frames := 4, cells := 0, slots := 0, locals := 90 } s m args below meth c D cI cJ ad (gA ad sz) 5 0 0 (MQ below (va_Qi (fun r1 (_ : Unit) => r1 = r) (fun _ t => va_P D vwCl (gw cI cJ ad σ') t.heap) (gA ad sz)) args s 0 0 (gA ad sz)) σ 48 [(0, .ref (ad 28)), (1, .int l1), (2, .int l2)] [.int s0]) := by
  unfold F_Model_challenge_B48
  refine g_istore_n (L' := [(3, .int s0), (0, .ref (ad 28)), (1, .int l1), (2, .int l2)]) C dX6_challenge_48 rfl (by decide) rfl ?_
  refine g_aload_n C 1 dX6_challenge_49 rfl rfl ?_
  refine g_iload_n C 3 dX6_challenge_50 rfl rfl ?_
  refine g_if_ne (tgt := 58) C dX6_challenge_51 (by decide) (fun h1 => ?_) (fun h1 => ?_)
  · refine g_iconst (v := (1 : Int32)) C dX6_challenge_54 (by decide) ?_
    refine g_goto (tgt := 67) C dX6_challenge_55 (by decide) ?_
    refine g_loc [1, 2] rfl ?_
    exact b_Model_challenge_B67 C hr hl p1 l1 (1 : Int32) σ
  · refine g_iload_n C 0 dX6_challenge_58 rfl rfl ?_
    refine g_if_eq (tgt := 66) C dX6_challenge_59 (by decide) (fun h2 => ?_) (fun h2 => ?_)
    · refine g_iconst (v := (2 : Int32)) C dX6_challenge_66 (by decide) ?_
      refine g_loc [1, 2] rfl ?_
      exact b_Model_challenge_B67 C hr hl p1 l1 (2 : Int32) σ
    · refine g_iconst (v := (0 : Int32)) C dX6_challenge_62 (by decide) ?_
      refine g_goto (tgt := 67) C dX6_challenge_63 (by decide) ?_
      refine g_loc [1, 2] rfl ?_
      exact b_Model_challenge_B67 C hr hl p1 l1 (0 : Int32) σ

set_option maxHeartbeats 4000000 in
set_option maxRecDepth 100000 in
theorem b_Model_challenge_B47 {p : Program} {l : Launch} {e : Env} {s : State} {m : MethodId} {args : Array Value} {below : List Frame} {meth : Method} {c : Code} {D : va_G} {cI cJ : ClassId} {ad : Nat → Nat} {sz : Nat} {r : Int32} {σ' : gSt} (C : gC p s m args meth c D cI cJ ad (gA ad sz) cX6_challenge 5 RX6) (hr : meth.sig.returnType = (some .boolean)) (hl : l.stackTraces = false) (p1 : Int32) (l1 : Int32) (l2 : Int32) (σ : gSt) : gX (F_Model_challenge_B47 p1 l1 l2 σ) (r, σ') (gG p l e { frames := 4, cells := 0, slots := 0, locals := 90 } s m args below meth c D cI cJ ad (gA ad sz) 5 0 0 (MQ below (va_Qi (fun r1 (_ : Unit) => r1 = r) (fun _ t => va_P D vwCl (gw cI cJ ad σ') t.heap) (gA ad sz)) args s 0 0 (gA ad sz)) σ 47 [(0, .ref (ad 28)), (1, .int l1), (2, .int l2)] []) := by
  unfold F_Model_challenge_B47
  refine g_iconst (v := (0 : Int32)) C dX6_challenge_47 (by decide) ?_
  refine g_loc [0, 1, 2] rfl ?_
  exact b_Model_challenge_B48 C hr hl p1 l1 l2 (0 : Int32) σ

set_option maxHeartbeats 4000000 in
set_option maxRecDepth 100000 in
theorem c_Model_challenge (l : Launch) (hl : l.stackTraces = false) (D : va_G) (cI cJ : ClassId) (ad : Nat → Nat) (p1 : Int32) : gMi l D cI cJ ad yX6_challenge cX6_challenge 5 (some .boolean) { frames := 4, cells := 0, slots := 0, locals := 90 } [.ref (ad 28), .int p1] (F_Model_challenge p1) := by
  refine gStartI (L0 := [(0, .ref (ad 28)), (1, .int p1)]) RX6 (by decide) rfl rfl (Nat.le_of_ble_eq_true rfl) ?_
  intro p e s m args below meth c sz σ r σ' C hr
  unfold F_Model_challenge
  refine g_iload_n C 1 dX6_challenge_0 rfl rfl ?_
  refine g_callsi (As := [.int p1]) (n := 1) C (c_Model_isTeam l hl D cI cJ ad p1) ⟨rfl, rfl⟩ qc80 (hR := ⟨Nat.le_of_ble_eq_true rfl, Nat.le_of_ble_eq_true rfl⟩) rfl rfl (Nat.le_of_ble_eq_true rfl) dX6_challenge_1 ⟨Nat.zero_le _, Nat.zero_le _⟩ (fun r2 σ1 => ?_)
  refine g_istore_n (L' := [(2, .int r2), (0, .ref (ad 28)), (1, .int p1)]) C dX6_challenge_4 rfl (by decide) rfl ?_
  refine g_iload_n C 0 dX6_challenge_5 rfl rfl ?_
  refine g_if_eq (tgt := 47) C dX6_challenge_6 (by decide) (fun h3 => ?_) (fun h3 => ?_)
  · refine g_loc [1, 2, 0] rfl ?_
    exact b_Model_challenge_B47 C hr hl p1 p1 r2 σ1
  · refine g_aload_n C 1 dX6_challenge_9 rfl rfl ?_
    refine g_getR (o' := 29) C 28 0 gcl6 rfl (by decide) rfl qw316 dX6_challenge_10 ?_
    refine g_bipush (v := (41 : Int32)) C dX6_challenge_13 (by decide) ?_
    refine g_ialdL (o := 29) (n := 92) C 41 ⟨by decide, by unfold vp_in; decide⟩ rfl rfl dX6_challenge_15 ?_
    refine g_iconst (v := (1 : Int32)) C dX6_challenge_16 (by decide) ?_
    refine g_icmp_ne (tgt := 47) C dX6_challenge_17 (by decide) (fun h4 => ?_) (fun h4 => ?_)
    · refine g_aload_n C 1 dX6_challenge_20 rfl rfl ?_
      refine g_getR (o' := 29) C 28 0 gcl6 rfl (by decide) rfl qw316 dX6_challenge_21 ?_
      refine g_bipush (v := (40 : Int32)) C dX6_challenge_24 (by decide) ?_
      refine g_ialdL (o := 29) (n := 92) C 40 ⟨by decide, by unfold vp_in; decide⟩ rfl rfl dX6_challenge_26 ?_
      refine g_iload_n C 2 dX6_challenge_27 rfl rfl ?_
      refine g_icmp_ne (tgt := 47) C dX6_challenge_28 (by decide) (fun h5 => ?_) (fun h5 => ?_)
      · refine g_aload_n C 1 dX6_challenge_31 rfl rfl ?_
        refine g_getR (o' := 29) C 28 0 gcl6 rfl (by decide) rfl qw316 dX6_challenge_32 ?_
        refine g_bipush (v := (34 : Int32)) C dX6_challenge_35 (by decide) ?_
        refine g_iload_n C 2 dX6_challenge_37 rfl rfl ?_
        refine g_iadd C dX6_challenge_38 ?_
        refine g_iald (o := 29) (n := 92) C rfl rfl dX6_challenge_39 ?_
        refine g_if_le (tgt := 47) C dX6_challenge_40 (by decide) (fun h6 => ?_) (fun h6 => ?_)
        · refine g_loc [1, 2, 0] rfl ?_
          exact b_Model_challenge_B47 C hr hl p1 p1 r2 σ1
        · refine g_iconst (v := (1 : Int32)) C dX6_challenge_43 (by decide) ?_
          refine g_goto (tgt := 48) C dX6_challenge_44 (by decide) ?_
          refine g_loc [1, 2, 0] rfl ?_
          exact b_Model_challenge_B48 C hr hl p1 p1 r2 (1 : Int32) σ1
      · refine g_loc [1, 2, 0] rfl ?_
        exact b_Model_challenge_B47 C hr hl p1 p1 r2 σ1
    · refine g_loc [1, 2, 0] rfl ?_
      exact b_Model_challenge_B47 C hr hl p1 p1 r2 σ1

def F_Model_points_B13 (p1 : Int32) (l1 : Int32) (s0 : Int32) (σ : gSt) : Option (Int32 × gSt) := gbi (F_Model_goes s0 σ) fun r2 σ1 => if r2 = (0 : Int32) then (some ((0 : Int32), σ1)) else (if ((10 : Int32) + l1) < 0 ∨ 92 ≤ ((10 : Int32) + l1).toNatClampNeg then none else some ((σ1 29 ((10 : Int32) + l1).toNatClampNeg), σ1))

def F_Model_points (p1 : Int32) (σ : gSt) : Option (Int32 × gSt) := gbi (F_Model_isTeam p1 σ) fun r2 σ1 => if r2 = (0 : Int32) then (F_Model_points_B13 p1 p1 (1 : Int32) σ1) else (F_Model_points_B13 p1 p1 (0 : Int32) σ1)

set_option maxHeartbeats 4000000 in
set_option maxRecDepth 100000 in
theorem b_Model_points_B13 {p : Program} {l : Launch} {e : Env} {s : State} {m : MethodId} {args : Array Value} {below : List Frame} {meth : Method} {c : Code} {D : va_G} {cI cJ : ClassId} {ad : Nat → Nat} {sz : Nat} {r : Int32} {σ' : gSt} (C : gC p s m args meth c D cI cJ ad (gA ad sz) cX6_points 2 RX6) (hr : meth.sig.returnType = (some .int)) (hl : l.stackTraces = false) (p1 : Int32) (l1 : Int32) (s0 : Int32) (σ : gSt) : gX (F_Model_points_B13 p1 l1 s0 σ) (r, σ') (gG p l e { frames := 2, cells := 0, slots := 0, locals := 42 } s m args below meth c D cI cJ ad (gA ad sz) 2 0 0 (MQ below (va_Qi (fun r1 (_ : Unit) => r1 = r) (fun _ t => va_P D vwCl (gw cI cJ ad σ') t.heap) (gA ad sz)) args s 0 0 (gA ad sz)) σ 13 [(0, .ref (ad 28)), (1, .int l1)] [.int s0, .ref (ad 28)]) := by
  unfold F_Model_points_B13
  refine g_callvi (As := [.int s0]) (n := 1) C (c_Model_goes l hl D cI cJ ad s0) ⟨rfl, rfl⟩ gcl6 rfl qc81 (hR := ⟨Nat.le_of_ble_eq_true rfl, Nat.le_of_ble_eq_true rfl⟩) rfl rfl (Nat.le_of_ble_eq_true rfl) dX6_points_13 ⟨Nat.zero_le _, Nat.zero_le _⟩ (fun r2 σ1 => ?_)
  refine g_if_eq (tgt := 31) C dX6_points_16 (by decide) (fun h3 => ?_) (fun h3 => ?_)
  · refine g_iconst (v := (0 : Int32)) C dX6_points_31 (by decide) ?_
    exact g_ireti C hr dX6_points_32
  · refine g_aload_n C 0 dX6_points_19 rfl rfl ?_
    refine g_getR (o' := 29) C 28 0 gcl6 rfl (by decide) rfl qw316 dX6_points_20 ?_
    refine g_bipush (v := (10 : Int32)) C dX6_points_23 (by decide) ?_
    refine g_iload_n C 1 dX6_points_25 rfl rfl ?_
    refine g_iadd C dX6_points_26 ?_
    refine g_iald (o := 29) (n := 92) C rfl rfl dX6_points_27 ?_
    refine g_goto (tgt := 32) C dX6_points_28 (by decide) ?_
    exact g_ireti C hr dX6_points_32

set_option maxHeartbeats 4000000 in
set_option maxRecDepth 100000 in
theorem c_Model_points (l : Launch) (hl : l.stackTraces = false) (D : va_G) (cI cJ : ClassId) (ad : Nat → Nat) (p1 : Int32) : gMi l D cI cJ ad yX6_points cX6_points 2 (some .int) { frames := 2, cells := 0, slots := 0, locals := 42 } [.ref (ad 28), .int p1] (F_Model_points p1) := by
  refine gStartI (L0 := [(0, .ref (ad 28)), (1, .int p1)]) RX6 (by decide) rfl rfl (Nat.le_of_ble_eq_true rfl) ?_
  intro p e s m args below meth c sz σ r σ' C hr
  unfold F_Model_points
  refine g_aload_n C 0 dX6_points_0 rfl rfl ?_
  refine g_iload_n C 1 dX6_points_1 rfl rfl ?_
  refine g_callsi (As := [.int p1]) (n := 1) C (c_Model_isTeam l hl D cI cJ ad p1) ⟨rfl, rfl⟩ qc80 (hR := ⟨Nat.le_of_ble_eq_true rfl, Nat.le_of_ble_eq_true rfl⟩) rfl rfl (Nat.le_of_ble_eq_true rfl) dX6_points_2 ⟨Nat.zero_le _, Nat.zero_le _⟩ (fun r2 σ1 => ?_)
  refine g_if_eq (tgt := 12) C dX6_points_5 (by decide) (fun h3 => ?_) (fun h3 => ?_)
  · refine g_iconst (v := (1 : Int32)) C dX6_points_12 (by decide) ?_
    refine g_loc [0, 1] rfl ?_
    exact b_Model_points_B13 C hr hl p1 p1 (1 : Int32) σ1
  · refine g_iconst (v := (0 : Int32)) C dX6_points_8 (by decide) ?_
    refine g_goto (tgt := 13) C dX6_points_9 (by decide) ?_
    refine g_loc [0, 1] rfl ?_
    exact b_Model_points_B13 C hr hl p1 p1 (0 : Int32) σ1

def F_Model_pointsAnew_B13 (p1 : Int32) (l1 : Int32) (s0 : Int32) (σ : gSt) : Option (Int32 × gSt) := gbi (F_Model_goes s0 σ) fun r2 σ1 => if r2 = (0 : Int32) then (some ((0 : Int32), σ1)) else (if ((10 : Int32) + l1) < 0 ∨ 92 ≤ ((10 : Int32) + l1).toNatClampNeg then none else some ((σ1 29 ((10 : Int32) + l1).toNatClampNeg), σ1))

def F_Model_pointsAnew (p1 : Int32) (σ : gSt) : Option (Int32 × gSt) := gbi (F_Model_isTeam p1 σ) fun r2 σ1 => if r2 = (0 : Int32) then (F_Model_pointsAnew_B13 p1 p1 (1 : Int32) σ1) else (F_Model_pointsAnew_B13 p1 p1 (0 : Int32) σ1)

set_option maxHeartbeats 4000000 in
set_option maxRecDepth 100000 in
theorem b_Model_pointsAnew_B13 {p : Program} {l : Launch} {e : Env} {s : State} {m : MethodId} {args : Array Value} {below : List Frame} {meth : Method} {c : Code} {D : va_G} {cI cJ : ClassId} {ad : Nat → Nat} {sz : Nat} {r : Int32} {σ' : gSt} (C : gC p s m args meth c D cI cJ ad (gA ad sz) cX6_pointsAnew 2 RX6) (hr : meth.sig.returnType = (some .int)) (hl : l.stackTraces = false) (p1 : Int32) (l1 : Int32) (s0 : Int32) (σ : gSt) : gX (F_Model_pointsAnew_B13 p1 l1 s0 σ) (r, σ') (gG p l e { frames := 2, cells := 0, slots := 0, locals := 42 } s m args below meth c D cI cJ ad (gA ad sz) 2 0 0 (MQ below (va_Qi (fun r1 (_ : Unit) => r1 = r) (fun _ t => va_P D vwCl (gw cI cJ ad σ') t.heap) (gA ad sz)) args s 0 0 (gA ad sz)) σ 13 [(0, .ref (ad 28)), (1, .int l1)] [.int s0, .ref (ad 28)]) := by
  unfold F_Model_pointsAnew_B13
  refine g_callvi (As := [.int s0]) (n := 1) C (c_Model_goes l hl D cI cJ ad s0) ⟨rfl, rfl⟩ gcl6 rfl qc81 (hR := ⟨Nat.le_of_ble_eq_true rfl, Nat.le_of_ble_eq_true rfl⟩) rfl rfl (Nat.le_of_ble_eq_true rfl) dX6_pointsAnew_13 ⟨Nat.zero_le _, Nat.zero_le _⟩ (fun r2 σ1 => ?_)
  refine g_if_eq (tgt := 31) C dX6_pointsAnew_16 (by decide) (fun h3 => ?_) (fun h3 => ?_)
  · refine g_iconst (v := (0 : Int32)) C dX6_pointsAnew_31 (by decide) ?_
    exact g_ireti C hr dX6_pointsAnew_32
  · refine g_aload_n C 0 dX6_pointsAnew_19 rfl rfl ?_
    refine g_getR (o' := 29) C 28 0 gcl6 rfl (by decide) rfl qw316 dX6_pointsAnew_20 ?_
    refine g_bipush (v := (10 : Int32)) C dX6_pointsAnew_23 (by decide) ?_
    refine g_iload_n C 1 dX6_pointsAnew_25 rfl rfl ?_
    refine g_iadd C dX6_pointsAnew_26 ?_
    refine g_iald (o := 29) (n := 92) C rfl rfl dX6_pointsAnew_27 ?_
    refine g_goto (tgt := 32) C dX6_pointsAnew_28 (by decide) ?_
    exact g_ireti C hr dX6_pointsAnew_32

set_option maxHeartbeats 4000000 in
set_option maxRecDepth 100000 in
theorem c_Model_pointsAnew (l : Launch) (hl : l.stackTraces = false) (D : va_G) (cI cJ : ClassId) (ad : Nat → Nat) (p1 : Int32) : gMi l D cI cJ ad yX6_pointsAnew cX6_pointsAnew 2 (some .int) { frames := 2, cells := 0, slots := 0, locals := 42 } [.ref (ad 28), .int p1] (F_Model_pointsAnew p1) := by
  refine gStartI (L0 := [(0, .ref (ad 28)), (1, .int p1)]) RX6 (by decide) rfl rfl (Nat.le_of_ble_eq_true rfl) ?_
  intro p e s m args below meth c sz σ r σ' C hr
  unfold F_Model_pointsAnew
  refine g_aload_n C 0 dX6_pointsAnew_0 rfl rfl ?_
  refine g_iload_n C 1 dX6_pointsAnew_1 rfl rfl ?_
  refine g_callsi (As := [.int p1]) (n := 1) C (c_Model_isTeam l hl D cI cJ ad p1) ⟨rfl, rfl⟩ qc80 (hR := ⟨Nat.le_of_ble_eq_true rfl, Nat.le_of_ble_eq_true rfl⟩) rfl rfl (Nat.le_of_ble_eq_true rfl) dX6_pointsAnew_2 ⟨Nat.zero_le _, Nat.zero_le _⟩ (fun r2 σ1 => ?_)
  refine g_if_eq (tgt := 12) C dX6_pointsAnew_5 (by decide) (fun h3 => ?_) (fun h3 => ?_)
  · refine g_iconst (v := (1 : Int32)) C dX6_pointsAnew_12 (by decide) ?_
    refine g_loc [0, 1] rfl ?_
    exact b_Model_pointsAnew_B13 C hr hl p1 p1 (1 : Int32) σ1
  · refine g_iconst (v := (0 : Int32)) C dX6_pointsAnew_8 (by decide) ?_
    refine g_goto (tgt := 13) C dX6_pointsAnew_9 (by decide) ?_
    refine g_loc [0, 1] rfl ?_
    exact b_Model_pointsAnew_B13 C hr hl p1 p1 (0 : Int32) σ1

def F_Model_sets_B13 (p1 : Int32) (l1 : Int32) (s0 : Int32) (σ : gSt) : Option (Int32 × gSt) := gbi (F_Model_goes s0 σ) fun r2 σ1 => if r2 = (0 : Int32) then (some ((0 : Int32), σ1)) else (if ((12 : Int32) + l1) < 0 ∨ 92 ≤ ((12 : Int32) + l1).toNatClampNeg then none else some ((σ1 29 ((12 : Int32) + l1).toNatClampNeg), σ1))

def F_Model_sets (p1 : Int32) (σ : gSt) : Option (Int32 × gSt) := gbi (F_Model_isTeam p1 σ) fun r2 σ1 => if r2 = (0 : Int32) then (F_Model_sets_B13 p1 p1 (1 : Int32) σ1) else (F_Model_sets_B13 p1 p1 (0 : Int32) σ1)

set_option maxHeartbeats 4000000 in
set_option maxRecDepth 100000 in
theorem b_Model_sets_B13 {p : Program} {l : Launch} {e : Env} {s : State} {m : MethodId} {args : Array Value} {below : List Frame} {meth : Method} {c : Code} {D : va_G} {cI cJ : ClassId} {ad : Nat → Nat} {sz : Nat} {r : Int32} {σ' : gSt} (C : gC p s m args meth c D cI cJ ad (gA ad sz) cX6_sets 2 RX6) (hr : meth.sig.returnType = (some .int)) (hl : l.stackTraces = false) (p1 : Int32) (l1 : Int32) (s0 : Int32) (σ : gSt) : gX (F_Model_sets_B13 p1 l1 s0 σ) (r, σ') (gG p l e { frames := 2, cells := 0, slots := 0, locals := 42 } s m args below meth c D cI cJ ad (gA ad sz) 2 0 0 (MQ below (va_Qi (fun r1 (_ : Unit) => r1 = r) (fun _ t => va_P D vwCl (gw cI cJ ad σ') t.heap) (gA ad sz)) args s 0 0 (gA ad sz)) σ 13 [(0, .ref (ad 28)), (1, .int l1)] [.int s0, .ref (ad 28)]) := by
  unfold F_Model_sets_B13
  refine g_callvi (As := [.int s0]) (n := 1) C (c_Model_goes l hl D cI cJ ad s0) ⟨rfl, rfl⟩ gcl6 rfl qc81 (hR := ⟨Nat.le_of_ble_eq_true rfl, Nat.le_of_ble_eq_true rfl⟩) rfl rfl (Nat.le_of_ble_eq_true rfl) dX6_sets_13 ⟨Nat.zero_le _, Nat.zero_le _⟩ (fun r2 σ1 => ?_)
  refine g_if_eq (tgt := 31) C dX6_sets_16 (by decide) (fun h3 => ?_) (fun h3 => ?_)
  · refine g_iconst (v := (0 : Int32)) C dX6_sets_31 (by decide) ?_
    exact g_ireti C hr dX6_sets_32
  · refine g_aload_n C 0 dX6_sets_19 rfl rfl ?_
    refine g_getR (o' := 29) C 28 0 gcl6 rfl (by decide) rfl qw316 dX6_sets_20 ?_
    refine g_bipush (v := (12 : Int32)) C dX6_sets_23 (by decide) ?_
    refine g_iload_n C 1 dX6_sets_25 rfl rfl ?_
    refine g_iadd C dX6_sets_26 ?_
    refine g_iald (o := 29) (n := 92) C rfl rfl dX6_sets_27 ?_
    refine g_goto (tgt := 32) C dX6_sets_28 (by decide) ?_
    exact g_ireti C hr dX6_sets_32

set_option maxHeartbeats 4000000 in
set_option maxRecDepth 100000 in
theorem c_Model_sets (l : Launch) (hl : l.stackTraces = false) (D : va_G) (cI cJ : ClassId) (ad : Nat → Nat) (p1 : Int32) : gMi l D cI cJ ad yX6_sets cX6_sets 2 (some .int) { frames := 2, cells := 0, slots := 0, locals := 42 } [.ref (ad 28), .int p1] (F_Model_sets p1) := by
  refine gStartI (L0 := [(0, .ref (ad 28)), (1, .int p1)]) RX6 (by decide) rfl rfl (Nat.le_of_ble_eq_true rfl) ?_
  intro p e s m args below meth c sz σ r σ' C hr
  unfold F_Model_sets
  refine g_aload_n C 0 dX6_sets_0 rfl rfl ?_
  refine g_iload_n C 1 dX6_sets_1 rfl rfl ?_
  refine g_callsi (As := [.int p1]) (n := 1) C (c_Model_isTeam l hl D cI cJ ad p1) ⟨rfl, rfl⟩ qc80 (hR := ⟨Nat.le_of_ble_eq_true rfl, Nat.le_of_ble_eq_true rfl⟩) rfl rfl (Nat.le_of_ble_eq_true rfl) dX6_sets_2 ⟨Nat.zero_le _, Nat.zero_le _⟩ (fun r2 σ1 => ?_)
  refine g_if_eq (tgt := 12) C dX6_sets_5 (by decide) (fun h3 => ?_) (fun h3 => ?_)
  · refine g_iconst (v := (1 : Int32)) C dX6_sets_12 (by decide) ?_
    refine g_loc [0, 1] rfl ?_
    exact b_Model_sets_B13 C hr hl p1 p1 (1 : Int32) σ1
  · refine g_iconst (v := (0 : Int32)) C dX6_sets_8 (by decide) ?_
    refine g_goto (tgt := 13) C dX6_sets_9 (by decide) ?_
    refine g_loc [0, 1] rfl ?_
    exact b_Model_sets_B13 C hr hl p1 p1 (0 : Int32) σ1

def F_Model_isPlace (p1 : Int32) (p2 : Int32) (σ : gSt) : Option (Int32 × gSt) := gbi (F_Model_isTeam p1 σ) fun r2 σ1 => if r2 = (0 : Int32) then (some ((0 : Int32), σ1)) else (gbi (F_Model_isIn p2 (1 : Int32) (6 : Int32) σ1) fun r5 σ4 => if r5 = (0 : Int32) then (some ((0 : Int32), σ4)) else (some ((1 : Int32), σ4)))

set_option maxHeartbeats 4000000 in
set_option maxRecDepth 100000 in
theorem c_Model_isPlace (l : Launch) (hl : l.stackTraces = false) (D : va_G) (cI cJ : ClassId) (ad : Nat → Nat) (p1 : Int32) (p2 : Int32) : gMi l D cI cJ ad yX6_isPlace cX6_isPlace 2 (some .boolean) { frames := 2, cells := 0, slots := 0, locals := 42 } [.int p1, .int p2] (F_Model_isPlace p1 p2) := by
  refine gStartI (L0 := [(0, .int p1), (1, .int p2)]) RX6 (by decide) rfl rfl (Nat.le_of_ble_eq_true rfl) ?_
  intro p e s m args below meth c sz σ r σ' C hr
  unfold F_Model_isPlace
  refine g_iload_n C 0 dX6_isPlace_0 rfl rfl ?_
  refine g_callsi (As := [.int p1]) (n := 1) C (c_Model_isTeam l hl D cI cJ ad p1) ⟨rfl, rfl⟩ qc80 (hR := ⟨Nat.le_of_ble_eq_true rfl, Nat.le_of_ble_eq_true rfl⟩) rfl rfl (Nat.le_of_ble_eq_true rfl) dX6_isPlace_1 ⟨Nat.zero_le _, Nat.zero_le _⟩ (fun r2 σ1 => ?_)
  refine g_if_eq (tgt := 21) C dX6_isPlace_4 (by decide) (fun h3 => ?_) (fun h3 => ?_)
  · refine g_iconst (v := (0 : Int32)) C dX6_isPlace_21 (by decide) ?_
    exact g_iretz C (by decide) hr dX6_isPlace_22
  · refine g_iload_n C 1 dX6_isPlace_7 rfl rfl ?_
    refine g_iconst (v := (1 : Int32)) C dX6_isPlace_8 (by decide) ?_
    refine g_bipush (v := (6 : Int32)) C dX6_isPlace_9 (by decide) ?_
    refine g_callsi (As := [.int p2, .int (1 : Int32), .int (6 : Int32)]) (n := 3) C (c_Model_isIn l hl D cI cJ ad p2 (1 : Int32) (6 : Int32)) ⟨rfl, rfl⟩ qc78 (hR := ⟨Nat.le_of_ble_eq_true rfl, Nat.le_of_ble_eq_true rfl⟩) rfl rfl (Nat.le_of_ble_eq_true rfl) dX6_isPlace_11 ⟨Nat.zero_le _, Nat.zero_le _⟩ (fun r5 σ4 => ?_)
    refine g_if_eq (tgt := 21) C dX6_isPlace_14 (by decide) (fun h6 => ?_) (fun h6 => ?_)
    · refine g_iconst (v := (0 : Int32)) C dX6_isPlace_21 (by decide) ?_
      exact g_iretz C (by decide) hr dX6_isPlace_22
    · refine g_iconst (v := (1 : Int32)) C dX6_isPlace_17 (by decide) ?_
      refine g_goto (tgt := 22) C dX6_isPlace_18 (by decide) ?_
      exact g_iretz C (by decide) hr dX6_isPlace_22

def F_Model_at_B14 (p1 : Int32) (p2 : Int32) (l1 : Int32) (l2 : Int32) (s0 : Int32) (σ : gSt) : Option (Int32 × gSt) := gbi (F_Model_goes s0 σ) fun r2 σ1 => if r2 = (0 : Int32) then (some ((0 : Int32), σ1)) else (gbi (F_Model_slot l1 l2 σ1) fun r5 σ4 => if r5 < 0 ∨ 92 ≤ r5.toNatClampNeg then none else some ((σ4 29 r5.toNatClampNeg), σ4))

def F_Model_at (p1 : Int32) (p2 : Int32) (σ : gSt) : Option (Int32 × gSt) := gbi (F_Model_isPlace p1 p2 σ) fun r2 σ1 => if r2 = (0 : Int32) then (F_Model_at_B14 p1 p2 p1 p2 (1 : Int32) σ1) else (F_Model_at_B14 p1 p2 p1 p2 (0 : Int32) σ1)

set_option maxHeartbeats 4000000 in
set_option maxRecDepth 100000 in
theorem b_Model_at_B14 {p : Program} {l : Launch} {e : Env} {s : State} {m : MethodId} {args : Array Value} {below : List Frame} {meth : Method} {c : Code} {D : va_G} {cI cJ : ClassId} {ad : Nat → Nat} {sz : Nat} {r : Int32} {σ' : gSt} (C : gC p s m args meth c D cI cJ ad (gA ad sz) cX6_at 3 RX6) (hr : meth.sig.returnType = (some .int)) (hl : l.stackTraces = false) (p1 : Int32) (p2 : Int32) (l1 : Int32) (l2 : Int32) (s0 : Int32) (σ : gSt) : gX (F_Model_at_B14 p1 p2 l1 l2 s0 σ) (r, σ') (gG p l e { frames := 3, cells := 0, slots := 0, locals := 63 } s m args below meth c D cI cJ ad (gA ad sz) 3 0 0 (MQ below (va_Qi (fun r1 (_ : Unit) => r1 = r) (fun _ t => va_P D vwCl (gw cI cJ ad σ') t.heap) (gA ad sz)) args s 0 0 (gA ad sz)) σ 14 [(0, .ref (ad 28)), (1, .int l1), (2, .int l2)] [.int s0, .ref (ad 28)]) := by
  unfold F_Model_at_B14
  refine g_callvi (As := [.int s0]) (n := 1) C (c_Model_goes l hl D cI cJ ad s0) ⟨rfl, rfl⟩ gcl6 rfl qc81 (hR := ⟨Nat.le_of_ble_eq_true rfl, Nat.le_of_ble_eq_true rfl⟩) rfl rfl (Nat.le_of_ble_eq_true rfl) dX6_at_14 ⟨Nat.zero_le _, Nat.zero_le _⟩ (fun r2 σ1 => ?_)
  refine g_if_eq (tgt := 33) C dX6_at_17 (by decide) (fun h3 => ?_) (fun h3 => ?_)
  · refine g_iconst (v := (0 : Int32)) C dX6_at_33 (by decide) ?_
    exact g_ireti C hr dX6_at_34
  · refine g_aload_n C 0 dX6_at_20 rfl rfl ?_
    refine g_getR (o' := 29) C 28 0 gcl6 rfl (by decide) rfl qw316 dX6_at_21 ?_
    refine g_iload_n C 1 dX6_at_24 rfl rfl ?_
    refine g_iload_n C 2 dX6_at_25 rfl rfl ?_
    refine g_callsi (As := [.int l1, .int l2]) (n := 2) C (c_Model_slot l hl D cI cJ ad l1 l2) ⟨rfl, rfl⟩ qc79 (hR := ⟨Nat.le_of_ble_eq_true rfl, Nat.le_of_ble_eq_true rfl⟩) rfl rfl (Nat.le_of_ble_eq_true rfl) dX6_at_26 ⟨Nat.zero_le _, Nat.zero_le _⟩ (fun r5 σ4 => ?_)
    refine g_iald (o := 29) (n := 92) C rfl rfl dX6_at_29 ?_
    refine g_goto (tgt := 34) C dX6_at_30 (by decide) ?_
    exact g_ireti C hr dX6_at_34

set_option maxHeartbeats 4000000 in
set_option maxRecDepth 100000 in
theorem c_Model_at (l : Launch) (hl : l.stackTraces = false) (D : va_G) (cI cJ : ClassId) (ad : Nat → Nat) (p1 : Int32) (p2 : Int32) : gMi l D cI cJ ad yX6_at cX6_at 3 (some .int) { frames := 3, cells := 0, slots := 0, locals := 63 } [.ref (ad 28), .int p1, .int p2] (F_Model_at p1 p2) := by
  refine gStartI (L0 := [(0, .ref (ad 28)), (1, .int p1), (2, .int p2)]) RX6 (by decide) rfl rfl (Nat.le_of_ble_eq_true rfl) ?_
  intro p e s m args below meth c sz σ r σ' C hr
  unfold F_Model_at
  refine g_aload_n C 0 dX6_at_0 rfl rfl ?_
  refine g_iload_n C 1 dX6_at_1 rfl rfl ?_
  refine g_iload_n C 2 dX6_at_2 rfl rfl ?_
  refine g_callsi (As := [.int p1, .int p2]) (n := 2) C (c_Model_isPlace l hl D cI cJ ad p1 p2) ⟨rfl, rfl⟩ qc93 (hR := ⟨Nat.le_of_ble_eq_true rfl, Nat.le_of_ble_eq_true rfl⟩) rfl rfl (Nat.le_of_ble_eq_true rfl) dX6_at_3 ⟨Nat.zero_le _, Nat.zero_le _⟩ (fun r2 σ1 => ?_)
  refine g_if_eq (tgt := 13) C dX6_at_6 (by decide) (fun h3 => ?_) (fun h3 => ?_)
  · refine g_iconst (v := (1 : Int32)) C dX6_at_13 (by decide) ?_
    refine g_loc [0, 1, 2] rfl ?_
    exact b_Model_at_B14 C hr hl p1 p2 p1 p2 (1 : Int32) σ1
  · refine g_iconst (v := (0 : Int32)) C dX6_at_9 (by decide) ?_
    refine g_goto (tgt := 14) C dX6_at_10 (by decide) ?_
    refine g_loc [0, 1, 2] rfl ?_
    exact b_Model_at_B14 C hr hl p1 p2 p1 p2 (0 : Int32) σ1

def F_Model_atAnew_B14 (p1 : Int32) (p2 : Int32) (l1 : Int32) (l2 : Int32) (s0 : Int32) (σ : gSt) : Option (Int32 × gSt) := gbi (F_Model_goes s0 σ) fun r2 σ1 => if r2 = (0 : Int32) then (some ((0 : Int32), σ1)) else (if (σ1 29 0) = (1 : Int32) then (gbi (F_Model_slot l1 l2 σ1) fun r6 σ5 => if r6 < 0 ∨ 92 ≤ r6.toNatClampNeg then none else some ((σ5 29 r6.toNatClampNeg), σ5)) else (some ((-1 : Int32), σ1)))

def F_Model_atAnew (p1 : Int32) (p2 : Int32) (σ : gSt) : Option (Int32 × gSt) := gbi (F_Model_isPlace p1 p2 σ) fun r2 σ1 => if r2 = (0 : Int32) then (F_Model_atAnew_B14 p1 p2 p1 p2 (1 : Int32) σ1) else (F_Model_atAnew_B14 p1 p2 p1 p2 (0 : Int32) σ1)

set_option maxHeartbeats 4000000 in
set_option maxRecDepth 100000 in
theorem b_Model_atAnew_B14 {p : Program} {l : Launch} {e : Env} {s : State} {m : MethodId} {args : Array Value} {below : List Frame} {meth : Method} {c : Code} {D : va_G} {cI cJ : ClassId} {ad : Nat → Nat} {sz : Nat} {r : Int32} {σ' : gSt} (C : gC p s m args meth c D cI cJ ad (gA ad sz) cX6_atAnew 3 RX6) (hr : meth.sig.returnType = (some .int)) (hl : l.stackTraces = false) (p1 : Int32) (p2 : Int32) (l1 : Int32) (l2 : Int32) (s0 : Int32) (σ : gSt) : gX (F_Model_atAnew_B14 p1 p2 l1 l2 s0 σ) (r, σ') (gG p l e { frames := 3, cells := 0, slots := 0, locals := 63 } s m args below meth c D cI cJ ad (gA ad sz) 3 0 0 (MQ below (va_Qi (fun r1 (_ : Unit) => r1 = r) (fun _ t => va_P D vwCl (gw cI cJ ad σ') t.heap) (gA ad sz)) args s 0 0 (gA ad sz)) σ 14 [(0, .ref (ad 28)), (1, .int l1), (2, .int l2)] [.int s0, .ref (ad 28)]) := by
  unfold F_Model_atAnew_B14
  refine g_callvi (As := [.int s0]) (n := 1) C (c_Model_goes l hl D cI cJ ad s0) ⟨rfl, rfl⟩ gcl6 rfl qc81 (hR := ⟨Nat.le_of_ble_eq_true rfl, Nat.le_of_ble_eq_true rfl⟩) rfl rfl (Nat.le_of_ble_eq_true rfl) dX6_atAnew_14 ⟨Nat.zero_le _, Nat.zero_le _⟩ (fun r2 σ1 => ?_)
  refine g_if_ne (tgt := 24) C dX6_atAnew_17 (by decide) (fun h3 => ?_) (fun h3 => ?_)
  · refine g_iconst (v := (0 : Int32)) C dX6_atAnew_20 (by decide) ?_
    refine g_goto (tgt := 48) C dX6_atAnew_21 (by decide) ?_
    exact g_ireti C hr dX6_atAnew_48
  · refine g_aload_n C 0 dX6_atAnew_24 rfl rfl ?_
    refine g_getR (o' := 29) C 28 0 gcl6 rfl (by decide) rfl qw316 dX6_atAnew_25 ?_
    refine g_iconst (v := (0 : Int32)) C dX6_atAnew_28 (by decide) ?_
    refine g_ialdL (o := 29) (n := 92) C 0 ⟨by decide, by unfold vp_in; decide⟩ rfl rfl dX6_atAnew_29 ?_
    refine g_iconst (v := (1 : Int32)) C dX6_atAnew_30 (by decide) ?_
    refine g_icmp_ne (tgt := 47) C dX6_atAnew_31 (by decide) (fun h4 => ?_) (fun h4 => ?_)
    · refine g_aload_n C 0 dX6_atAnew_34 rfl rfl ?_
      refine g_getR (o' := 29) C 28 0 gcl6 rfl (by decide) rfl qw316 dX6_atAnew_35 ?_
      refine g_iload_n C 1 dX6_atAnew_38 rfl rfl ?_
      refine g_iload_n C 2 dX6_atAnew_39 rfl rfl ?_
      refine g_callsi (As := [.int l1, .int l2]) (n := 2) C (c_Model_slot l hl D cI cJ ad l1 l2) ⟨rfl, rfl⟩ qc79 (hR := ⟨Nat.le_of_ble_eq_true rfl, Nat.le_of_ble_eq_true rfl⟩) rfl rfl (Nat.le_of_ble_eq_true rfl) dX6_atAnew_40 ⟨Nat.zero_le _, Nat.zero_le _⟩ (fun r6 σ5 => ?_)
      refine g_iald (o := 29) (n := 92) C rfl rfl dX6_atAnew_43 ?_
      refine g_goto (tgt := 48) C dX6_atAnew_44 (by decide) ?_
      exact g_ireti C hr dX6_atAnew_48
    · refine g_iconst (v := (-1 : Int32)) C dX6_atAnew_47 (by decide) ?_
      exact g_ireti C hr dX6_atAnew_48

set_option maxHeartbeats 4000000 in
set_option maxRecDepth 100000 in
theorem c_Model_atAnew (l : Launch) (hl : l.stackTraces = false) (D : va_G) (cI cJ : ClassId) (ad : Nat → Nat) (p1 : Int32) (p2 : Int32) : gMi l D cI cJ ad yX6_atAnew cX6_atAnew 3 (some .int) { frames := 3, cells := 0, slots := 0, locals := 63 } [.ref (ad 28), .int p1, .int p2] (F_Model_atAnew p1 p2) := by
  refine gStartI (L0 := [(0, .ref (ad 28)), (1, .int p1), (2, .int p2)]) RX6 (by decide) rfl rfl (Nat.le_of_ble_eq_true rfl) ?_
  intro p e s m args below meth c sz σ r σ' C hr
  unfold F_Model_atAnew
  refine g_aload_n C 0 dX6_atAnew_0 rfl rfl ?_
  refine g_iload_n C 1 dX6_atAnew_1 rfl rfl ?_
  refine g_iload_n C 2 dX6_atAnew_2 rfl rfl ?_
  refine g_callsi (As := [.int p1, .int p2]) (n := 2) C (c_Model_isPlace l hl D cI cJ ad p1 p2) ⟨rfl, rfl⟩ qc93 (hR := ⟨Nat.le_of_ble_eq_true rfl, Nat.le_of_ble_eq_true rfl⟩) rfl rfl (Nat.le_of_ble_eq_true rfl) dX6_atAnew_3 ⟨Nat.zero_le _, Nat.zero_le _⟩ (fun r2 σ1 => ?_)
  refine g_if_eq (tgt := 13) C dX6_atAnew_6 (by decide) (fun h3 => ?_) (fun h3 => ?_)
  · refine g_iconst (v := (1 : Int32)) C dX6_atAnew_13 (by decide) ?_
    refine g_loc [0, 1, 2] rfl ?_
    exact b_Model_atAnew_B14 C hr hl p1 p2 p1 p2 (1 : Int32) σ1
  · refine g_iconst (v := (0 : Int32)) C dX6_atAnew_9 (by decide) ?_
    refine g_goto (tgt := 14) C dX6_atAnew_10 (by decide) ?_
    refine g_loc [0, 1, 2] rfl ?_
    exact b_Model_atAnew_B14 C hr hl p1 p2 p1 p2 (0 : Int32) σ1

def F_Model_about_B15 (p1 : Int32) (l1 : Int32) (s0 : Int32) (σ : gSt) : Option (Int32 × gSt) := gbi (F_Model_goes s0 σ) fun r2 σ1 => if r2 = (0 : Int32) then (some ((0 : Int32), σ1)) else (if l1 = (0 : Int32) then (some ((σ1 29 0), σ1)) else (if l1 = (1 : Int32) then (some ((σ1 29 1), σ1)) else (if l1 = (2 : Int32) then (if (σ1 29 0) = (1 : Int32) then (some ((σ1 29 2), σ1)) else (some ((-1 : Int32), σ1))) else (if l1 = (3 : Int32) then (some ((σ1 29 3), σ1)) else (if (σ1 29 1) = (1 : Int32) then (some ((σ1 29 5), σ1)) else (some ((-1 : Int32), σ1)))))))

def F_Model_about (p1 : Int32) (σ : gSt) : Option (Int32 × gSt) := gbi (F_Model_isIn p1 (0 : Int32) (4 : Int32) σ) fun r2 σ1 => if r2 = (0 : Int32) then (F_Model_about_B15 p1 p1 (1 : Int32) σ1) else (F_Model_about_B15 p1 p1 (0 : Int32) σ1)

set_option maxHeartbeats 4000000 in
set_option maxRecDepth 100000 in
theorem b_Model_about_B15 {p : Program} {l : Launch} {e : Env} {s : State} {m : MethodId} {args : Array Value} {below : List Frame} {meth : Method} {c : Code} {D : va_G} {cI cJ : ClassId} {ad : Nat → Nat} {sz : Nat} {r : Int32} {σ' : gSt} (C : gC p s m args meth c D cI cJ ad (gA ad sz) cX6_about 2 RX6) (hr : meth.sig.returnType = (some .int)) (hl : l.stackTraces = false) (p1 : Int32) (l1 : Int32) (s0 : Int32) (σ : gSt) : gX (F_Model_about_B15 p1 l1 s0 σ) (r, σ') (gG p l e { frames := 1, cells := 0, slots := 0, locals := 22 } s m args below meth c D cI cJ ad (gA ad sz) 2 0 0 (MQ below (va_Qi (fun r1 (_ : Unit) => r1 = r) (fun _ t => va_P D vwCl (gw cI cJ ad σ') t.heap) (gA ad sz)) args s 0 0 (gA ad sz)) σ 15 [(0, .ref (ad 28)), (1, .int l1)] [.int s0, .ref (ad 28)]) := by
  unfold F_Model_about_B15
  refine g_callvi (As := [.int s0]) (n := 1) C (c_Model_goes l hl D cI cJ ad s0) ⟨rfl, rfl⟩ gcl6 rfl qc81 (hR := ⟨Nat.le_of_ble_eq_true rfl, Nat.le_of_ble_eq_true rfl⟩) rfl rfl (Nat.le_of_ble_eq_true rfl) dX6_about_15 ⟨Nat.zero_le _, Nat.zero_le _⟩ (fun r2 σ1 => ?_)
  refine g_if_ne (tgt := 23) C dX6_about_18 (by decide) (fun h3 => ?_) (fun h3 => ?_)
  · refine g_iconst (v := (0 : Int32)) C dX6_about_21 (by decide) ?_
    exact g_ireti C hr dX6_about_22
  · refine g_iload_n C 1 dX6_about_23 rfl rfl ?_
    refine g_if_ne (tgt := 36) C dX6_about_24 (by decide) (fun h4 => ?_) (fun h4 => ?_)
    · refine g_aload_n C 0 dX6_about_27 rfl rfl ?_
      refine g_getR (o' := 29) C 28 0 gcl6 rfl (by decide) rfl qw316 dX6_about_28 ?_
      refine g_iconst (v := (0 : Int32)) C dX6_about_31 (by decide) ?_
      refine g_ialdL (o := 29) (n := 92) C 0 ⟨by decide, by unfold vp_in; decide⟩ rfl rfl dX6_about_32 ?_
      refine g_goto (tgt := 112) C dX6_about_33 (by decide) ?_
      exact g_ireti C hr dX6_about_112
    · refine g_iload_n C 1 dX6_about_36 rfl rfl ?_
      refine g_iconst (v := (1 : Int32)) C dX6_about_37 (by decide) ?_
      refine g_icmp_ne (tgt := 50) C dX6_about_38 (by decide) (fun h5 => ?_) (fun h5 => ?_)
      · refine g_aload_n C 0 dX6_about_41 rfl rfl ?_
        refine g_getR (o' := 29) C 28 0 gcl6 rfl (by decide) rfl qw316 dX6_about_42 ?_
        refine g_iconst (v := (1 : Int32)) C dX6_about_45 (by decide) ?_
        refine g_ialdL (o := 29) (n := 92) C 1 ⟨by decide, by unfold vp_in; decide⟩ rfl rfl dX6_about_46 ?_
        refine g_goto (tgt := 112) C dX6_about_47 (by decide) ?_
        exact g_ireti C hr dX6_about_112
      · refine g_iload_n C 1 dX6_about_50 rfl rfl ?_
        refine g_iconst (v := (2 : Int32)) C dX6_about_51 (by decide) ?_
        refine g_icmp_ne (tgt := 78) C dX6_about_52 (by decide) (fun h6 => ?_) (fun h6 => ?_)
        · refine g_aload_n C 0 dX6_about_55 rfl rfl ?_
          refine g_getR (o' := 29) C 28 0 gcl6 rfl (by decide) rfl qw316 dX6_about_56 ?_
          refine g_iconst (v := (0 : Int32)) C dX6_about_59 (by decide) ?_
          refine g_ialdL (o := 29) (n := 92) C 0 ⟨by decide, by unfold vp_in; decide⟩ rfl rfl dX6_about_60 ?_
          refine g_iconst (v := (1 : Int32)) C dX6_about_61 (by decide) ?_
          refine g_icmp_ne (tgt := 74) C dX6_about_62 (by decide) (fun h7 => ?_) (fun h7 => ?_)
          · refine g_aload_n C 0 dX6_about_65 rfl rfl ?_
            refine g_getR (o' := 29) C 28 0 gcl6 rfl (by decide) rfl qw316 dX6_about_66 ?_
            refine g_iconst (v := (2 : Int32)) C dX6_about_69 (by decide) ?_
            refine g_ialdL (o := 29) (n := 92) C 2 ⟨by decide, by unfold vp_in; decide⟩ rfl rfl dX6_about_70 ?_
            refine g_goto (tgt := 112) C dX6_about_71 (by decide) ?_
            exact g_ireti C hr dX6_about_112
          · refine g_iconst (v := (-1 : Int32)) C dX6_about_74 (by decide) ?_
            refine g_goto (tgt := 112) C dX6_about_75 (by decide) ?_
            exact g_ireti C hr dX6_about_112
        · refine g_iload_n C 1 dX6_about_78 rfl rfl ?_
          refine g_iconst (v := (3 : Int32)) C dX6_about_79 (by decide) ?_
          refine g_icmp_ne (tgt := 92) C dX6_about_80 (by decide) (fun h8 => ?_) (fun h8 => ?_)
          · refine g_aload_n C 0 dX6_about_83 rfl rfl ?_
            refine g_getR (o' := 29) C 28 0 gcl6 rfl (by decide) rfl qw316 dX6_about_84 ?_
            refine g_iconst (v := (3 : Int32)) C dX6_about_87 (by decide) ?_
            refine g_ialdL (o := 29) (n := 92) C 3 ⟨by decide, by unfold vp_in; decide⟩ rfl rfl dX6_about_88 ?_
            refine g_goto (tgt := 112) C dX6_about_89 (by decide) ?_
            exact g_ireti C hr dX6_about_112
          · refine g_aload_n C 0 dX6_about_92 rfl rfl ?_
            refine g_getR (o' := 29) C 28 0 gcl6 rfl (by decide) rfl qw316 dX6_about_93 ?_
            refine g_iconst (v := (1 : Int32)) C dX6_about_96 (by decide) ?_
            refine g_ialdL (o := 29) (n := 92) C 1 ⟨by decide, by unfold vp_in; decide⟩ rfl rfl dX6_about_97 ?_
            refine g_iconst (v := (1 : Int32)) C dX6_about_98 (by decide) ?_
            refine g_icmp_ne (tgt := 111) C dX6_about_99 (by decide) (fun h9 => ?_) (fun h9 => ?_)
            · refine g_aload_n C 0 dX6_about_102 rfl rfl ?_
              refine g_getR (o' := 29) C 28 0 gcl6 rfl (by decide) rfl qw316 dX6_about_103 ?_
              refine g_iconst (v := (5 : Int32)) C dX6_about_106 (by decide) ?_
              refine g_ialdL (o := 29) (n := 92) C 5 ⟨by decide, by unfold vp_in; decide⟩ rfl rfl dX6_about_107 ?_
              refine g_goto (tgt := 112) C dX6_about_108 (by decide) ?_
              exact g_ireti C hr dX6_about_112
            · refine g_iconst (v := (-1 : Int32)) C dX6_about_111 (by decide) ?_
              exact g_ireti C hr dX6_about_112

set_option maxHeartbeats 4000000 in
set_option maxRecDepth 100000 in
theorem c_Model_about (l : Launch) (hl : l.stackTraces = false) (D : va_G) (cI cJ : ClassId) (ad : Nat → Nat) (p1 : Int32) : gMi l D cI cJ ad yX6_about cX6_about 2 (some .int) { frames := 1, cells := 0, slots := 0, locals := 22 } [.ref (ad 28), .int p1] (F_Model_about p1) := by
  refine gStartI (L0 := [(0, .ref (ad 28)), (1, .int p1)]) RX6 (by decide) rfl rfl (Nat.le_of_ble_eq_true rfl) ?_
  intro p e s m args below meth c sz σ r σ' C hr
  unfold F_Model_about
  refine g_aload_n C 0 dX6_about_0 rfl rfl ?_
  refine g_iload_n C 1 dX6_about_1 rfl rfl ?_
  refine g_iconst (v := (0 : Int32)) C dX6_about_2 (by decide) ?_
  refine g_iconst (v := (4 : Int32)) C dX6_about_3 (by decide) ?_
  refine g_callsi (As := [.int p1, .int (0 : Int32), .int (4 : Int32)]) (n := 3) C (c_Model_isIn l hl D cI cJ ad p1 (0 : Int32) (4 : Int32)) ⟨rfl, rfl⟩ qc78 (hR := ⟨Nat.le_of_ble_eq_true rfl, Nat.le_of_ble_eq_true rfl⟩) rfl rfl (Nat.le_of_ble_eq_true rfl) dX6_about_4 ⟨Nat.zero_le _, Nat.zero_le _⟩ (fun r2 σ1 => ?_)
  refine g_if_eq (tgt := 14) C dX6_about_7 (by decide) (fun h3 => ?_) (fun h3 => ?_)
  · refine g_iconst (v := (1 : Int32)) C dX6_about_14 (by decide) ?_
    refine g_loc [0, 1] rfl ?_
    exact b_Model_about_B15 C hr hl p1 p1 (1 : Int32) σ1
  · refine g_iconst (v := (0 : Int32)) C dX6_about_10 (by decide) ?_
    refine g_goto (tgt := 15) C dX6_about_11 (by decide) ?_
    refine g_loc [0, 1] rfl ?_
    exact b_Model_about_B15 C hr hl p1 p1 (0 : Int32) σ1

def F_Model_of_B26 (p1 : Int32) (p2 : Int32) (l1 : Int32) (l2 : Int32) (s0 : Int32) (σ : gSt) : Option (Int32 × gSt) := gbi (F_Model_goes s0 σ) fun r2 σ1 => if r2 = (0 : Int32) then (some ((0 : Int32), σ1)) else (if l2 = (0 : Int32) then (if ((32 : Int32) + l1) < 0 ∨ 92 ≤ ((32 : Int32) + l1).toNatClampNeg then none else some ((σ1 29 ((32 : Int32) + l1).toNatClampNeg), σ1)) else (if ((34 : Int32) + l1) < 0 ∨ 92 ≤ ((34 : Int32) + l1).toNatClampNeg then none else some ((σ1 29 ((34 : Int32) + l1).toNatClampNeg), σ1)))

def F_Model_of (p1 : Int32) (p2 : Int32) (σ : gSt) : Option (Int32 × gSt) := gbi (F_Model_isTeam p1 σ) fun r2 σ1 => if r2 = (0 : Int32) then (F_Model_of_B26 p1 p2 p1 p2 (1 : Int32) σ1) else (gbi (F_Model_isIn p2 (0 : Int32) (1 : Int32) σ1) fun r5 σ4 => if r5 = (0 : Int32) then (F_Model_of_B26 p1 p2 p1 p2 (2 : Int32) σ4) else (F_Model_of_B26 p1 p2 p1 p2 (0 : Int32) σ4))

set_option maxHeartbeats 4000000 in
set_option maxRecDepth 100000 in
theorem b_Model_of_B26 {p : Program} {l : Launch} {e : Env} {s : State} {m : MethodId} {args : Array Value} {below : List Frame} {meth : Method} {c : Code} {D : va_G} {cI cJ : ClassId} {ad : Nat → Nat} {sz : Nat} {r : Int32} {σ' : gSt} (C : gC p s m args meth c D cI cJ ad (gA ad sz) cX6_of 3 RX6) (hr : meth.sig.returnType = (some .int)) (hl : l.stackTraces = false) (p1 : Int32) (p2 : Int32) (l1 : Int32) (l2 : Int32) (s0 : Int32) (σ : gSt) : gX (F_Model_of_B26 p1 p2 l1 l2 s0 σ) (r, σ') (gG p l e { frames := 2, cells := 0, slots := 0, locals := 42 } s m args below meth c D cI cJ ad (gA ad sz) 3 0 0 (MQ below (va_Qi (fun r1 (_ : Unit) => r1 = r) (fun _ t => va_P D vwCl (gw cI cJ ad σ') t.heap) (gA ad sz)) args s 0 0 (gA ad sz)) σ 26 [(0, .ref (ad 28)), (1, .int l1), (2, .int l2)] [.int s0, .ref (ad 28)]) := by
  unfold F_Model_of_B26
  refine g_callvi (As := [.int s0]) (n := 1) C (c_Model_goes l hl D cI cJ ad s0) ⟨rfl, rfl⟩ gcl6 rfl qc81 (hR := ⟨Nat.le_of_ble_eq_true rfl, Nat.le_of_ble_eq_true rfl⟩) rfl rfl (Nat.le_of_ble_eq_true rfl) dX6_of_26 ⟨Nat.zero_le _, Nat.zero_le _⟩ (fun r2 σ1 => ?_)
  refine g_if_ne (tgt := 34) C dX6_of_29 (by decide) (fun h3 => ?_) (fun h3 => ?_)
  · refine g_iconst (v := (0 : Int32)) C dX6_of_32 (by decide) ?_
    exact g_ireti C hr dX6_of_33
  · refine g_iload_n C 2 dX6_of_34 rfl rfl ?_
    refine g_if_ne (tgt := 50) C dX6_of_35 (by decide) (fun h4 => ?_) (fun h4 => ?_)
    · refine g_aload_n C 0 dX6_of_38 rfl rfl ?_
      refine g_getR (o' := 29) C 28 0 gcl6 rfl (by decide) rfl qw316 dX6_of_39 ?_
      refine g_bipush (v := (32 : Int32)) C dX6_of_42 (by decide) ?_
      refine g_iload_n C 1 dX6_of_44 rfl rfl ?_
      refine g_iadd C dX6_of_45 ?_
      refine g_iald (o := 29) (n := 92) C rfl rfl dX6_of_46 ?_
      refine g_goto (tgt := 59) C dX6_of_47 (by decide) ?_
      exact g_ireti C hr dX6_of_59
    · refine g_aload_n C 0 dX6_of_50 rfl rfl ?_
      refine g_getR (o' := 29) C 28 0 gcl6 rfl (by decide) rfl qw316 dX6_of_51 ?_
      refine g_bipush (v := (34 : Int32)) C dX6_of_54 (by decide) ?_
      refine g_iload_n C 1 dX6_of_56 rfl rfl ?_
      refine g_iadd C dX6_of_57 ?_
      refine g_iald (o := 29) (n := 92) C rfl rfl dX6_of_58 ?_
      exact g_ireti C hr dX6_of_59

set_option maxHeartbeats 4000000 in
set_option maxRecDepth 100000 in
theorem c_Model_of (l : Launch) (hl : l.stackTraces = false) (D : va_G) (cI cJ : ClassId) (ad : Nat → Nat) (p1 : Int32) (p2 : Int32) : gMi l D cI cJ ad yX6_of cX6_of 3 (some .int) { frames := 2, cells := 0, slots := 0, locals := 42 } [.ref (ad 28), .int p1, .int p2] (F_Model_of p1 p2) := by
  refine gStartI (L0 := [(0, .ref (ad 28)), (1, .int p1), (2, .int p2)]) RX6 (by decide) rfl rfl (Nat.le_of_ble_eq_true rfl) ?_
  intro p e s m args below meth c sz σ r σ' C hr
  unfold F_Model_of
  refine g_aload_n C 0 dX6_of_0 rfl rfl ?_
  refine g_iload_n C 1 dX6_of_1 rfl rfl ?_
  refine g_callsi (As := [.int p1]) (n := 1) C (c_Model_isTeam l hl D cI cJ ad p1) ⟨rfl, rfl⟩ qc80 (hR := ⟨Nat.le_of_ble_eq_true rfl, Nat.le_of_ble_eq_true rfl⟩) rfl rfl (Nat.le_of_ble_eq_true rfl) dX6_of_2 ⟨Nat.zero_le _, Nat.zero_le _⟩ (fun r2 σ1 => ?_)
  refine g_if_ne (tgt := 12) C dX6_of_5 (by decide) (fun h3 => ?_) (fun h3 => ?_)
  · refine g_iconst (v := (1 : Int32)) C dX6_of_8 (by decide) ?_
    refine g_goto (tgt := 26) C dX6_of_9 (by decide) ?_
    refine g_loc [0, 1, 2] rfl ?_
    exact b_Model_of_B26 C hr hl p1 p2 p1 p2 (1 : Int32) σ1
  · refine g_iload_n C 2 dX6_of_12 rfl rfl ?_
    refine g_iconst (v := (0 : Int32)) C dX6_of_13 (by decide) ?_
    refine g_iconst (v := (1 : Int32)) C dX6_of_14 (by decide) ?_
    refine g_callsi (As := [.int p2, .int (0 : Int32), .int (1 : Int32)]) (n := 3) C (c_Model_isIn l hl D cI cJ ad p2 (0 : Int32) (1 : Int32)) ⟨rfl, rfl⟩ qc78 (hR := ⟨Nat.le_of_ble_eq_true rfl, Nat.le_of_ble_eq_true rfl⟩) rfl rfl (Nat.le_of_ble_eq_true rfl) dX6_of_15 ⟨Nat.zero_le _, Nat.zero_le _⟩ (fun r5 σ4 => ?_)
    refine g_if_eq (tgt := 25) C dX6_of_18 (by decide) (fun h6 => ?_) (fun h6 => ?_)
    · refine g_iconst (v := (2 : Int32)) C dX6_of_25 (by decide) ?_
      refine g_loc [0, 1, 2] rfl ?_
      exact b_Model_of_B26 C hr hl p1 p2 p1 p2 (2 : Int32) σ4
    · refine g_iconst (v := (0 : Int32)) C dX6_of_21 (by decide) ?_
      refine g_goto (tgt := 26) C dX6_of_22 (by decide) ?_
      refine g_loc [0, 1, 2] rfl ?_
      exact b_Model_of_B26 C hr hl p1 p2 p1 p2 (0 : Int32) σ4

def F_Model_lost_B26 (p1 : Int32) (p2 : Int32) (l1 : Int32) (l2 : Int32) (s0 : Int32) (σ : gSt) : Option (Int32 × gSt) := gbi (F_Model_goes s0 σ) fun r2 σ1 => if r2 = (0 : Int32) then (some ((0 : Int32), σ1)) else (if (((80 : Int32) + ((6 : Int32) * l1)) + l2) < 0 ∨ 92 ≤ (((80 : Int32) + ((6 : Int32) * l1)) + l2).toNatClampNeg then none else some ((σ1 29 (((80 : Int32) + ((6 : Int32) * l1)) + l2).toNatClampNeg), σ1))

def F_Model_lost (p1 : Int32) (p2 : Int32) (σ : gSt) : Option (Int32 × gSt) := gbi (F_Model_isTeam p1 σ) fun r2 σ1 => if r2 = (0 : Int32) then (F_Model_lost_B26 p1 p2 p1 p2 (1 : Int32) σ1) else (gbi (F_Model_isIn p2 (0 : Int32) (5 : Int32) σ1) fun r5 σ4 => if r5 = (0 : Int32) then (F_Model_lost_B26 p1 p2 p1 p2 (2 : Int32) σ4) else (F_Model_lost_B26 p1 p2 p1 p2 (0 : Int32) σ4))

set_option maxHeartbeats 4000000 in
set_option maxRecDepth 100000 in
theorem b_Model_lost_B26 {p : Program} {l : Launch} {e : Env} {s : State} {m : MethodId} {args : Array Value} {below : List Frame} {meth : Method} {c : Code} {D : va_G} {cI cJ : ClassId} {ad : Nat → Nat} {sz : Nat} {r : Int32} {σ' : gSt} (C : gC p s m args meth c D cI cJ ad (gA ad sz) cX6_lost 3 RX6) (hr : meth.sig.returnType = (some .int)) (hl : l.stackTraces = false) (p1 : Int32) (p2 : Int32) (l1 : Int32) (l2 : Int32) (s0 : Int32) (σ : gSt) : gX (F_Model_lost_B26 p1 p2 l1 l2 s0 σ) (r, σ') (gG p l e { frames := 2, cells := 0, slots := 0, locals := 42 } s m args below meth c D cI cJ ad (gA ad sz) 3 0 0 (MQ below (va_Qi (fun r1 (_ : Unit) => r1 = r) (fun _ t => va_P D vwCl (gw cI cJ ad σ') t.heap) (gA ad sz)) args s 0 0 (gA ad sz)) σ 26 [(0, .ref (ad 28)), (1, .int l1), (2, .int l2)] [.int s0, .ref (ad 28)]) := by
  unfold F_Model_lost_B26
  refine g_callvi (As := [.int s0]) (n := 1) C (c_Model_goes l hl D cI cJ ad s0) ⟨rfl, rfl⟩ gcl6 rfl qc81 (hR := ⟨Nat.le_of_ble_eq_true rfl, Nat.le_of_ble_eq_true rfl⟩) rfl rfl (Nat.le_of_ble_eq_true rfl) dX6_lost_26 ⟨Nat.zero_le _, Nat.zero_le _⟩ (fun r2 σ1 => ?_)
  refine g_if_ne (tgt := 34) C dX6_lost_29 (by decide) (fun h3 => ?_) (fun h3 => ?_)
  · refine g_iconst (v := (0 : Int32)) C dX6_lost_32 (by decide) ?_
    exact g_ireti C hr dX6_lost_33
  · refine g_aload_n C 0 dX6_lost_34 rfl rfl ?_
    refine g_getR (o' := 29) C 28 0 gcl6 rfl (by decide) rfl qw316 dX6_lost_35 ?_
    refine g_bipush (v := (80 : Int32)) C dX6_lost_38 (by decide) ?_
    refine g_bipush (v := (6 : Int32)) C dX6_lost_40 (by decide) ?_
    refine g_iload_n C 1 dX6_lost_42 rfl rfl ?_
    refine g_imul C dX6_lost_43 ?_
    refine g_iadd C dX6_lost_44 ?_
    refine g_iload_n C 2 dX6_lost_45 rfl rfl ?_
    refine g_iadd C dX6_lost_46 ?_
    refine g_iald (o := 29) (n := 92) C rfl rfl dX6_lost_47 ?_
    exact g_ireti C hr dX6_lost_48

set_option maxHeartbeats 4000000 in
set_option maxRecDepth 100000 in
theorem c_Model_lost (l : Launch) (hl : l.stackTraces = false) (D : va_G) (cI cJ : ClassId) (ad : Nat → Nat) (p1 : Int32) (p2 : Int32) : gMi l D cI cJ ad yX6_lost cX6_lost 3 (some .int) { frames := 2, cells := 0, slots := 0, locals := 42 } [.ref (ad 28), .int p1, .int p2] (F_Model_lost p1 p2) := by
  refine gStartI (L0 := [(0, .ref (ad 28)), (1, .int p1), (2, .int p2)]) RX6 (by decide) rfl rfl (Nat.le_of_ble_eq_true rfl) ?_
  intro p e s m args below meth c sz σ r σ' C hr
  unfold F_Model_lost
  refine g_aload_n C 0 dX6_lost_0 rfl rfl ?_
  refine g_iload_n C 1 dX6_lost_1 rfl rfl ?_
  refine g_callsi (As := [.int p1]) (n := 1) C (c_Model_isTeam l hl D cI cJ ad p1) ⟨rfl, rfl⟩ qc80 (hR := ⟨Nat.le_of_ble_eq_true rfl, Nat.le_of_ble_eq_true rfl⟩) rfl rfl (Nat.le_of_ble_eq_true rfl) dX6_lost_2 ⟨Nat.zero_le _, Nat.zero_le _⟩ (fun r2 σ1 => ?_)
  refine g_if_ne (tgt := 12) C dX6_lost_5 (by decide) (fun h3 => ?_) (fun h3 => ?_)
  · refine g_iconst (v := (1 : Int32)) C dX6_lost_8 (by decide) ?_
    refine g_goto (tgt := 26) C dX6_lost_9 (by decide) ?_
    refine g_loc [0, 1, 2] rfl ?_
    exact b_Model_lost_B26 C hr hl p1 p2 p1 p2 (1 : Int32) σ1
  · refine g_iload_n C 2 dX6_lost_12 rfl rfl ?_
    refine g_iconst (v := (0 : Int32)) C dX6_lost_13 (by decide) ?_
    refine g_iconst (v := (5 : Int32)) C dX6_lost_14 (by decide) ?_
    refine g_callsi (As := [.int p2, .int (0 : Int32), .int (5 : Int32)]) (n := 3) C (c_Model_isIn l hl D cI cJ ad p2 (0 : Int32) (5 : Int32)) ⟨rfl, rfl⟩ qc78 (hR := ⟨Nat.le_of_ble_eq_true rfl, Nat.le_of_ble_eq_true rfl⟩) rfl rfl (Nat.le_of_ble_eq_true rfl) dX6_lost_15 ⟨Nat.zero_le _, Nat.zero_le _⟩ (fun r5 σ4 => ?_)
    refine g_if_eq (tgt := 25) C dX6_lost_18 (by decide) (fun h6 => ?_) (fun h6 => ?_)
    · refine g_iconst (v := (2 : Int32)) C dX6_lost_25 (by decide) ?_
      refine g_loc [0, 1, 2] rfl ?_
      exact b_Model_lost_B26 C hr hl p1 p2 p1 p2 (2 : Int32) σ4
    · refine g_iconst (v := (0 : Int32)) C dX6_lost_21 (by decide) ?_
      refine g_goto (tgt := 26) C dX6_lost_22 (by decide) ?_
      refine g_loc [0, 1, 2] rfl ?_
      exact b_Model_lost_B26 C hr hl p1 p2 p1 p2 (0 : Int32) σ4
