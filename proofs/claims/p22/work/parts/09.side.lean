def F_Game_putIn (a1 : Nat) (p2 : Int32) (p3 : Int32) (σ : gSt) : Option gSt := if p2 < (0 : Int32) then (some σ) else (if (nI (gLn a1)) ≤ p2 then (some σ) else (if p2 < 0 ∨ gLn a1 ≤ p2.toNatClampNeg then none else gl (gup σ a1 p2.toNatClampNeg p3) fun σ3 => some σ3))

set_option maxHeartbeats 4000000 in
set_option maxRecDepth 100000 in
theorem c_Game_putIn (l : Launch) (hl : l.stackTraces = false) (D : va_G) (cI cJ : ClassId) (ad : Nat → Nat) (a1 : Nat) (p2 : Int32) (p3 : Int32) (ha1 : gKd a1 = 7) : gMv l D cI cJ ad yX5_putIn cX5_putIn 3 none { frames := 0, cells := 0, slots := 0, locals := 0 } [.ref (ad a1), .int p2, .int p3] (F_Game_putIn a1 p2 p3) := by
  refine gStartV (L0 := [(0, .ref (ad a1)), (1, .int p2), (2, .int p3)]) RX5 (by decide) rfl rfl (Nat.le_of_ble_eq_true rfl) ?_
  intro p e s m args below meth c sz σ σ' C hr
  unfold F_Game_putIn
  refine g_iload_n C 1 dX5_putIn_0 rfl rfl ?_
  refine g_if_lt (tgt := 14) C dX5_putIn_1 (by decide) (fun h1 => ?_) (fun h1 => ?_)
  · exact g_retv C hr dX5_putIn_14
  · refine g_iload_n C 1 dX5_putIn_4 rfl rfl ?_
    refine g_aload_n C 0 dX5_putIn_5 rfl rfl ?_
    refine g_alen (o := a1) (n := (gLn a1)) C ha1 rfl dX5_putIn_6 ?_
    refine g_icmp_ge (tgt := 14) C dX5_putIn_7 (by decide) (fun h2 => ?_) (fun h2 => ?_)
    · exact g_retv C hr dX5_putIn_14
    · refine g_aload_n C 0 dX5_putIn_10 rfl rfl ?_
      refine g_iload_n C 1 dX5_putIn_11 rfl rfl ?_
      refine g_iload_n C 2 dX5_putIn_12 rfl rfl ?_
      refine g_iast (o := a1) (n := (gLn a1)) C ha1 rfl dX5_putIn_13 (fun σ3 => ?_)
      exact g_retv C hr dX5_putIn_14

def F_Side_startSet_B27 (k : Nat) : Nat → Int32 → gSt → Option gSt
  | 0, _, _ => none
  | n + 1, l1, σ => if (20 : Int32) < l1 then (some σ) else (gbv (F_Game_putIn (k + 2) l1 (0 : Int32) σ) fun σ2 => F_Side_startSet_B27 k n (l1 + (1 : Int32)) σ2)

def F_Side_startSet (k : Nat) (σ : gSt) : Option gSt := gl (gup σ k 4 (0 : Int32)) fun σ1 => gl (gup σ1 k 6 (0 : Int32)) fun σ2 => gl (gup σ2 k 7 (0 : Int32)) fun σ3 => gl (gup σ3 k 8 (2 : Int32)) fun σ4 => gl (gup σ4 k 9 (0 : Int32)) fun σ5 => F_Side_startSet_B27 k 100 (1 : Int32) σ5

set_option maxHeartbeats 4000000 in
set_option maxRecDepth 100000 in
theorem b_Side_startSet_B27 {p : Program} {l : Launch} {e : Env} {s : State} {m : MethodId} {args : Array Value} {below : List Frame} {meth : Method} {c : Code} {D : va_G} {cI cJ : ClassId} {ad : Nat → Nat} {sz : Nat} {σ' : gSt} (C : gC p s m args meth c D cI cJ ad (gA ad sz) cX4_startSet 2 RX4) (hr : meth.sig.returnType = none) (hl : l.stackTraces = false) (k : Nat) (hk : gIsSide k) : ∀ (n : Nat) (l1 : Int32) (σ : gSt), gX (F_Side_startSet_B27 k n l1 σ) σ' (gG p l e { frames := 1, cells := 0, slots := 0, locals := 22 } s m args below meth c D cI cJ ad (gA ad sz) 2 0 0 (MQ below (va_Qv (fun (_ : Unit) => True) (fun _ t => va_P D vwCl (gw cI cJ ad σ') t.heap) (gA ad sz)) args s 0 0 (gA ad sz)) σ 27 [(0, .ref (ad k)), (1, .int l1)] []) := by
  intro n
  induction n with
  | zero =>
    intro l1 σ
    unfold F_Side_startSet_B27
    exact gX_none
  | succ n ih =>
    intro l1 σ
    unfold F_Side_startSet_B27
    refine g_iload_n C 1 dX4_startSet_27 rfl rfl ?_
    refine g_bipush (v := (20 : Int32)) C dX4_startSet_28 (by decide) ?_
    refine g_icmp_gt (tgt := 48) C dX4_startSet_30 (by decide) (fun h1 => ?_) (fun h1 => ?_)
    · exact g_retv C hr dX4_startSet_48
    · refine g_aload_n C 0 dX4_startSet_33 rfl rfl ?_
      refine g_getR (o' := (k + 2)) C k 1 gcl4 (gSd hk).1 (by decide) (gSd hk).2.2.1 qw10 dX4_startSet_34 ?_
      refine g_iload_n C 1 dX4_startSet_37 rfl rfl ?_
      refine g_iconst (v := (0 : Int32)) C dX4_startSet_38 (by decide) ?_
      refine g_callnv (As := [.ref (ad (k + 2)), .int l1, .int (0 : Int32)]) (n := 3) C (c_Game_putIn l hl D cI cJ ad (k + 2) l1 (0 : Int32) (gSd hk).2.2.2.2.2.1) ⟨rfl, rfl⟩ qc1 (hR := ⟨Nat.le_of_ble_eq_true rfl, Nat.le_of_ble_eq_true rfl⟩) rfl rfl (Nat.le_of_ble_eq_true rfl) dX4_startSet_39 ⟨Nat.zero_le _, Nat.zero_le _⟩ (fun σ2 => ?_)
      refine g_iinc (v := (l1 + (1 : Int32))) (L' := [(1, .int (l1 + (1 : Int32))), (0, .ref (ad k))]) C 1 dX4_startSet_42 rfl (by rfl) (by decide) rfl ?_
      refine g_goto (tgt := 27) C dX4_startSet_45 (by decide) ?_
      refine g_loc [1, 0] rfl ?_
      exact ih (l1 + (1 : Int32)) σ2

set_option maxHeartbeats 4000000 in
set_option maxRecDepth 100000 in
theorem c_Side_startSet (l : Launch) (hl : l.stackTraces = false) (D : va_G) (cI cJ : ClassId) (ad : Nat → Nat) (k : Nat) (hk : gIsSide k) : gMv l D cI cJ ad yX4_startSet cX4_startSet 2 none { frames := 1, cells := 0, slots := 0, locals := 22 } [.ref (ad k)] (F_Side_startSet k) := by
  refine gStartV (L0 := [(0, .ref (ad k))]) RX4 (by decide) rfl rfl (Nat.le_of_ble_eq_true rfl) ?_
  intro p e s m args below meth c sz σ σ' C hr
  unfold F_Side_startSet
  refine g_aload_n C 0 dX4_startSet_0 rfl rfl ?_
  refine g_iconst (v := (0 : Int32)) C dX4_startSet_1 (by decide) ?_
  refine g_putI C k 4 gcl4 gft4 (gSd hk).1 (by decide) ((gSd hk).2.2.2.1 4 (by decide)) rfl rfl qw5 dX4_startSet_2 (fun σ1 => ?_)
  refine g_aload_n C 0 dX4_startSet_5 rfl rfl ?_
  refine g_iconst (v := (0 : Int32)) C dX4_startSet_6 (by decide) ?_
  refine g_putI C k 6 gcl4 gft4 (gSd hk).1 (by decide) ((gSd hk).2.2.2.1 6 (by decide)) rfl rfl qw6 dX4_startSet_7 (fun σ2 => ?_)
  refine g_aload_n C 0 dX4_startSet_10 rfl rfl ?_
  refine g_iconst (v := (0 : Int32)) C dX4_startSet_11 (by decide) ?_
  refine g_putI C k 7 gcl4 gft4 (gSd hk).1 (by decide) ((gSd hk).2.2.2.1 7 (by decide)) rfl rfl qw7 dX4_startSet_12 (fun σ3 => ?_)
  refine g_aload_n C 0 dX4_startSet_15 rfl rfl ?_
  refine g_iconst (v := (2 : Int32)) C dX4_startSet_16 (by decide) ?_
  refine g_putI C k 8 gcl4 gft4 (gSd hk).1 (by decide) ((gSd hk).2.2.2.1 8 (by decide)) rfl rfl qw8 dX4_startSet_17 (fun σ4 => ?_)
  refine g_aload_n C 0 dX4_startSet_20 rfl rfl ?_
  refine g_iconst (v := (0 : Int32)) C dX4_startSet_21 (by decide) ?_
  refine g_putZ C k 9 (by decide) gcl4 gft4 (gSd hk).1 (by decide) ((gSd hk).2.2.2.1 9 (by decide)) rfl rfl qw9 dX4_startSet_22 (fun σ5 => ?_)
  refine g_iconst (v := (1 : Int32)) C dX4_startSet_25 (by decide) ?_
  refine g_istore_n (L' := [(1, .int (1 : Int32)), (0, .ref (ad k))]) C dX4_startSet_26 rfl (by decide) rfl ?_
  refine g_loc [1, 0] rfl ?_
  exact b_Side_startSet_B27 C hr hl k hk 100 (1 : Int32) σ5

def F_Game_valueIn (a1 : Nat) (p2 : Int32) (σ : gSt) : Option (Int32 × gSt) := if p2 < (0 : Int32) then (some ((-1 : Int32), σ)) else (if (nI (gLn a1)) ≤ p2 then (some ((-1 : Int32), σ)) else (if p2 < 0 ∨ gLn a1 ≤ p2.toNatClampNeg then none else some ((σ a1 p2.toNatClampNeg), σ)))

set_option maxHeartbeats 4000000 in
set_option maxRecDepth 100000 in
theorem c_Game_valueIn (l : Launch) (hl : l.stackTraces = false) (D : va_G) (cI cJ : ClassId) (ad : Nat → Nat) (a1 : Nat) (p2 : Int32) (ha1 : gKd a1 = 7) : gMi l D cI cJ ad yX5_valueIn cX5_valueIn 2 (some .int) { frames := 0, cells := 0, slots := 0, locals := 0 } [.ref (ad a1), .int p2] (F_Game_valueIn a1 p2) := by
  refine gStartI (L0 := [(0, .ref (ad a1)), (1, .int p2)]) RX5 (by decide) rfl rfl (Nat.le_of_ble_eq_true rfl) ?_
  intro p e s m args below meth c sz σ r σ' C hr
  unfold F_Game_valueIn
  refine g_iload_n C 1 dX5_valueIn_0 rfl rfl ?_
  refine g_if_lt (tgt := 16) C dX5_valueIn_1 (by decide) (fun h1 => ?_) (fun h1 => ?_)
  · refine g_iconst (v := (-1 : Int32)) C dX5_valueIn_16 (by decide) ?_
    exact g_ireti C hr dX5_valueIn_17
  · refine g_iload_n C 1 dX5_valueIn_4 rfl rfl ?_
    refine g_aload_n C 0 dX5_valueIn_5 rfl rfl ?_
    refine g_alen (o := a1) (n := (gLn a1)) C ha1 rfl dX5_valueIn_6 ?_
    refine g_icmp_ge (tgt := 16) C dX5_valueIn_7 (by decide) (fun h2 => ?_) (fun h2 => ?_)
    · refine g_iconst (v := (-1 : Int32)) C dX5_valueIn_16 (by decide) ?_
      exact g_ireti C hr dX5_valueIn_17
    · refine g_aload_n C 0 dX5_valueIn_10 rfl rfl ?_
      refine g_iload_n C 1 dX5_valueIn_11 rfl rfl ?_
      refine g_iald (o := a1) (n := (gLn a1)) C ha1 rfl dX5_valueIn_12 ?_
      refine g_goto (tgt := 17) C dX5_valueIn_13 (by decide) ?_
      exact g_ireti C hr dX5_valueIn_17

def F_Side_shirtIn (k : Nat) (p1 : Int32) (σ : gSt) : Option (Int32 × gSt) := gbi (F_Game_valueIn (k + 1) p1 σ) fun r2 σ1 => some (r2, σ1)

set_option maxHeartbeats 4000000 in
set_option maxRecDepth 100000 in
theorem c_Side_shirtIn (l : Launch) (hl : l.stackTraces = false) (D : va_G) (cI cJ : ClassId) (ad : Nat → Nat) (k : Nat) (p1 : Int32) (hk : gIsSide k) : gMi l D cI cJ ad yX4_shirtIn cX4_shirtIn 2 (some .int) { frames := 1, cells := 0, slots := 0, locals := 21 } [.ref (ad k), .int p1] (F_Side_shirtIn k p1) := by
  refine gStartI (L0 := [(0, .ref (ad k)), (1, .int p1)]) RX4 (by decide) rfl rfl (Nat.le_of_ble_eq_true rfl) ?_
  intro p e s m args below meth c sz σ r σ' C hr
  unfold F_Side_shirtIn
  refine g_aload_n C 0 dX4_shirtIn_0 rfl rfl ?_
  refine g_getR (o' := (k + 1)) C k 0 gcl4 (gSd hk).1 (by decide) (gSd hk).2.1 qw21 dX4_shirtIn_1 ?_
  refine g_iload_n C 1 dX4_shirtIn_4 rfl rfl ?_
  refine g_callni (As := [.ref (ad (k + 1)), .int p1]) (n := 2) C (c_Game_valueIn l hl D cI cJ ad (k + 1) p1 (gSd hk).2.2.2.2.1) ⟨rfl, rfl⟩ qc3 (hR := ⟨Nat.le_of_ble_eq_true rfl, Nat.le_of_ble_eq_true rfl⟩) rfl rfl (Nat.le_of_ble_eq_true rfl) dX4_shirtIn_5 ⟨Nat.zero_le _, Nat.zero_le _⟩ (fun r2 σ1 => ?_)
  exact g_ireti C hr dX4_shirtIn_8

def F_Side_put (k : Nat) (p1 : Int32) (p2 : Int32) (σ : gSt) : Option gSt := gbv (F_Game_putIn (k + 1) p1 p2 σ) fun σ1 => some σ1

set_option maxHeartbeats 4000000 in
set_option maxRecDepth 100000 in
theorem c_Side_put (l : Launch) (hl : l.stackTraces = false) (D : va_G) (cI cJ : ClassId) (ad : Nat → Nat) (k : Nat) (p1 : Int32) (p2 : Int32) (hk : gIsSide k) : gMv l D cI cJ ad yX4_put cX4_put 3 none { frames := 1, cells := 0, slots := 0, locals := 22 } [.ref (ad k), .int p1, .int p2] (F_Side_put k p1 p2) := by
  refine gStartV (L0 := [(0, .ref (ad k)), (1, .int p1), (2, .int p2)]) RX4 (by decide) rfl rfl (Nat.le_of_ble_eq_true rfl) ?_
  intro p e s m args below meth c sz σ σ' C hr
  unfold F_Side_put
  refine g_aload_n C 0 dX4_put_0 rfl rfl ?_
  refine g_getR (o' := (k + 1)) C k 0 gcl4 (gSd hk).1 (by decide) (gSd hk).2.1 qw21 dX4_put_1 ?_
  refine g_iload_n C 1 dX4_put_4 rfl rfl ?_
  refine g_iload_n C 2 dX4_put_5 rfl rfl ?_
  refine g_callnv (As := [.ref (ad (k + 1)), .int p1, .int p2]) (n := 3) C (c_Game_putIn l hl D cI cJ ad (k + 1) p1 p2 (gSd hk).2.2.2.2.1) ⟨rfl, rfl⟩ qc1 (hR := ⟨Nat.le_of_ble_eq_true rfl, Nat.le_of_ble_eq_true rfl⟩) rfl rfl (Nat.le_of_ble_eq_true rfl) dX4_put_6 ⟨Nat.zero_le _, Nat.zero_le _⟩ (fun σ1 => ?_)
  exact g_retv C hr dX4_put_9

def F_Side_isLiberoIn (k : Nat) (σ : gSt) : Option (Int32 × gSt) := if (σ k 3) = (-1 : Int32) then (some ((0 : Int32), σ)) else (some ((1 : Int32), σ))

set_option maxHeartbeats 4000000 in
set_option maxRecDepth 100000 in
theorem c_Side_isLiberoIn (l : Launch) (hl : l.stackTraces = false) (D : va_G) (cI cJ : ClassId) (ad : Nat → Nat) (k : Nat) (hk : gIsSide k) : gMi l D cI cJ ad yX4_isLiberoIn cX4_isLiberoIn 1 (some .boolean) { frames := 0, cells := 0, slots := 0, locals := 0 } [.ref (ad k)] (F_Side_isLiberoIn k) := by
  refine gStartI (L0 := [(0, .ref (ad k))]) RX4 (by decide) rfl rfl (Nat.le_of_ble_eq_true rfl) ?_
  intro p e s m args below meth c sz σ r σ' C hr
  unfold F_Side_isLiberoIn
  refine g_aload_n C 0 dX4_isLiberoIn_0 rfl rfl ?_
  refine g_getI C k 3 gcl4 (gSd hk).1 (by decide) ((gSd hk).2.2.2.1 3 (by decide)) qw37 dX4_isLiberoIn_1 ?_
  refine g_iconst (v := (-1 : Int32)) C dX4_isLiberoIn_4 (by decide) ?_
  refine g_icmp_eq (tgt := 12) C dX4_isLiberoIn_5 (by decide) (fun h1 => ?_) (fun h1 => ?_)
  · refine g_iconst (v := (0 : Int32)) C dX4_isLiberoIn_12 (by decide) ?_
    exact g_iretz C (by decide) hr dX4_isLiberoIn_13
  · refine g_iconst (v := (1 : Int32)) C dX4_isLiberoIn_8 (by decide) ?_
    refine g_goto (tgt := 13) C dX4_isLiberoIn_9 (by decide) ?_
    exact g_iretz C (by decide) hr dX4_isLiberoIn_13

def F_Side_rotate_B8 (k : Nat) : Nat → Int32 → Int32 → gSt → Option gSt
  | 0, _, _, _ => none
  | n + 1, l1, l2, σ => if (6 : Int32) ≤ l2 then (gbv (F_Side_put k (6 : Int32) l1 σ) fun σ2 => gl (gup σ2 k 6 ((σ2 k 6) + (1 : Int32))) fun σ3 => gbi (F_Side_isLiberoIn k σ3) fun r5 σ4 => if r5 = (0 : Int32) then (some σ4) else (gbi (F_Side_shirtIn k (4 : Int32) σ4) fun r8 σ7 => if r8 = (σ7 k 2) then (gbv (F_Side_put k (4 : Int32) (σ7 k 3) σ7) fun σ10 => gl (gup σ10 k 3 (-1 : Int32)) fun σ11 => some σ11) else (some σ7))) else (gbi (F_Side_shirtIn k (l2 + (1 : Int32)) σ) fun r13 σ12 => gbv (F_Side_put k l2 r13 σ12) fun σ14 => F_Side_rotate_B8 k n l1 (l2 + (1 : Int32)) σ14)

def F_Side_rotate (k : Nat) (σ : gSt) : Option gSt := gbi (F_Side_shirtIn k (1 : Int32) σ) fun r2 σ1 => F_Side_rotate_B8 k 100 r2 (1 : Int32) σ1

set_option maxHeartbeats 4000000 in
set_option maxRecDepth 100000 in
theorem b_Side_rotate_B8 {p : Program} {l : Launch} {e : Env} {s : State} {m : MethodId} {args : Array Value} {below : List Frame} {meth : Method} {c : Code} {D : va_G} {cI cJ : ClassId} {ad : Nat → Nat} {sz : Nat} {σ' : gSt} (C : gC p s m args meth c D cI cJ ad (gA ad sz) cX4_rotate 3 RX4) (hr : meth.sig.returnType = none) (hl : l.stackTraces = false) (k : Nat) (hk : gIsSide k) : ∀ (n : Nat) (l1 : Int32) (l2 : Int32) (σ : gSt), gX (F_Side_rotate_B8 k n l1 l2 σ) σ' (gG p l e { frames := 2, cells := 0, slots := 0, locals := 44 } s m args below meth c D cI cJ ad (gA ad sz) 3 0 0 (MQ below (va_Qv (fun (_ : Unit) => True) (fun _ t => va_P D vwCl (gw cI cJ ad σ') t.heap) (gA ad sz)) args s 0 0 (gA ad sz)) σ 8 [(0, .ref (ad k)), (1, .int l1), (2, .int l2)] []) := by
  intro n
  induction n with
  | zero =>
    intro l1 l2 σ
    unfold F_Side_rotate_B8
    exact gX_none
  | succ n ih =>
    intro l1 l2 σ
    unfold F_Side_rotate_B8
    refine g_iload_n C 2 dX4_rotate_8 rfl rfl ?_
    refine g_bipush (v := (6 : Int32)) C dX4_rotate_9 (by decide) ?_
    refine g_icmp_ge (tgt := 32) C dX4_rotate_11 (by decide) (fun h1 => ?_) (fun h1 => ?_)
    · refine g_aload_n C 0 dX4_rotate_32 rfl rfl ?_
      refine g_bipush (v := (6 : Int32)) C dX4_rotate_33 (by decide) ?_
      refine g_iload_n C 1 dX4_rotate_35 rfl rfl ?_
      refine g_callvv (As := [.int (6 : Int32), .int l1]) (n := 2) C (c_Side_put l hl D cI cJ ad k (6 : Int32) l1 hk) ⟨rfl, rfl⟩ gcl4 (gSd hk).1 qc7 (hR := ⟨Nat.le_of_ble_eq_true rfl, Nat.le_of_ble_eq_true rfl⟩) rfl rfl (Nat.le_of_ble_eq_true rfl) dX4_rotate_36 ⟨Nat.zero_le _, Nat.zero_le _⟩ (fun σ2 => ?_)
      refine g_aload_n C 0 dX4_rotate_39 rfl rfl ?_
      refine g_dup C dX4_rotate_40 rfl ?_
      refine g_getI C k 6 gcl4 (gSd hk).1 (by decide) ((gSd hk).2.2.2.1 6 (by decide)) qw6 dX4_rotate_41 ?_
      refine g_iconst (v := (1 : Int32)) C dX4_rotate_44 (by decide) ?_
      refine g_iadd C dX4_rotate_45 ?_
      refine g_putI C k 6 gcl4 gft4 (gSd hk).1 (by decide) ((gSd hk).2.2.2.1 6 (by decide)) rfl rfl qw6 dX4_rotate_46 (fun σ3 => ?_)
      refine g_aload_n C 0 dX4_rotate_49 rfl rfl ?_
      refine g_callvi (As := []) (n := 0) C (c_Side_isLiberoIn l hl D cI cJ ad k hk) ⟨rfl, rfl⟩ gcl4 (gSd hk).1 qc8 (hR := ⟨Nat.le_of_ble_eq_true rfl, Nat.le_of_ble_eq_true rfl⟩) rfl rfl (Nat.le_of_ble_eq_true rfl) dX4_rotate_50 ⟨Nat.zero_le _, Nat.zero_le _⟩ (fun r5 σ4 => ?_)
      refine g_if_eq (tgt := 82) C dX4_rotate_53 (by decide) (fun h6 => ?_) (fun h6 => ?_)
      · exact g_retv C hr dX4_rotate_82
      · refine g_aload_n C 0 dX4_rotate_56 rfl rfl ?_
        refine g_iconst (v := (4 : Int32)) C dX4_rotate_57 (by decide) ?_
        refine g_callvi (As := [.int (4 : Int32)]) (n := 1) C (c_Side_shirtIn l hl D cI cJ ad k (4 : Int32) hk) ⟨rfl, rfl⟩ gcl4 (gSd hk).1 qc6 (hR := ⟨Nat.le_of_ble_eq_true rfl, Nat.le_of_ble_eq_true rfl⟩) rfl rfl (Nat.le_of_ble_eq_true rfl) dX4_rotate_58 ⟨Nat.zero_le _, Nat.zero_le _⟩ (fun r8 σ7 => ?_)
        refine g_aload_n C 0 dX4_rotate_61 rfl rfl ?_
        refine g_getI C k 2 gcl4 (gSd hk).1 (by decide) ((gSd hk).2.2.2.1 2 (by decide)) qw47 dX4_rotate_62 ?_
        refine g_icmp_ne (tgt := 82) C dX4_rotate_65 (by decide) (fun h9 => ?_) (fun h9 => ?_)
        · refine g_aload_n C 0 dX4_rotate_68 rfl rfl ?_
          refine g_iconst (v := (4 : Int32)) C dX4_rotate_69 (by decide) ?_
          refine g_aload_n C 0 dX4_rotate_70 rfl rfl ?_
          refine g_getI C k 3 gcl4 (gSd hk).1 (by decide) ((gSd hk).2.2.2.1 3 (by decide)) qw37 dX4_rotate_71 ?_
          refine g_callvv (As := [.int (4 : Int32), .int (σ7 k 3)]) (n := 2) C (c_Side_put l hl D cI cJ ad k (4 : Int32) (σ7 k 3) hk) ⟨rfl, rfl⟩ gcl4 (gSd hk).1 qc7 (hR := ⟨Nat.le_of_ble_eq_true rfl, Nat.le_of_ble_eq_true rfl⟩) rfl rfl (Nat.le_of_ble_eq_true rfl) dX4_rotate_74 ⟨Nat.zero_le _, Nat.zero_le _⟩ (fun σ10 => ?_)
          refine g_aload_n C 0 dX4_rotate_77 rfl rfl ?_
          refine g_iconst (v := (-1 : Int32)) C dX4_rotate_78 (by decide) ?_
          refine g_putI C k 3 gcl4 gft4 (gSd hk).1 (by decide) ((gSd hk).2.2.2.1 3 (by decide)) rfl rfl qw37 dX4_rotate_79 (fun σ11 => ?_)
          exact g_retv C hr dX4_rotate_82
        · exact g_retv C hr dX4_rotate_82
    · refine g_aload_n C 0 dX4_rotate_14 rfl rfl ?_
      refine g_iload_n C 2 dX4_rotate_15 rfl rfl ?_
      refine g_aload_n C 0 dX4_rotate_16 rfl rfl ?_
      refine g_iload_n C 2 dX4_rotate_17 rfl rfl ?_
      refine g_iconst (v := (1 : Int32)) C dX4_rotate_18 (by decide) ?_
      refine g_iadd C dX4_rotate_19 ?_
      refine g_callvi (As := [.int (l2 + (1 : Int32))]) (n := 1) C (c_Side_shirtIn l hl D cI cJ ad k (l2 + (1 : Int32)) hk) ⟨rfl, rfl⟩ gcl4 (gSd hk).1 qc6 (hR := ⟨Nat.le_of_ble_eq_true rfl, Nat.le_of_ble_eq_true rfl⟩) rfl rfl (Nat.le_of_ble_eq_true rfl) dX4_rotate_20 ⟨Nat.zero_le _, Nat.zero_le _⟩ (fun r13 σ12 => ?_)
      refine g_callvv (As := [.int l2, .int r13]) (n := 2) C (c_Side_put l hl D cI cJ ad k l2 r13 hk) ⟨rfl, rfl⟩ gcl4 (gSd hk).1 qc7 (hR := ⟨Nat.le_of_ble_eq_true rfl, Nat.le_of_ble_eq_true rfl⟩) rfl rfl (Nat.le_of_ble_eq_true rfl) dX4_rotate_23 ⟨Nat.zero_le _, Nat.zero_le _⟩ (fun σ14 => ?_)
      refine g_iinc (v := (l2 + (1 : Int32))) (L' := [(2, .int (l2 + (1 : Int32))), (0, .ref (ad k)), (1, .int l1)]) C 2 dX4_rotate_26 rfl (by rfl) (by decide) rfl ?_
      refine g_goto (tgt := 8) C dX4_rotate_29 (by decide) ?_
      refine g_loc [1, 2, 0] rfl ?_
      exact ih l1 (l2 + (1 : Int32)) σ14

set_option maxHeartbeats 4000000 in
set_option maxRecDepth 100000 in
theorem c_Side_rotate (l : Launch) (hl : l.stackTraces = false) (D : va_G) (cI cJ : ClassId) (ad : Nat → Nat) (k : Nat) (hk : gIsSide k) : gMv l D cI cJ ad yX4_rotate cX4_rotate 3 none { frames := 2, cells := 0, slots := 0, locals := 44 } [.ref (ad k)] (F_Side_rotate k) := by
  refine gStartV (L0 := [(0, .ref (ad k))]) RX4 (by decide) rfl rfl (Nat.le_of_ble_eq_true rfl) ?_
  intro p e s m args below meth c sz σ σ' C hr
  unfold F_Side_rotate
  refine g_aload_n C 0 dX4_rotate_0 rfl rfl ?_
  refine g_iconst (v := (1 : Int32)) C dX4_rotate_1 (by decide) ?_
  refine g_callvi (As := [.int (1 : Int32)]) (n := 1) C (c_Side_shirtIn l hl D cI cJ ad k (1 : Int32) hk) ⟨rfl, rfl⟩ gcl4 (gSd hk).1 qc6 (hR := ⟨Nat.le_of_ble_eq_true rfl, Nat.le_of_ble_eq_true rfl⟩) rfl rfl (Nat.le_of_ble_eq_true rfl) dX4_rotate_2 ⟨Nat.zero_le _, Nat.zero_le _⟩ (fun r2 σ1 => ?_)
  refine g_istore_n (L' := [(1, .int r2), (0, .ref (ad k))]) C dX4_rotate_5 rfl (by decide) rfl ?_
  refine g_iconst (v := (1 : Int32)) C dX4_rotate_6 (by decide) ?_
  refine g_istore_n (L' := [(2, .int (1 : Int32)), (1, .int r2), (0, .ref (ad k))]) C dX4_rotate_7 rfl (by decide) rfl ?_
  refine g_loc [2, 1, 0] rfl ?_
  exact b_Side_rotate_B8 C hr hl k hk 100 r2 (1 : Int32) σ1

def F_Side_clearOrder_B2 (k : Nat) : Nat → Int32 → gSt → Option gSt
  | 0, _, _ => none
  | n + 1, l1, σ => if (6 : Int32) < l1 then (gl (gup σ k 2 (-1 : Int32)) fun σ2 => gl (gup σ2 k 3 (-1 : Int32)) fun σ3 => some σ3) else (gbv (F_Side_put k l1 (-1 : Int32) σ) fun σ4 => F_Side_clearOrder_B2 k n (l1 + (1 : Int32)) σ4)

def F_Side_clearOrder (k : Nat) (σ : gSt) : Option gSt := F_Side_clearOrder_B2 k 100 (1 : Int32) σ

set_option maxHeartbeats 4000000 in
set_option maxRecDepth 100000 in
theorem b_Side_clearOrder_B2 {p : Program} {l : Launch} {e : Env} {s : State} {m : MethodId} {args : Array Value} {below : List Frame} {meth : Method} {c : Code} {D : va_G} {cI cJ : ClassId} {ad : Nat → Nat} {sz : Nat} {σ' : gSt} (C : gC p s m args meth c D cI cJ ad (gA ad sz) cX4_clearOrder 2 RX4) (hr : meth.sig.returnType = none) (hl : l.stackTraces = false) (k : Nat) (hk : gIsSide k) : ∀ (n : Nat) (l1 : Int32) (σ : gSt), gX (F_Side_clearOrder_B2 k n l1 σ) σ' (gG p l e { frames := 2, cells := 0, slots := 0, locals := 44 } s m args below meth c D cI cJ ad (gA ad sz) 2 0 0 (MQ below (va_Qv (fun (_ : Unit) => True) (fun _ t => va_P D vwCl (gw cI cJ ad σ') t.heap) (gA ad sz)) args s 0 0 (gA ad sz)) σ 2 [(0, .ref (ad k)), (1, .int l1)] []) := by
  intro n
  induction n with
  | zero =>
    intro l1 σ
    unfold F_Side_clearOrder_B2
    exact gX_none
  | succ n ih =>
    intro l1 σ
    unfold F_Side_clearOrder_B2
    refine g_iload_n C 1 dX4_clearOrder_2 rfl rfl ?_
    refine g_bipush (v := (6 : Int32)) C dX4_clearOrder_3 (by decide) ?_
    refine g_icmp_gt (tgt := 20) C dX4_clearOrder_5 (by decide) (fun h1 => ?_) (fun h1 => ?_)
    · refine g_aload_n C 0 dX4_clearOrder_20 rfl rfl ?_
      refine g_iconst (v := (-1 : Int32)) C dX4_clearOrder_21 (by decide) ?_
      refine g_putI C k 2 gcl4 gft4 (gSd hk).1 (by decide) ((gSd hk).2.2.2.1 2 (by decide)) rfl rfl qw47 dX4_clearOrder_22 (fun σ2 => ?_)
      refine g_aload_n C 0 dX4_clearOrder_25 rfl rfl ?_
      refine g_iconst (v := (-1 : Int32)) C dX4_clearOrder_26 (by decide) ?_
      refine g_putI C k 3 gcl4 gft4 (gSd hk).1 (by decide) ((gSd hk).2.2.2.1 3 (by decide)) rfl rfl qw37 dX4_clearOrder_27 (fun σ3 => ?_)
      exact g_retv C hr dX4_clearOrder_30
    · refine g_aload_n C 0 dX4_clearOrder_8 rfl rfl ?_
      refine g_iload_n C 1 dX4_clearOrder_9 rfl rfl ?_
      refine g_iconst (v := (-1 : Int32)) C dX4_clearOrder_10 (by decide) ?_
      refine g_callvv (As := [.int l1, .int (-1 : Int32)]) (n := 2) C (c_Side_put l hl D cI cJ ad k l1 (-1 : Int32) hk) ⟨rfl, rfl⟩ gcl4 (gSd hk).1 qc7 (hR := ⟨Nat.le_of_ble_eq_true rfl, Nat.le_of_ble_eq_true rfl⟩) rfl rfl (Nat.le_of_ble_eq_true rfl) dX4_clearOrder_11 ⟨Nat.zero_le _, Nat.zero_le _⟩ (fun σ4 => ?_)
      refine g_iinc (v := (l1 + (1 : Int32))) (L' := [(1, .int (l1 + (1 : Int32))), (0, .ref (ad k))]) C 1 dX4_clearOrder_14 rfl (by rfl) (by decide) rfl ?_
      refine g_goto (tgt := 2) C dX4_clearOrder_17 (by decide) ?_
      refine g_loc [1, 0] rfl ?_
      exact ih (l1 + (1 : Int32)) σ4

set_option maxHeartbeats 4000000 in
set_option maxRecDepth 100000 in
theorem c_Side_clearOrder (l : Launch) (hl : l.stackTraces = false) (D : va_G) (cI cJ : ClassId) (ad : Nat → Nat) (k : Nat) (hk : gIsSide k) : gMv l D cI cJ ad yX4_clearOrder cX4_clearOrder 2 none { frames := 2, cells := 0, slots := 0, locals := 44 } [.ref (ad k)] (F_Side_clearOrder k) := by
  refine gStartV (L0 := [(0, .ref (ad k))]) RX4 (by decide) rfl rfl (Nat.le_of_ble_eq_true rfl) ?_
  intro p e s m args below meth c sz σ σ' C hr
  unfold F_Side_clearOrder
  refine g_iconst (v := (1 : Int32)) C dX4_clearOrder_0 (by decide) ?_
  refine g_istore_n (L' := [(1, .int (1 : Int32)), (0, .ref (ad k))]) C dX4_clearOrder_1 rfl (by decide) rfl ?_
  refine g_loc [1, 0] rfl ?_
  exact b_Side_clearOrder_B2 C hr hl k hk 100 (1 : Int32) σ

def F_Side_copyFrom_B26 (k : Nat) (a1 : Nat) : Nat → Int32 → gSt → Option gSt
  | 0, _, _ => none
  | n + 1, l2, σ => if (20 : Int32) < l2 then (gl (gup σ k 2 (σ a1 2)) fun σ2 => gl (gup σ2 k 3 (σ2 a1 3)) fun σ3 => gl (gup σ3 k 4 (σ3 a1 4)) fun σ4 => gl (gup σ4 k 5 (σ4 a1 5)) fun σ5 => gl (gup σ5 k 6 (σ5 a1 6)) fun σ6 => gl (gup σ6 k 7 (σ6 a1 7)) fun σ7 => gl (gup σ7 k 8 (σ7 a1 8)) fun σ8 => if (σ8 a1 9) = 0 ∨ (σ8 a1 9) = 1 then gl (gup σ8 k 9 (σ8 a1 9)) fun σ9 => some σ9 else none) else (gbi (F_Game_valueIn (a1 + 2) l2 σ) fun r12 σ11 => gbv (F_Game_putIn (k + 2) l2 r12 σ11) fun σ13 => F_Side_copyFrom_B26 k a1 n (l2 + (1 : Int32)) σ13)

def F_Side_copyFrom_B2 (k : Nat) (a1 : Nat) : Nat → Int32 → gSt → Option gSt
  | 0, _, _ => none
  | n + 1, l2, σ => if (6 : Int32) < l2 then (F_Side_copyFrom_B26 k a1 100 (1 : Int32) σ) else (gbi (F_Side_shirtIn a1 l2 σ) fun r3 σ2 => gbv (F_Side_put k l2 r3 σ2) fun σ4 => F_Side_copyFrom_B2 k a1 n (l2 + (1 : Int32)) σ4)

def F_Side_copyFrom (k : Nat) (a1 : Nat) (σ : gSt) : Option gSt := F_Side_copyFrom_B2 k a1 100 (1 : Int32) σ

set_option maxHeartbeats 4000000 in
set_option maxRecDepth 100000 in
theorem b_Side_copyFrom_B26 {p : Program} {l : Launch} {e : Env} {s : State} {m : MethodId} {args : Array Value} {below : List Frame} {meth : Method} {c : Code} {D : va_G} {cI cJ : ClassId} {ad : Nat → Nat} {sz : Nat} {σ' : gSt} (C : gC p s m args meth c D cI cJ ad (gA ad sz) cX4_copyFrom 3 RX4) (hr : meth.sig.returnType = none) (hl : l.stackTraces = false) (k : Nat) (a1 : Nat) (hk : gIsSide k) (ha1 : gIsSide a1) : ∀ (n : Nat) (l2 : Int32) (σ : gSt), gX (F_Side_copyFrom_B26 k a1 n l2 σ) σ' (gG p l e { frames := 2, cells := 0, slots := 0, locals := 44 } s m args below meth c D cI cJ ad (gA ad sz) 3 0 0 (MQ below (va_Qv (fun (_ : Unit) => True) (fun _ t => va_P D vwCl (gw cI cJ ad σ') t.heap) (gA ad sz)) args s 0 0 (gA ad sz)) σ 26 [(0, .ref (ad k)), (1, .ref (ad a1)), (2, .int l2)] []) := by
  intro n
  induction n with
  | zero =>
    intro l2 σ
    unfold F_Side_copyFrom_B26
    exact gX_none
  | succ n ih =>
    intro l2 σ
    unfold F_Side_copyFrom_B26
    refine g_iload_n C 2 dX4_copyFrom_26 rfl rfl ?_
    refine g_bipush (v := (20 : Int32)) C dX4_copyFrom_27 (by decide) ?_
    refine g_icmp_gt (tgt := 54) C dX4_copyFrom_29 (by decide) (fun h1 => ?_) (fun h1 => ?_)
    · refine g_aload_n C 0 dX4_copyFrom_54 rfl rfl ?_
      refine g_aload_n C 1 dX4_copyFrom_55 rfl rfl ?_
      refine g_getI C a1 2 gcl4 (gSd ha1).1 (by decide) ((gSd ha1).2.2.2.1 2 (by decide)) qw47 dX4_copyFrom_56 ?_
      refine g_putI C k 2 gcl4 gft4 (gSd hk).1 (by decide) ((gSd hk).2.2.2.1 2 (by decide)) rfl rfl qw47 dX4_copyFrom_59 (fun σ2 => ?_)
      refine g_aload_n C 0 dX4_copyFrom_62 rfl rfl ?_
      refine g_aload_n C 1 dX4_copyFrom_63 rfl rfl ?_
      refine g_getI C a1 3 gcl4 (gSd ha1).1 (by decide) ((gSd ha1).2.2.2.1 3 (by decide)) qw37 dX4_copyFrom_64 ?_
      refine g_putI C k 3 gcl4 gft4 (gSd hk).1 (by decide) ((gSd hk).2.2.2.1 3 (by decide)) rfl rfl qw37 dX4_copyFrom_67 (fun σ3 => ?_)
      refine g_aload_n C 0 dX4_copyFrom_70 rfl rfl ?_
      refine g_aload_n C 1 dX4_copyFrom_71 rfl rfl ?_
      refine g_getI C a1 4 gcl4 (gSd ha1).1 (by decide) ((gSd ha1).2.2.2.1 4 (by decide)) qw5 dX4_copyFrom_72 ?_
      refine g_putI C k 4 gcl4 gft4 (gSd hk).1 (by decide) ((gSd hk).2.2.2.1 4 (by decide)) rfl rfl qw5 dX4_copyFrom_75 (fun σ4 => ?_)
      refine g_aload_n C 0 dX4_copyFrom_78 rfl rfl ?_
      refine g_aload_n C 1 dX4_copyFrom_79 rfl rfl ?_
      refine g_getI C a1 5 gcl4 (gSd ha1).1 (by decide) ((gSd ha1).2.2.2.1 5 (by decide)) qw64 dX4_copyFrom_80 ?_
      refine g_putI C k 5 gcl4 gft4 (gSd hk).1 (by decide) ((gSd hk).2.2.2.1 5 (by decide)) rfl rfl qw64 dX4_copyFrom_83 (fun σ5 => ?_)
      refine g_aload_n C 0 dX4_copyFrom_86 rfl rfl ?_
      refine g_aload_n C 1 dX4_copyFrom_87 rfl rfl ?_
      refine g_getI C a1 6 gcl4 (gSd ha1).1 (by decide) ((gSd ha1).2.2.2.1 6 (by decide)) qw6 dX4_copyFrom_88 ?_
      refine g_putI C k 6 gcl4 gft4 (gSd hk).1 (by decide) ((gSd hk).2.2.2.1 6 (by decide)) rfl rfl qw6 dX4_copyFrom_91 (fun σ6 => ?_)
      refine g_aload_n C 0 dX4_copyFrom_94 rfl rfl ?_
      refine g_aload_n C 1 dX4_copyFrom_95 rfl rfl ?_
      refine g_getI C a1 7 gcl4 (gSd ha1).1 (by decide) ((gSd ha1).2.2.2.1 7 (by decide)) qw7 dX4_copyFrom_96 ?_
      refine g_putI C k 7 gcl4 gft4 (gSd hk).1 (by decide) ((gSd hk).2.2.2.1 7 (by decide)) rfl rfl qw7 dX4_copyFrom_99 (fun σ7 => ?_)
      refine g_aload_n C 0 dX4_copyFrom_102 rfl rfl ?_
      refine g_aload_n C 1 dX4_copyFrom_103 rfl rfl ?_
      refine g_getI C a1 8 gcl4 (gSd ha1).1 (by decide) ((gSd ha1).2.2.2.1 8 (by decide)) qw8 dX4_copyFrom_104 ?_
      refine g_putI C k 8 gcl4 gft4 (gSd hk).1 (by decide) ((gSd hk).2.2.2.1 8 (by decide)) rfl rfl qw8 dX4_copyFrom_107 (fun σ8 => ?_)
      refine g_aload_n C 0 dX4_copyFrom_110 rfl rfl ?_
      refine g_aload_n C 1 dX4_copyFrom_111 rfl rfl ?_
      refine g_getI C a1 9 gcl4 (gSd ha1).1 (by decide) ((gSd ha1).2.2.2.1 9 (by decide)) qw9 dX4_copyFrom_112 ?_
      refine gX_z (fun z10 => ?_)
      refine g_putZ C k 9 z10 gcl4 gft4 (gSd hk).1 (by decide) ((gSd hk).2.2.2.1 9 (by decide)) rfl rfl qw9 dX4_copyFrom_115 (fun σ9 => ?_)
      exact g_retv C hr dX4_copyFrom_118
    · refine g_aload_n C 0 dX4_copyFrom_32 rfl rfl ?_
      refine g_getR (o' := (k + 2)) C k 1 gcl4 (gSd hk).1 (by decide) (gSd hk).2.2.1 qw10 dX4_copyFrom_33 ?_
      refine g_iload_n C 2 dX4_copyFrom_36 rfl rfl ?_
      refine g_aload_n C 1 dX4_copyFrom_37 rfl rfl ?_
      refine g_getR (o' := (a1 + 2)) C a1 1 gcl4 (gSd ha1).1 (by decide) (gSd ha1).2.2.1 qw10 dX4_copyFrom_38 ?_
      refine g_iload_n C 2 dX4_copyFrom_41 rfl rfl ?_
      refine g_callni (As := [.ref (ad (a1 + 2)), .int l2]) (n := 2) C (c_Game_valueIn l hl D cI cJ ad (a1 + 2) l2 (gSd ha1).2.2.2.2.2.1) ⟨rfl, rfl⟩ qc3 (hR := ⟨Nat.le_of_ble_eq_true rfl, Nat.le_of_ble_eq_true rfl⟩) rfl rfl (Nat.le_of_ble_eq_true rfl) dX4_copyFrom_42 ⟨Nat.zero_le _, Nat.zero_le _⟩ (fun r12 σ11 => ?_)
      refine g_callnv (As := [.ref (ad (k + 2)), .int l2, .int r12]) (n := 3) C (c_Game_putIn l hl D cI cJ ad (k + 2) l2 r12 (gSd hk).2.2.2.2.2.1) ⟨rfl, rfl⟩ qc1 (hR := ⟨Nat.le_of_ble_eq_true rfl, Nat.le_of_ble_eq_true rfl⟩) rfl rfl (Nat.le_of_ble_eq_true rfl) dX4_copyFrom_45 ⟨Nat.zero_le _, Nat.zero_le _⟩ (fun σ13 => ?_)
      refine g_iinc (v := (l2 + (1 : Int32))) (L' := [(2, .int (l2 + (1 : Int32))), (0, .ref (ad k)), (1, .ref (ad a1))]) C 2 dX4_copyFrom_48 rfl (by rfl) (by decide) rfl ?_
      refine g_goto (tgt := 26) C dX4_copyFrom_51 (by decide) ?_
      refine g_loc [1, 2, 0] rfl ?_
      exact ih (l2 + (1 : Int32)) σ13

set_option maxHeartbeats 4000000 in
set_option maxRecDepth 100000 in
theorem b_Side_copyFrom_B2 {p : Program} {l : Launch} {e : Env} {s : State} {m : MethodId} {args : Array Value} {below : List Frame} {meth : Method} {c : Code} {D : va_G} {cI cJ : ClassId} {ad : Nat → Nat} {sz : Nat} {σ' : gSt} (C : gC p s m args meth c D cI cJ ad (gA ad sz) cX4_copyFrom 3 RX4) (hr : meth.sig.returnType = none) (hl : l.stackTraces = false) (k : Nat) (a1 : Nat) (hk : gIsSide k) (ha1 : gIsSide a1) : ∀ (n : Nat) (l2 : Int32) (σ : gSt), gX (F_Side_copyFrom_B2 k a1 n l2 σ) σ' (gG p l e { frames := 2, cells := 0, slots := 0, locals := 44 } s m args below meth c D cI cJ ad (gA ad sz) 3 0 0 (MQ below (va_Qv (fun (_ : Unit) => True) (fun _ t => va_P D vwCl (gw cI cJ ad σ') t.heap) (gA ad sz)) args s 0 0 (gA ad sz)) σ 2 [(0, .ref (ad k)), (1, .ref (ad a1)), (2, .int l2)] []) := by
  intro n
  induction n with
  | zero =>
    intro l2 σ
    unfold F_Side_copyFrom_B2
    exact gX_none
  | succ n ih =>
    intro l2 σ
    unfold F_Side_copyFrom_B2
    refine g_iload_n C 2 dX4_copyFrom_2 rfl rfl ?_
    refine g_bipush (v := (6 : Int32)) C dX4_copyFrom_3 (by decide) ?_
    refine g_icmp_gt (tgt := 24) C dX4_copyFrom_5 (by decide) (fun h1 => ?_) (fun h1 => ?_)
    · refine g_iconst (v := (1 : Int32)) C dX4_copyFrom_24 (by decide) ?_
      refine g_istore_n (L' := [(2, .int (1 : Int32)), (0, .ref (ad k)), (1, .ref (ad a1))]) C dX4_copyFrom_25 rfl (by decide) rfl ?_
      refine g_loc [1, 2, 0] rfl ?_
      exact b_Side_copyFrom_B26 C hr hl k a1 hk ha1 100 (1 : Int32) σ
    · refine g_aload_n C 0 dX4_copyFrom_8 rfl rfl ?_
      refine g_iload_n C 2 dX4_copyFrom_9 rfl rfl ?_
      refine g_aload_n C 1 dX4_copyFrom_10 rfl rfl ?_
      refine g_iload_n C 2 dX4_copyFrom_11 rfl rfl ?_
      refine g_callvi (As := [.int l2]) (n := 1) C (c_Side_shirtIn l hl D cI cJ ad a1 l2 ha1) ⟨rfl, rfl⟩ gcl4 (gSd ha1).1 qc6 (hR := ⟨Nat.le_of_ble_eq_true rfl, Nat.le_of_ble_eq_true rfl⟩) rfl rfl (Nat.le_of_ble_eq_true rfl) dX4_copyFrom_12 ⟨Nat.zero_le _, Nat.zero_le _⟩ (fun r3 σ2 => ?_)
      refine g_callvv (As := [.int l2, .int r3]) (n := 2) C (c_Side_put l hl D cI cJ ad k l2 r3 hk) ⟨rfl, rfl⟩ gcl4 (gSd hk).1 qc7 (hR := ⟨Nat.le_of_ble_eq_true rfl, Nat.le_of_ble_eq_true rfl⟩) rfl rfl (Nat.le_of_ble_eq_true rfl) dX4_copyFrom_15 ⟨Nat.zero_le _, Nat.zero_le _⟩ (fun σ4 => ?_)
      refine g_iinc (v := (l2 + (1 : Int32))) (L' := [(2, .int (l2 + (1 : Int32))), (0, .ref (ad k)), (1, .ref (ad a1))]) C 2 dX4_copyFrom_18 rfl (by rfl) (by decide) rfl ?_
      refine g_goto (tgt := 2) C dX4_copyFrom_21 (by decide) ?_
      refine g_loc [1, 2, 0] rfl ?_
      exact ih (l2 + (1 : Int32)) σ4

set_option maxHeartbeats 4000000 in
set_option maxRecDepth 100000 in
theorem c_Side_copyFrom (l : Launch) (hl : l.stackTraces = false) (D : va_G) (cI cJ : ClassId) (ad : Nat → Nat) (k : Nat) (a1 : Nat) (hk : gIsSide k) (ha1 : gIsSide a1) : gMv l D cI cJ ad yX4_copyFrom cX4_copyFrom 3 none { frames := 2, cells := 0, slots := 0, locals := 44 } [.ref (ad k), .ref (ad a1)] (F_Side_copyFrom k a1) := by
  refine gStartV (L0 := [(0, .ref (ad k)), (1, .ref (ad a1))]) RX4 (by decide) rfl rfl (Nat.le_of_ble_eq_true rfl) ?_
  intro p e s m args below meth c sz σ σ' C hr
  unfold F_Side_copyFrom
  refine g_iconst (v := (1 : Int32)) C dX4_copyFrom_0 (by decide) ?_
  refine g_istore_n (L' := [(2, .int (1 : Int32)), (0, .ref (ad k)), (1, .ref (ad a1))]) C dX4_copyFrom_1 rfl (by decide) rfl ?_
  refine g_loc [1, 2, 0] rfl ?_
  exact b_Side_copyFrom_B2 C hr hl k a1 hk ha1 100 (1 : Int32) σ

def F_Side_placeOf_B2 (k : Nat) (p1 : Int32) : Nat → Int32 → Int32 → gSt → Option (Int32 × gSt)
  | 0, _, _, _ => none
  | n + 1, l1, l2, σ => if (6 : Int32) < l2 then (some ((-1 : Int32), σ)) else (gbi (F_Side_shirtIn k l2 σ) fun r3 σ2 => if r3 = l1 then (some (l2, σ2)) else (F_Side_placeOf_B2 k p1 n l1 (l2 + (1 : Int32)) σ2))

def F_Side_placeOf (k : Nat) (p1 : Int32) (σ : gSt) : Option (Int32 × gSt) := F_Side_placeOf_B2 k p1 100 p1 (1 : Int32) σ

set_option maxHeartbeats 4000000 in
set_option maxRecDepth 100000 in
theorem b_Side_placeOf_B2 {p : Program} {l : Launch} {e : Env} {s : State} {m : MethodId} {args : Array Value} {below : List Frame} {meth : Method} {c : Code} {D : va_G} {cI cJ : ClassId} {ad : Nat → Nat} {sz : Nat} {r : Int32} {σ' : gSt} (C : gC p s m args meth c D cI cJ ad (gA ad sz) cX4_placeOf 3 RX4) (hr : meth.sig.returnType = (some .int)) (hl : l.stackTraces = false) (k : Nat) (p1 : Int32) (hk : gIsSide k) : ∀ (n : Nat) (l1 : Int32) (l2 : Int32) (σ : gSt), gX (F_Side_placeOf_B2 k p1 n l1 l2 σ) (r, σ') (gG p l e { frames := 2, cells := 0, slots := 0, locals := 42 } s m args below meth c D cI cJ ad (gA ad sz) 3 0 0 (MQ below (va_Qi (fun r1 (_ : Unit) => r1 = r) (fun _ t => va_P D vwCl (gw cI cJ ad σ') t.heap) (gA ad sz)) args s 0 0 (gA ad sz)) σ 2 [(0, .ref (ad k)), (1, .int l1), (2, .int l2)] []) := by
  intro n
  induction n with
  | zero =>
    intro l1 l2 σ
    unfold F_Side_placeOf_B2
    exact gX_none
  | succ n ih =>
    intro l1 l2 σ
    unfold F_Side_placeOf_B2
    refine g_iload_n C 2 dX4_placeOf_2 rfl rfl ?_
    refine g_bipush (v := (6 : Int32)) C dX4_placeOf_3 (by decide) ?_
    refine g_icmp_gt (tgt := 25) C dX4_placeOf_5 (by decide) (fun h1 => ?_) (fun h1 => ?_)
    · refine g_iconst (v := (-1 : Int32)) C dX4_placeOf_25 (by decide) ?_
      exact g_ireti C hr dX4_placeOf_26
    · refine g_aload_n C 0 dX4_placeOf_8 rfl rfl ?_
      refine g_iload_n C 2 dX4_placeOf_9 rfl rfl ?_
      refine g_callvi (As := [.int l2]) (n := 1) C (c_Side_shirtIn l hl D cI cJ ad k l2 hk) ⟨rfl, rfl⟩ gcl4 (gSd hk).1 qc6 (hR := ⟨Nat.le_of_ble_eq_true rfl, Nat.le_of_ble_eq_true rfl⟩) rfl rfl (Nat.le_of_ble_eq_true rfl) dX4_placeOf_10 ⟨Nat.zero_le _, Nat.zero_le _⟩ (fun r3 σ2 => ?_)
      refine g_iload_n C 1 dX4_placeOf_13 rfl rfl ?_
      refine g_icmp_ne (tgt := 19) C dX4_placeOf_14 (by decide) (fun h4 => ?_) (fun h4 => ?_)
      · refine g_iload_n C 2 dX4_placeOf_17 rfl rfl ?_
        exact g_ireti C hr dX4_placeOf_18
      · refine g_iinc (v := (l2 + (1 : Int32))) (L' := [(2, .int (l2 + (1 : Int32))), (0, .ref (ad k)), (1, .int l1)]) C 2 dX4_placeOf_19 rfl (by rfl) (by decide) rfl ?_
        refine g_goto (tgt := 2) C dX4_placeOf_22 (by decide) ?_
        refine g_loc [1, 2, 0] rfl ?_
        exact ih l1 (l2 + (1 : Int32)) σ2

set_option maxHeartbeats 4000000 in
set_option maxRecDepth 100000 in
theorem c_Side_placeOf (l : Launch) (hl : l.stackTraces = false) (D : va_G) (cI cJ : ClassId) (ad : Nat → Nat) (k : Nat) (p1 : Int32) (hk : gIsSide k) : gMi l D cI cJ ad yX4_placeOf cX4_placeOf 3 (some .int) { frames := 2, cells := 0, slots := 0, locals := 42 } [.ref (ad k), .int p1] (F_Side_placeOf k p1) := by
  refine gStartI (L0 := [(0, .ref (ad k)), (1, .int p1)]) RX4 (by decide) rfl rfl (Nat.le_of_ble_eq_true rfl) ?_
  intro p e s m args below meth c sz σ r σ' C hr
  unfold F_Side_placeOf
  refine g_iconst (v := (1 : Int32)) C dX4_placeOf_0 (by decide) ?_
  refine g_istore_n (L' := [(2, .int (1 : Int32)), (0, .ref (ad k)), (1, .int p1)]) C dX4_placeOf_1 rfl (by decide) rfl ?_
  refine g_loc [1, 2, 0] rfl ?_
  exact b_Side_placeOf_B2 C hr hl k p1 hk 100 p1 (1 : Int32) σ

def F_Side_swapLibero (k : Nat) (p1 : Int32) (σ : gSt) : Option gSt := gbi (F_Side_isLiberoIn k σ) fun r2 σ1 => if r2 = (0 : Int32) then (gbi (F_Side_placeOf k p1 σ1) fun r5 σ4 => gbv (F_Side_put k r5 (σ4 k 2) σ4) fun σ6 => gl (gup σ6 k 3 p1) fun σ7 => gl (gup σ7 k 9 (1 : Int32)) fun σ8 => some σ8) else (gbi (F_Side_placeOf k (σ1 k 2) σ1) fun r10 σ9 => gbv (F_Side_put k r10 p1 σ9) fun σ11 => gl (gup σ11 k 3 (-1 : Int32)) fun σ12 => gl (gup σ12 k 9 (1 : Int32)) fun σ13 => some σ13)

set_option maxHeartbeats 4000000 in
set_option maxRecDepth 100000 in
theorem c_Side_swapLibero (l : Launch) (hl : l.stackTraces = false) (D : va_G) (cI cJ : ClassId) (ad : Nat → Nat) (k : Nat) (p1 : Int32) (hk : gIsSide k) : gMv l D cI cJ ad yX4_swapLibero cX4_swapLibero 2 none { frames := 3, cells := 0, slots := 0, locals := 64 } [.ref (ad k), .int p1] (F_Side_swapLibero k p1) := by
  refine gStartV (L0 := [(0, .ref (ad k)), (1, .int p1)]) RX4 (by decide) rfl rfl (Nat.le_of_ble_eq_true rfl) ?_
  intro p e s m args below meth c sz σ σ' C hr
  unfold F_Side_swapLibero
  refine g_aload_n C 0 dX4_swapLibero_0 rfl rfl ?_
  refine g_callvi (As := []) (n := 0) C (c_Side_isLiberoIn l hl D cI cJ ad k hk) ⟨rfl, rfl⟩ gcl4 (gSd hk).1 qc8 (hR := ⟨Nat.le_of_ble_eq_true rfl, Nat.le_of_ble_eq_true rfl⟩) rfl rfl (Nat.le_of_ble_eq_true rfl) dX4_swapLibero_1 ⟨Nat.zero_le _, Nat.zero_le _⟩ (fun r2 σ1 => ?_)
  refine g_if_eq (tgt := 28) C dX4_swapLibero_4 (by decide) (fun h3 => ?_) (fun h3 => ?_)
  · refine g_aload_n C 0 dX4_swapLibero_28 rfl rfl ?_
    refine g_aload_n C 0 dX4_swapLibero_29 rfl rfl ?_
    refine g_iload_n C 1 dX4_swapLibero_30 rfl rfl ?_
    refine g_callvi (As := [.int p1]) (n := 1) C (c_Side_placeOf l hl D cI cJ ad k p1 hk) ⟨rfl, rfl⟩ gcl4 (gSd hk).1 qc21 (hR := ⟨Nat.le_of_ble_eq_true rfl, Nat.le_of_ble_eq_true rfl⟩) rfl rfl (Nat.le_of_ble_eq_true rfl) dX4_swapLibero_31 ⟨Nat.zero_le _, Nat.zero_le _⟩ (fun r5 σ4 => ?_)
    refine g_aload_n C 0 dX4_swapLibero_34 rfl rfl ?_
    refine g_getI C k 2 gcl4 (gSd hk).1 (by decide) ((gSd hk).2.2.2.1 2 (by decide)) qw47 dX4_swapLibero_35 ?_
    refine g_callvv (As := [.int r5, .int (σ4 k 2)]) (n := 2) C (c_Side_put l hl D cI cJ ad k r5 (σ4 k 2) hk) ⟨rfl, rfl⟩ gcl4 (gSd hk).1 qc7 (hR := ⟨Nat.le_of_ble_eq_true rfl, Nat.le_of_ble_eq_true rfl⟩) rfl rfl (Nat.le_of_ble_eq_true rfl) dX4_swapLibero_38 ⟨Nat.zero_le _, Nat.zero_le _⟩ (fun σ6 => ?_)
    refine g_aload_n C 0 dX4_swapLibero_41 rfl rfl ?_
    refine g_iload_n C 1 dX4_swapLibero_42 rfl rfl ?_
    refine g_putI C k 3 gcl4 gft4 (gSd hk).1 (by decide) ((gSd hk).2.2.2.1 3 (by decide)) rfl rfl qw37 dX4_swapLibero_43 (fun σ7 => ?_)
    refine g_aload_n C 0 dX4_swapLibero_46 rfl rfl ?_
    refine g_iconst (v := (1 : Int32)) C dX4_swapLibero_47 (by decide) ?_
    refine g_putZ C k 9 (by decide) gcl4 gft4 (gSd hk).1 (by decide) ((gSd hk).2.2.2.1 9 (by decide)) rfl rfl qw9 dX4_swapLibero_48 (fun σ8 => ?_)
    exact g_retv C hr dX4_swapLibero_51
  · refine g_aload_n C 0 dX4_swapLibero_7 rfl rfl ?_
    refine g_aload_n C 0 dX4_swapLibero_8 rfl rfl ?_
    refine g_aload_n C 0 dX4_swapLibero_9 rfl rfl ?_
    refine g_getI C k 2 gcl4 (gSd hk).1 (by decide) ((gSd hk).2.2.2.1 2 (by decide)) qw47 dX4_swapLibero_10 ?_
    refine g_callvi (As := [.int (σ1 k 2)]) (n := 1) C (c_Side_placeOf l hl D cI cJ ad k (σ1 k 2) hk) ⟨rfl, rfl⟩ gcl4 (gSd hk).1 qc21 (hR := ⟨Nat.le_of_ble_eq_true rfl, Nat.le_of_ble_eq_true rfl⟩) rfl rfl (Nat.le_of_ble_eq_true rfl) dX4_swapLibero_13 ⟨Nat.zero_le _, Nat.zero_le _⟩ (fun r10 σ9 => ?_)
    refine g_iload_n C 1 dX4_swapLibero_16 rfl rfl ?_
    refine g_callvv (As := [.int r10, .int p1]) (n := 2) C (c_Side_put l hl D cI cJ ad k r10 p1 hk) ⟨rfl, rfl⟩ gcl4 (gSd hk).1 qc7 (hR := ⟨Nat.le_of_ble_eq_true rfl, Nat.le_of_ble_eq_true rfl⟩) rfl rfl (Nat.le_of_ble_eq_true rfl) dX4_swapLibero_17 ⟨Nat.zero_le _, Nat.zero_le _⟩ (fun σ11 => ?_)
    refine g_aload_n C 0 dX4_swapLibero_20 rfl rfl ?_
    refine g_iconst (v := (-1 : Int32)) C dX4_swapLibero_21 (by decide) ?_
    refine g_putI C k 3 gcl4 gft4 (gSd hk).1 (by decide) ((gSd hk).2.2.2.1 3 (by decide)) rfl rfl qw37 dX4_swapLibero_22 (fun σ12 => ?_)
    refine g_goto (tgt := 46) C dX4_swapLibero_25 (by decide) ?_
    refine g_aload_n C 0 dX4_swapLibero_46 rfl rfl ?_
    refine g_iconst (v := (1 : Int32)) C dX4_swapLibero_47 (by decide) ?_
    refine g_putZ C k 9 (by decide) gcl4 gft4 (gSd hk).1 (by decide) ((gSd hk).2.2.2.1 9 (by decide)) rfl rfl qw9 dX4_swapLibero_48 (fun σ13 => ?_)
    exact g_retv C hr dX4_swapLibero_51

def F_Side_swapByPair_B41 (k : Nat) (p1 : Int32) (p2 : Int32) (l1 : Int32) (l2 : Int32) (s0 : Int32) (s1 : Int32) (σ : gSt) : Option gSt := gbv (F_Game_putIn (k + 2) s1 s0 σ) fun σ1 => gbi (F_Side_placeOf k l1 σ1) fun r3 σ2 => gbv (F_Side_put k r3 l2 σ2) fun σ4 => gl (gup σ4 k 7 ((σ4 k 7) + (1 : Int32))) fun σ5 => some σ5

def F_Side_swapByPair_B17 (k : Nat) (p1 : Int32) (p2 : Int32) (l1 : Int32) (l2 : Int32) (s0 : Int32) (σ : gSt) : Option gSt := gbv (F_Game_putIn (k + 2) l1 (-1 : Int32) σ) fun σ1 => if s0 = (0 : Int32) then (F_Side_swapByPair_B41 k p1 p2 l1 l2 l1 l2 σ1) else (F_Side_swapByPair_B41 k p1 p2 l1 l2 (-1 : Int32) l2 σ1)

def F_Side_swapByPair (k : Nat) (p1 : Int32) (p2 : Int32) (σ : gSt) : Option gSt := gbi (F_Game_valueIn (k + 2) p1 σ) fun r2 σ1 => if r2 = p2 then (F_Side_swapByPair_B17 k p1 p2 p1 p2 (1 : Int32) σ1) else (F_Side_swapByPair_B17 k p1 p2 p1 p2 (0 : Int32) σ1)

set_option maxHeartbeats 4000000 in
set_option maxRecDepth 100000 in
theorem b_Side_swapByPair_B41 {p : Program} {l : Launch} {e : Env} {s : State} {m : MethodId} {args : Array Value} {below : List Frame} {meth : Method} {c : Code} {D : va_G} {cI cJ : ClassId} {ad : Nat → Nat} {sz : Nat} {σ' : gSt} (C : gC p s m args meth c D cI cJ ad (gA ad sz) cX4_swapByPair 4 RX4) (hr : meth.sig.returnType = none) (hl : l.stackTraces = false) (k : Nat) (p1 : Int32) (p2 : Int32) (hk : gIsSide k) (l1 : Int32) (l2 : Int32) (s0 : Int32) (s1 : Int32) (σ : gSt) : gX (F_Side_swapByPair_B41 k p1 p2 l1 l2 s0 s1 σ) σ' (gG p l e { frames := 3, cells := 0, slots := 0, locals := 64 } s m args below meth c D cI cJ ad (gA ad sz) 4 0 0 (MQ below (va_Qv (fun (_ : Unit) => True) (fun _ t => va_P D vwCl (gw cI cJ ad σ') t.heap) (gA ad sz)) args s 0 0 (gA ad sz)) σ 41 [(0, .ref (ad k)), (1, .int l1), (2, .int l2)] [.int s0, .int s1, .ref (ad (k + 2))]) := by
  unfold F_Side_swapByPair_B41
  refine g_callnv (As := [.ref (ad (k + 2)), .int s1, .int s0]) (n := 3) C (c_Game_putIn l hl D cI cJ ad (k + 2) s1 s0 (gSd hk).2.2.2.2.2.1) ⟨rfl, rfl⟩ qc1 (hR := ⟨Nat.le_of_ble_eq_true rfl, Nat.le_of_ble_eq_true rfl⟩) rfl rfl (Nat.le_of_ble_eq_true rfl) dX4_swapByPair_41 ⟨Nat.zero_le _, Nat.zero_le _⟩ (fun σ1 => ?_)
  refine g_aload_n C 0 dX4_swapByPair_44 rfl rfl ?_
  refine g_aload_n C 0 dX4_swapByPair_45 rfl rfl ?_
  refine g_iload_n C 1 dX4_swapByPair_46 rfl rfl ?_
  refine g_callvi (As := [.int l1]) (n := 1) C (c_Side_placeOf l hl D cI cJ ad k l1 hk) ⟨rfl, rfl⟩ gcl4 (gSd hk).1 qc21 (hR := ⟨Nat.le_of_ble_eq_true rfl, Nat.le_of_ble_eq_true rfl⟩) rfl rfl (Nat.le_of_ble_eq_true rfl) dX4_swapByPair_47 ⟨Nat.zero_le _, Nat.zero_le _⟩ (fun r3 σ2 => ?_)
  refine g_iload_n C 2 dX4_swapByPair_50 rfl rfl ?_
  refine g_callvv (As := [.int r3, .int l2]) (n := 2) C (c_Side_put l hl D cI cJ ad k r3 l2 hk) ⟨rfl, rfl⟩ gcl4 (gSd hk).1 qc7 (hR := ⟨Nat.le_of_ble_eq_true rfl, Nat.le_of_ble_eq_true rfl⟩) rfl rfl (Nat.le_of_ble_eq_true rfl) dX4_swapByPair_51 ⟨Nat.zero_le _, Nat.zero_le _⟩ (fun σ4 => ?_)
  refine g_aload_n C 0 dX4_swapByPair_54 rfl rfl ?_
  refine g_dup C dX4_swapByPair_55 rfl ?_
  refine g_getI C k 7 gcl4 (gSd hk).1 (by decide) ((gSd hk).2.2.2.1 7 (by decide)) qw7 dX4_swapByPair_56 ?_
  refine g_iconst (v := (1 : Int32)) C dX4_swapByPair_59 (by decide) ?_
  refine g_iadd C dX4_swapByPair_60 ?_
  refine g_putI C k 7 gcl4 gft4 (gSd hk).1 (by decide) ((gSd hk).2.2.2.1 7 (by decide)) rfl rfl qw7 dX4_swapByPair_61 (fun σ5 => ?_)
  exact g_retv C hr dX4_swapByPair_64

set_option maxHeartbeats 4000000 in
set_option maxRecDepth 100000 in
theorem b_Side_swapByPair_B17 {p : Program} {l : Launch} {e : Env} {s : State} {m : MethodId} {args : Array Value} {below : List Frame} {meth : Method} {c : Code} {D : va_G} {cI cJ : ClassId} {ad : Nat → Nat} {sz : Nat} {σ' : gSt} (C : gC p s m args meth c D cI cJ ad (gA ad sz) cX4_swapByPair 4 RX4) (hr : meth.sig.returnType = none) (hl : l.stackTraces = false) (k : Nat) (p1 : Int32) (p2 : Int32) (hk : gIsSide k) (l1 : Int32) (l2 : Int32) (s0 : Int32) (σ : gSt) : gX (F_Side_swapByPair_B17 k p1 p2 l1 l2 s0 σ) σ' (gG p l e { frames := 3, cells := 0, slots := 0, locals := 64 } s m args below meth c D cI cJ ad (gA ad sz) 4 0 0 (MQ below (va_Qv (fun (_ : Unit) => True) (fun _ t => va_P D vwCl (gw cI cJ ad σ') t.heap) (gA ad sz)) args s 0 0 (gA ad sz)) σ 17 [(0, .ref (ad k)), (1, .int l1), (2, .int l2)] [.int s0]) := by
  unfold F_Side_swapByPair_B17
  refine g_istore_n (L' := [(3, .int s0), (0, .ref (ad k)), (1, .int l1), (2, .int l2)]) C dX4_swapByPair_17 rfl (by decide) rfl ?_
  refine g_aload_n C 1 dX4_swapByPair_18 rfl rfl ?_
  refine g_getR (o' := (k + 2)) C k 1 gcl4 (gSd hk).1 (by decide) (gSd hk).2.2.1 qw10 dX4_swapByPair_19 ?_
  refine g_iload_n C 2 dX4_swapByPair_22 rfl rfl ?_
  refine g_iconst (v := (-1 : Int32)) C dX4_swapByPair_23 (by decide) ?_
  refine g_callnv (As := [.ref (ad (k + 2)), .int l1, .int (-1 : Int32)]) (n := 3) C (c_Game_putIn l hl D cI cJ ad (k + 2) l1 (-1 : Int32) (gSd hk).2.2.2.2.2.1) ⟨rfl, rfl⟩ qc1 (hR := ⟨Nat.le_of_ble_eq_true rfl, Nat.le_of_ble_eq_true rfl⟩) rfl rfl (Nat.le_of_ble_eq_true rfl) dX4_swapByPair_24 ⟨Nat.zero_le _, Nat.zero_le _⟩ (fun σ1 => ?_)
  refine g_aload_n C 1 dX4_swapByPair_27 rfl rfl ?_
  refine g_getR (o' := (k + 2)) C k 1 gcl4 (gSd hk).1 (by decide) (gSd hk).2.2.1 qw10 dX4_swapByPair_28 ?_
  refine g_iload_n C 3 dX4_swapByPair_31 rfl rfl ?_
  refine g_iload_n C 0 dX4_swapByPair_32 rfl rfl ?_
  refine g_if_eq (tgt := 40) C dX4_swapByPair_33 (by decide) (fun h2 => ?_) (fun h2 => ?_)
  · refine g_iload_n C 2 dX4_swapByPair_40 rfl rfl ?_
    refine g_loc [1, 2, 3] rfl ?_
    exact b_Side_swapByPair_B41 C hr hl k p1 p2 hk l1 l2 l1 l2 σ1
  · refine g_iconst (v := (-1 : Int32)) C dX4_swapByPair_36 (by decide) ?_
    refine g_goto (tgt := 41) C dX4_swapByPair_37 (by decide) ?_
    refine g_loc [1, 2, 3] rfl ?_
    exact b_Side_swapByPair_B41 C hr hl k p1 p2 hk l1 l2 (-1 : Int32) l2 σ1

set_option maxHeartbeats 4000000 in
set_option maxRecDepth 100000 in
theorem c_Side_swapByPair (l : Launch) (hl : l.stackTraces = false) (D : va_G) (cI cJ : ClassId) (ad : Nat → Nat) (k : Nat) (p1 : Int32) (p2 : Int32) (hk : gIsSide k) : gMv l D cI cJ ad yX4_swapByPair cX4_swapByPair 4 none { frames := 3, cells := 0, slots := 0, locals := 64 } [.ref (ad k), .int p1, .int p2] (F_Side_swapByPair k p1 p2) := by
  refine gStartV (L0 := [(0, .ref (ad k)), (1, .int p1), (2, .int p2)]) RX4 (by decide) rfl rfl (Nat.le_of_ble_eq_true rfl) ?_
  intro p e s m args below meth c sz σ σ' C hr
  unfold F_Side_swapByPair
  refine g_aload_n C 0 dX4_swapByPair_0 rfl rfl ?_
  refine g_getR (o' := (k + 2)) C k 1 gcl4 (gSd hk).1 (by decide) (gSd hk).2.2.1 qw10 dX4_swapByPair_1 ?_
  refine g_iload_n C 1 dX4_swapByPair_4 rfl rfl ?_
  refine g_callni (As := [.ref (ad (k + 2)), .int p1]) (n := 2) C (c_Game_valueIn l hl D cI cJ ad (k + 2) p1 (gSd hk).2.2.2.2.2.1) ⟨rfl, rfl⟩ qc3 (hR := ⟨Nat.le_of_ble_eq_true rfl, Nat.le_of_ble_eq_true rfl⟩) rfl rfl (Nat.le_of_ble_eq_true rfl) dX4_swapByPair_5 ⟨Nat.zero_le _, Nat.zero_le _⟩ (fun r2 σ1 => ?_)
  refine g_iload_n C 2 dX4_swapByPair_8 rfl rfl ?_
  refine g_icmp_ne (tgt := 16) C dX4_swapByPair_9 (by decide) (fun h3 => ?_) (fun h3 => ?_)
  · refine g_iconst (v := (1 : Int32)) C dX4_swapByPair_12 (by decide) ?_
    refine g_goto (tgt := 17) C dX4_swapByPair_13 (by decide) ?_
    refine g_loc [0, 1, 2] rfl ?_
    exact b_Side_swapByPair_B17 C hr hl k p1 p2 hk p1 p2 (1 : Int32) σ1
  · refine g_iconst (v := (0 : Int32)) C dX4_swapByPair_16 (by decide) ?_
    refine g_loc [0, 1, 2] rfl ?_
    exact b_Side_swapByPair_B17 C hr hl k p1 p2 hk p1 p2 (0 : Int32) σ1

def F_Side_isBehind (k : Nat) (p1 : Int32) (σ : gSt) : Option (Int32 × gSt) := gbi (F_Side_placeOf k p1 σ) fun r2 σ1 => if r2 = (1 : Int32) then (some ((1 : Int32), σ1)) else (if r2 ≤ (4 : Int32) then (some ((0 : Int32), σ1)) else (some ((1 : Int32), σ1)))

set_option maxHeartbeats 4000000 in
set_option maxRecDepth 100000 in
theorem c_Side_isBehind (l : Launch) (hl : l.stackTraces = false) (D : va_G) (cI cJ : ClassId) (ad : Nat → Nat) (k : Nat) (p1 : Int32) (hk : gIsSide k) : gMi l D cI cJ ad yX4_isBehind cX4_isBehind 3 (some .boolean) { frames := 3, cells := 0, slots := 0, locals := 64 } [.ref (ad k), .int p1] (F_Side_isBehind k p1) := by
  refine gStartI (L0 := [(0, .ref (ad k)), (1, .int p1)]) RX4 (by decide) rfl rfl (Nat.le_of_ble_eq_true rfl) ?_
  intro p e s m args below meth c sz σ r σ' C hr
  unfold F_Side_isBehind
  refine g_aload_n C 0 dX4_isBehind_0 rfl rfl ?_
  refine g_iload_n C 1 dX4_isBehind_1 rfl rfl ?_
  refine g_callvi (As := [.int p1]) (n := 1) C (c_Side_placeOf l hl D cI cJ ad k p1 hk) ⟨rfl, rfl⟩ gcl4 (gSd hk).1 qc21 (hR := ⟨Nat.le_of_ble_eq_true rfl, Nat.le_of_ble_eq_true rfl⟩) rfl rfl (Nat.le_of_ble_eq_true rfl) dX4_isBehind_2 ⟨Nat.zero_le _, Nat.zero_le _⟩ (fun r2 σ1 => ?_)
  refine g_istore_n (L' := [(2, .int r2), (0, .ref (ad k)), (1, .int p1)]) C dX4_isBehind_5 rfl (by decide) rfl ?_
  refine g_iload_n C 0 dX4_isBehind_6 rfl rfl ?_
  refine g_iconst (v := (1 : Int32)) C dX4_isBehind_7 (by decide) ?_
  refine g_icmp_eq (tgt := 16) C dX4_isBehind_8 (by decide) (fun h3 => ?_) (fun h3 => ?_)
  · refine g_iconst (v := (1 : Int32)) C dX4_isBehind_16 (by decide) ?_
    refine g_goto (tgt := 21) C dX4_isBehind_17 (by decide) ?_
    exact g_iretz C (by decide) hr dX4_isBehind_21
  · refine g_iload_n C 0 dX4_isBehind_11 rfl rfl ?_
    refine g_iconst (v := (4 : Int32)) C dX4_isBehind_12 (by decide) ?_
    refine g_icmp_le (tgt := 20) C dX4_isBehind_13 (by decide) (fun h4 => ?_) (fun h4 => ?_)
    · refine g_iconst (v := (0 : Int32)) C dX4_isBehind_20 (by decide) ?_
      exact g_iretz C (by decide) hr dX4_isBehind_21
    · refine g_iconst (v := (1 : Int32)) C dX4_isBehind_16 (by decide) ?_
      refine g_goto (tgt := 21) C dX4_isBehind_17 (by decide) ?_
      exact g_iretz C (by decide) hr dX4_isBehind_21

def F_Side_isReady_B2 (k : Nat) : Nat → Int32 → gSt → Option (Int32 × gSt)
  | 0, _, _ => none
  | n + 1, l1, σ => if (6 : Int32) < l1 then (some ((1 : Int32), σ)) else (gbi (F_Side_shirtIn k l1 σ) fun r3 σ2 => if r3 = (-1 : Int32) then (some ((0 : Int32), σ2)) else (if r3 = (σ2 k 2) then (some ((0 : Int32), σ2)) else (gbi (F_Side_placeOf k r3 σ2) fun r7 σ6 => if r7 = l1 then (F_Side_isReady_B2 k n (l1 + (1 : Int32)) σ6) else (some ((0 : Int32), σ6)))))

def F_Side_isReady (k : Nat) (σ : gSt) : Option (Int32 × gSt) := F_Side_isReady_B2 k 100 (1 : Int32) σ

set_option maxHeartbeats 4000000 in
set_option maxRecDepth 100000 in
theorem b_Side_isReady_B2 {p : Program} {l : Launch} {e : Env} {s : State} {m : MethodId} {args : Array Value} {below : List Frame} {meth : Method} {c : Code} {D : va_G} {cI cJ : ClassId} {ad : Nat → Nat} {sz : Nat} {r : Int32} {σ' : gSt} (C : gC p s m args meth c D cI cJ ad (gA ad sz) cX4_isReady 3 RX4) (hr : meth.sig.returnType = (some .boolean)) (hl : l.stackTraces = false) (k : Nat) (hk : gIsSide k) : ∀ (n : Nat) (l1 : Int32) (σ : gSt), gX (F_Side_isReady_B2 k n l1 σ) (r, σ') (gG p l e { frames := 3, cells := 0, slots := 0, locals := 64 } s m args below meth c D cI cJ ad (gA ad sz) 3 0 0 (MQ below (va_Qi (fun r1 (_ : Unit) => r1 = r) (fun _ t => va_P D vwCl (gw cI cJ ad σ') t.heap) (gA ad sz)) args s 0 0 (gA ad sz)) σ 2 [(0, .ref (ad k)), (1, .int l1)] []) := by
  intro n
  induction n with
  | zero =>
    intro l1 σ
    unfold F_Side_isReady_B2
    exact gX_none
  | succ n ih =>
    intro l1 σ
    unfold F_Side_isReady_B2
    refine g_iload_n C 1 dX4_isReady_2 rfl rfl ?_
    refine g_bipush (v := (6 : Int32)) C dX4_isReady_3 (by decide) ?_
    refine g_icmp_gt (tgt := 44) C dX4_isReady_5 (by decide) (fun h1 => ?_) (fun h1 => ?_)
    · refine g_iconst (v := (1 : Int32)) C dX4_isReady_44 (by decide) ?_
      exact g_iretz C (by decide) hr dX4_isReady_45
    · refine g_aload_n C 0 dX4_isReady_8 rfl rfl ?_
      refine g_iload_n C 1 dX4_isReady_9 rfl rfl ?_
      refine g_callvi (As := [.int l1]) (n := 1) C (c_Side_shirtIn l hl D cI cJ ad k l1 hk) ⟨rfl, rfl⟩ gcl4 (gSd hk).1 qc6 (hR := ⟨Nat.le_of_ble_eq_true rfl, Nat.le_of_ble_eq_true rfl⟩) rfl rfl (Nat.le_of_ble_eq_true rfl) dX4_isReady_10 ⟨Nat.zero_le _, Nat.zero_le _⟩ (fun r3 σ2 => ?_)
      refine g_istore_n (L' := [(2, .int r3), (0, .ref (ad k)), (1, .int l1)]) C dX4_isReady_13 rfl (by decide) rfl ?_
      refine g_iload_n C 0 dX4_isReady_14 rfl rfl ?_
      refine g_iconst (v := (-1 : Int32)) C dX4_isReady_15 (by decide) ?_
      refine g_icmp_eq (tgt := 36) C dX4_isReady_16 (by decide) (fun h4 => ?_) (fun h4 => ?_)
      · refine g_iconst (v := (0 : Int32)) C dX4_isReady_36 (by decide) ?_
        exact g_iretz C (by decide) hr dX4_isReady_37
      · refine g_iload_n C 0 dX4_isReady_19 rfl rfl ?_
        refine g_aload_n C 1 dX4_isReady_20 rfl rfl ?_
        refine g_getI C k 2 gcl4 (gSd hk).1 (by decide) ((gSd hk).2.2.2.1 2 (by decide)) qw47 dX4_isReady_21 ?_
        refine g_icmp_eq (tgt := 36) C dX4_isReady_24 (by decide) (fun h5 => ?_) (fun h5 => ?_)
        · refine g_iconst (v := (0 : Int32)) C dX4_isReady_36 (by decide) ?_
          exact g_iretz C (by decide) hr dX4_isReady_37
        · refine g_aload_n C 1 dX4_isReady_27 rfl rfl ?_
          refine g_iload_n C 0 dX4_isReady_28 rfl rfl ?_
          refine g_callvi (As := [.int r3]) (n := 1) C (c_Side_placeOf l hl D cI cJ ad k r3 hk) ⟨rfl, rfl⟩ gcl4 (gSd hk).1 qc21 (hR := ⟨Nat.le_of_ble_eq_true rfl, Nat.le_of_ble_eq_true rfl⟩) rfl rfl (Nat.le_of_ble_eq_true rfl) dX4_isReady_29 ⟨Nat.zero_le _, Nat.zero_le _⟩ (fun r7 σ6 => ?_)
          refine g_iload_n C 2 dX4_isReady_32 rfl rfl ?_
          refine g_icmp_eq (tgt := 38) C dX4_isReady_33 (by decide) (fun h8 => ?_) (fun h8 => ?_)
          · refine g_iinc (v := (l1 + (1 : Int32))) (L' := [(1, .int (l1 + (1 : Int32))), (2, .int r3), (0, .ref (ad k))]) C 2 dX4_isReady_38 rfl (by rfl) (by decide) rfl ?_
            refine g_goto (tgt := 2) C dX4_isReady_41 (by decide) ?_
            refine g_loc [2, 0] rfl ?_
            exact ih (l1 + (1 : Int32)) σ6
          · refine g_iconst (v := (0 : Int32)) C dX4_isReady_36 (by decide) ?_
            exact g_iretz C (by decide) hr dX4_isReady_37

set_option maxHeartbeats 4000000 in
set_option maxRecDepth 100000 in
theorem c_Side_isReady (l : Launch) (hl : l.stackTraces = false) (D : va_G) (cI cJ : ClassId) (ad : Nat → Nat) (k : Nat) (hk : gIsSide k) : gMi l D cI cJ ad yX4_isReady cX4_isReady 3 (some .boolean) { frames := 3, cells := 0, slots := 0, locals := 64 } [.ref (ad k)] (F_Side_isReady k) := by
  refine gStartI (L0 := [(0, .ref (ad k))]) RX4 (by decide) rfl rfl (Nat.le_of_ble_eq_true rfl) ?_
  intro p e s m args below meth c sz σ r σ' C hr
  unfold F_Side_isReady
  refine g_iconst (v := (1 : Int32)) C dX4_isReady_0 (by decide) ?_
  refine g_istore_n (L' := [(1, .int (1 : Int32)), (0, .ref (ad k))]) C dX4_isReady_1 rfl (by decide) rfl ?_
  refine g_loc [1, 0] rfl ?_
  exact b_Side_isReady_B2 C hr hl k hk 100 (1 : Int32) σ

def F_Side_faultOf_B36 (k : Nat) (p1 : Int32) (p2 : Int32) (p3 : Int32) (l1 : Int32) (l2 : Int32) (σ : gSt) : Option (Int32 × gSt) := if l2 = (1 : Int32) then (if l1 = (σ k 2) then (some ((5 : Int32), σ)) else (some ((0 : Int32), σ))) else (some ((0 : Int32), σ))

def F_Side_faultOf_B19 (k : Nat) (p1 : Int32) (p2 : Int32) (p3 : Int32) (l1 : Int32) (l2 : Int32) (s0 : Int32) (σ : gSt) : Option (Int32 × gSt) := if s0 = (0 : Int32) then (F_Side_faultOf_B36 k p1 p2 p3 l1 l2 σ) else (gbi (F_Side_isBehind k l1 σ) fun r3 σ2 => if r3 = (0 : Int32) then (F_Side_faultOf_B36 k p1 p2 p3 l1 l2 σ2) else (some ((4 : Int32), σ2)))

def F_Side_faultOf_B14 (k : Nat) (p1 : Int32) (p2 : Int32) (p3 : Int32) (l1 : Int32) (l2 : Int32) (σ : gSt) : Option (Int32 × gSt) := F_Side_faultOf_B19 k p1 p2 p3 l1 l2 (1 : Int32) σ

def F_Side_faultOf_B18 (k : Nat) (p1 : Int32) (p2 : Int32) (p3 : Int32) (l1 : Int32) (l2 : Int32) (σ : gSt) : Option (Int32 × gSt) := F_Side_faultOf_B19 k p1 p2 p3 l1 l2 (0 : Int32) σ

def F_Side_faultOf (k : Nat) (p1 : Int32) (p2 : Int32) (p3 : Int32) (σ : gSt) : Option (Int32 × gSt) := if p2 = (2 : Int32) then (F_Side_faultOf_B14 k p1 p2 p3 p1 p2 σ) else (if p2 = (1 : Int32) then (if p3 = (0 : Int32) then (F_Side_faultOf_B18 k p1 p2 p3 p1 p2 σ) else (F_Side_faultOf_B14 k p1 p2 p3 p1 p2 σ)) else (F_Side_faultOf_B18 k p1 p2 p3 p1 p2 σ))

set_option maxHeartbeats 4000000 in
set_option maxRecDepth 100000 in
theorem b_Side_faultOf_B36 {p : Program} {l : Launch} {e : Env} {s : State} {m : MethodId} {args : Array Value} {below : List Frame} {meth : Method} {c : Code} {D : va_G} {cI cJ : ClassId} {ad : Nat → Nat} {sz : Nat} {r : Int32} {σ' : gSt} (C : gC p s m args meth c D cI cJ ad (gA ad sz) cX4_faultOf 5 RX4) (hr : meth.sig.returnType = (some .int)) (hl : l.stackTraces = false) (k : Nat) (p1 : Int32) (p2 : Int32) (p3 : Int32) (hk : gIsSide k) (l1 : Int32) (l2 : Int32) (σ : gSt) : gX (F_Side_faultOf_B36 k p1 p2 p3 l1 l2 σ) (r, σ') (gG p l e { frames := 4, cells := 0, slots := 0, locals := 86 } s m args below meth c D cI cJ ad (gA ad sz) 5 0 0 (MQ below (va_Qi (fun r1 (_ : Unit) => r1 = r) (fun _ t => va_P D vwCl (gw cI cJ ad σ') t.heap) (gA ad sz)) args s 0 0 (gA ad sz)) σ 36 [(0, .ref (ad k)), (1, .int l1), (2, .int l2)] []) := by
  unfold F_Side_faultOf_B36
  refine g_iload_n C 2 dX4_faultOf_36 rfl rfl ?_
  refine g_iconst (v := (1 : Int32)) C dX4_faultOf_37 (by decide) ?_
  refine g_icmp_ne (tgt := 53) C dX4_faultOf_38 (by decide) (fun h1 => ?_) (fun h1 => ?_)
  · refine g_iload_n C 1 dX4_faultOf_41 rfl rfl ?_
    refine g_aload_n C 0 dX4_faultOf_42 rfl rfl ?_
    refine g_getI C k 2 gcl4 (gSd hk).1 (by decide) ((gSd hk).2.2.2.1 2 (by decide)) qw47 dX4_faultOf_43 ?_
    refine g_icmp_ne (tgt := 53) C dX4_faultOf_46 (by decide) (fun h2 => ?_) (fun h2 => ?_)
    · refine g_iconst (v := (5 : Int32)) C dX4_faultOf_49 (by decide) ?_
      refine g_goto (tgt := 54) C dX4_faultOf_50 (by decide) ?_
      exact g_ireti C hr dX4_faultOf_54
    · refine g_iconst (v := (0 : Int32)) C dX4_faultOf_53 (by decide) ?_
      exact g_ireti C hr dX4_faultOf_54
  · refine g_iconst (v := (0 : Int32)) C dX4_faultOf_53 (by decide) ?_
    exact g_ireti C hr dX4_faultOf_54

set_option maxHeartbeats 4000000 in
set_option maxRecDepth 100000 in
theorem b_Side_faultOf_B19 {p : Program} {l : Launch} {e : Env} {s : State} {m : MethodId} {args : Array Value} {below : List Frame} {meth : Method} {c : Code} {D : va_G} {cI cJ : ClassId} {ad : Nat → Nat} {sz : Nat} {r : Int32} {σ' : gSt} (C : gC p s m args meth c D cI cJ ad (gA ad sz) cX4_faultOf 5 RX4) (hr : meth.sig.returnType = (some .int)) (hl : l.stackTraces = false) (k : Nat) (p1 : Int32) (p2 : Int32) (p3 : Int32) (hk : gIsSide k) (l1 : Int32) (l2 : Int32) (s0 : Int32) (σ : gSt) : gX (F_Side_faultOf_B19 k p1 p2 p3 l1 l2 s0 σ) (r, σ') (gG p l e { frames := 4, cells := 0, slots := 0, locals := 86 } s m args below meth c D cI cJ ad (gA ad sz) 5 0 0 (MQ below (va_Qi (fun r1 (_ : Unit) => r1 = r) (fun _ t => va_P D vwCl (gw cI cJ ad σ') t.heap) (gA ad sz)) args s 0 0 (gA ad sz)) σ 19 [(0, .ref (ad k)), (1, .int l1), (2, .int l2)] [.int s0]) := by
  unfold F_Side_faultOf_B19
  refine g_istore (L' := [(4, .int s0), (0, .ref (ad k)), (1, .int l1), (2, .int l2)]) C dX4_faultOf_19 (by decide) rfl ?_
  refine g_iload C 0 dX4_faultOf_21 rfl ?_
  refine g_if_eq (tgt := 36) C dX4_faultOf_23 (by decide) (fun h1 => ?_) (fun h1 => ?_)
  · refine g_loc [1, 2, 3] rfl ?_
    exact b_Side_faultOf_B36 C hr hl k p1 p2 p3 hk l1 l2 σ
  · refine g_aload_n C 1 dX4_faultOf_26 rfl rfl ?_
    refine g_iload_n C 2 dX4_faultOf_27 rfl rfl ?_
    refine g_callvi (As := [.int l1]) (n := 1) C (c_Side_isBehind l hl D cI cJ ad k l1 hk) ⟨rfl, rfl⟩ gcl4 (gSd hk).1 qc38 (hR := ⟨Nat.le_of_ble_eq_true rfl, Nat.le_of_ble_eq_true rfl⟩) rfl rfl (Nat.le_of_ble_eq_true rfl) dX4_faultOf_28 ⟨Nat.zero_le _, Nat.zero_le _⟩ (fun r3 σ2 => ?_)
    refine g_if_eq (tgt := 36) C dX4_faultOf_31 (by decide) (fun h4 => ?_) (fun h4 => ?_)
    · refine g_loc [1, 2, 3] rfl ?_
      exact b_Side_faultOf_B36 C hr hl k p1 p2 p3 hk l1 l2 σ2
    · refine g_iconst (v := (4 : Int32)) C dX4_faultOf_34 (by decide) ?_
      exact g_ireti C hr dX4_faultOf_35

set_option maxHeartbeats 4000000 in
set_option maxRecDepth 100000 in
theorem b_Side_faultOf_B14 {p : Program} {l : Launch} {e : Env} {s : State} {m : MethodId} {args : Array Value} {below : List Frame} {meth : Method} {c : Code} {D : va_G} {cI cJ : ClassId} {ad : Nat → Nat} {sz : Nat} {r : Int32} {σ' : gSt} (C : gC p s m args meth c D cI cJ ad (gA ad sz) cX4_faultOf 5 RX4) (hr : meth.sig.returnType = (some .int)) (hl : l.stackTraces = false) (k : Nat) (p1 : Int32) (p2 : Int32) (p3 : Int32) (hk : gIsSide k) (l1 : Int32) (l2 : Int32) (σ : gSt) : gX (F_Side_faultOf_B14 k p1 p2 p3 l1 l2 σ) (r, σ') (gG p l e { frames := 4, cells := 0, slots := 0, locals := 86 } s m args below meth c D cI cJ ad (gA ad sz) 5 0 0 (MQ below (va_Qi (fun r1 (_ : Unit) => r1 = r) (fun _ t => va_P D vwCl (gw cI cJ ad σ') t.heap) (gA ad sz)) args s 0 0 (gA ad sz)) σ 14 [(0, .ref (ad k)), (1, .int l1), (2, .int l2)] []) := by
  unfold F_Side_faultOf_B14
  refine g_iconst (v := (1 : Int32)) C dX4_faultOf_14 (by decide) ?_
  refine g_goto (tgt := 19) C dX4_faultOf_15 (by decide) ?_
  refine g_loc [0, 1, 2] rfl ?_
  exact b_Side_faultOf_B19 C hr hl k p1 p2 p3 hk l1 l2 (1 : Int32) σ

set_option maxHeartbeats 4000000 in
set_option maxRecDepth 100000 in
theorem b_Side_faultOf_B18 {p : Program} {l : Launch} {e : Env} {s : State} {m : MethodId} {args : Array Value} {below : List Frame} {meth : Method} {c : Code} {D : va_G} {cI cJ : ClassId} {ad : Nat → Nat} {sz : Nat} {r : Int32} {σ' : gSt} (C : gC p s m args meth c D cI cJ ad (gA ad sz) cX4_faultOf 5 RX4) (hr : meth.sig.returnType = (some .int)) (hl : l.stackTraces = false) (k : Nat) (p1 : Int32) (p2 : Int32) (p3 : Int32) (hk : gIsSide k) (l1 : Int32) (l2 : Int32) (σ : gSt) : gX (F_Side_faultOf_B18 k p1 p2 p3 l1 l2 σ) (r, σ') (gG p l e { frames := 4, cells := 0, slots := 0, locals := 86 } s m args below meth c D cI cJ ad (gA ad sz) 5 0 0 (MQ below (va_Qi (fun r1 (_ : Unit) => r1 = r) (fun _ t => va_P D vwCl (gw cI cJ ad σ') t.heap) (gA ad sz)) args s 0 0 (gA ad sz)) σ 18 [(0, .ref (ad k)), (1, .int l1), (2, .int l2)] []) := by
  unfold F_Side_faultOf_B18
  refine g_iconst (v := (0 : Int32)) C dX4_faultOf_18 (by decide) ?_
  refine g_loc [0, 1, 2] rfl ?_
  exact b_Side_faultOf_B19 C hr hl k p1 p2 p3 hk l1 l2 (0 : Int32) σ

set_option maxHeartbeats 4000000 in
set_option maxRecDepth 100000 in
theorem c_Side_faultOf (l : Launch) (hl : l.stackTraces = false) (D : va_G) (cI cJ : ClassId) (ad : Nat → Nat) (k : Nat) (p1 : Int32) (p2 : Int32) (p3 : Int32) (hk : gIsSide k) : gMi l D cI cJ ad yX4_faultOf cX4_faultOf 5 (some .int) { frames := 4, cells := 0, slots := 0, locals := 86 } [.ref (ad k), .int p1, .int p2, .int p3] (F_Side_faultOf k p1 p2 p3) := by
  refine gStartI (L0 := [(0, .ref (ad k)), (1, .int p1), (2, .int p2), (3, .int p3)]) RX4 (by decide) rfl rfl (Nat.le_of_ble_eq_true rfl) ?_
  intro p e s m args below meth c sz σ r σ' C hr
  unfold F_Side_faultOf
  refine g_iload_n C 2 dX4_faultOf_0 rfl rfl ?_
  refine g_iconst (v := (2 : Int32)) C dX4_faultOf_1 (by decide) ?_
  refine g_icmp_eq (tgt := 14) C dX4_faultOf_2 (by decide) (fun h1 => ?_) (fun h1 => ?_)
  · refine g_loc [0, 1, 2] rfl ?_
    exact b_Side_faultOf_B14 C hr hl k p1 p2 p3 hk p1 p2 σ
  · refine g_iload_n C 2 dX4_faultOf_5 rfl rfl ?_
    refine g_iconst (v := (1 : Int32)) C dX4_faultOf_6 (by decide) ?_
    refine g_icmp_ne (tgt := 18) C dX4_faultOf_7 (by decide) (fun h2 => ?_) (fun h2 => ?_)
    · refine g_iload_n C 3 dX4_faultOf_10 rfl rfl ?_
      refine g_if_eq (tgt := 18) C dX4_faultOf_11 (by decide) (fun h3 => ?_) (fun h3 => ?_)
      · refine g_loc [0, 1, 2] rfl ?_
        exact b_Side_faultOf_B18 C hr hl k p1 p2 p3 hk p1 p2 σ
      · refine g_loc [0, 1, 2] rfl ?_
        exact b_Side_faultOf_B14 C hr hl k p1 p2 p3 hk p1 p2 σ
    · refine g_loc [0, 1, 2] rfl ?_
      exact b_Side_faultOf_B18 C hr hl k p1 p2 p3 hk p1 p2 σ

def F_Side_canExchange (k : Nat) (p1 : Int32) (σ : gSt) : Option (Int32 × gSt) := if (σ k 2) = (-1 : Int32) then (some ((0 : Int32), σ)) else (if (σ k 9) = (0 : Int32) then (gbi (F_Side_isLiberoIn k σ) fun r4 σ3 => if r4 = (0 : Int32) then (gbi (F_Side_isBehind k p1 σ3) fun r7 σ6 => if r7 = 0 ∨ r7 = 1 then some (r7, σ6) else none) else (if p1 = (σ3 k 3) then (some ((1 : Int32), σ3)) else (some ((0 : Int32), σ3)))) else (some ((0 : Int32), σ)))

set_option maxHeartbeats 4000000 in
set_option maxRecDepth 100000 in
theorem c_Side_canExchange (l : Launch) (hl : l.stackTraces = false) (D : va_G) (cI cJ : ClassId) (ad : Nat → Nat) (k : Nat) (p1 : Int32) (hk : gIsSide k) : gMi l D cI cJ ad yX4_canExchange cX4_canExchange 2 (some .boolean) { frames := 4, cells := 0, slots := 0, locals := 86 } [.ref (ad k), .int p1] (F_Side_canExchange k p1) := by
  refine gStartI (L0 := [(0, .ref (ad k)), (1, .int p1)]) RX4 (by decide) rfl rfl (Nat.le_of_ble_eq_true rfl) ?_
  intro p e s m args below meth c sz σ r σ' C hr
  unfold F_Side_canExchange
  refine g_aload_n C 0 dX4_canExchange_0 rfl rfl ?_
  refine g_getI C k 2 gcl4 (gSd hk).1 (by decide) ((gSd hk).2.2.2.1 2 (by decide)) qw47 dX4_canExchange_1 ?_
  refine g_iconst (v := (-1 : Int32)) C dX4_canExchange_4 (by decide) ?_
  refine g_icmp_eq (tgt := 15) C dX4_canExchange_5 (by decide) (fun h1 => ?_) (fun h1 => ?_)
  · refine g_iconst (v := (0 : Int32)) C dX4_canExchange_15 (by decide) ?_
    exact g_iretz C (by decide) hr dX4_canExchange_16
  · refine g_aload_n C 0 dX4_canExchange_8 rfl rfl ?_
    refine g_getI C k 9 gcl4 (gSd hk).1 (by decide) ((gSd hk).2.2.2.1 9 (by decide)) qw9 dX4_canExchange_9 ?_
    refine g_if_eq (tgt := 17) C dX4_canExchange_12 (by decide) (fun h2 => ?_) (fun h2 => ?_)
    · refine g_aload_n C 0 dX4_canExchange_17 rfl rfl ?_
      refine g_callvi (As := []) (n := 0) C (c_Side_isLiberoIn l hl D cI cJ ad k hk) ⟨rfl, rfl⟩ gcl4 (gSd hk).1 qc8 (hR := ⟨Nat.le_of_ble_eq_true rfl, Nat.le_of_ble_eq_true rfl⟩) rfl rfl (Nat.le_of_ble_eq_true rfl) dX4_canExchange_18 ⟨Nat.zero_le _, Nat.zero_le _⟩ (fun r4 σ3 => ?_)
      refine g_if_eq (tgt := 40) C dX4_canExchange_21 (by decide) (fun h5 => ?_) (fun h5 => ?_)
      · refine g_aload_n C 0 dX4_canExchange_40 rfl rfl ?_
        refine g_iload_n C 1 dX4_canExchange_41 rfl rfl ?_
        refine g_callvi (As := [.int p1]) (n := 1) C (c_Side_isBehind l hl D cI cJ ad k p1 hk) ⟨rfl, rfl⟩ gcl4 (gSd hk).1 qc38 (hR := ⟨Nat.le_of_ble_eq_true rfl, Nat.le_of_ble_eq_true rfl⟩) rfl rfl (Nat.le_of_ble_eq_true rfl) dX4_canExchange_42 ⟨Nat.zero_le _, Nat.zero_le _⟩ (fun r7 σ6 => ?_)
        refine gX_z (fun z8 => ?_)
        exact g_iretz C z8 hr dX4_canExchange_45
      · refine g_iload_n C 1 dX4_canExchange_24 rfl rfl ?_
        refine g_aload_n C 0 dX4_canExchange_25 rfl rfl ?_
        refine g_getI C k 3 gcl4 (gSd hk).1 (by decide) ((gSd hk).2.2.2.1 3 (by decide)) qw37 dX4_canExchange_26 ?_
        refine g_icmp_ne (tgt := 36) C dX4_canExchange_29 (by decide) (fun h9 => ?_) (fun h9 => ?_)
        · refine g_iconst (v := (1 : Int32)) C dX4_canExchange_32 (by decide) ?_
          refine g_goto (tgt := 45) C dX4_canExchange_33 (by decide) ?_
          exact g_iretz C (by decide) hr dX4_canExchange_45
        · refine g_iconst (v := (0 : Int32)) C dX4_canExchange_36 (by decide) ?_
          refine g_goto (tgt := 45) C dX4_canExchange_37 (by decide) ?_
          exact g_iretz C (by decide) hr dX4_canExchange_45
    · refine g_iconst (v := (0 : Int32)) C dX4_canExchange_15 (by decide) ?_
      exact g_iretz C (by decide) hr dX4_canExchange_16

def F_Side_canSubstitute_B82 (k : Nat) (p1 : Int32) (p2 : Int32) (l1 : Int32) (l2 : Int32) (s0 : Int32) (σ : gSt) : Option (Int32 × gSt) := if s0 = (0 : Int32) then (gbi (F_Game_valueIn (k + 2) l1 σ) fun r3 σ2 => if r3 = l2 then (some ((1 : Int32), σ2)) else (some ((0 : Int32), σ2))) else (some ((1 : Int32), σ))

def F_Side_canSubstitute_B81 (k : Nat) (p1 : Int32) (p2 : Int32) (l1 : Int32) (l2 : Int32) (σ : gSt) : Option (Int32 × gSt) := F_Side_canSubstitute_B82 k p1 p2 l1 l2 (0 : Int32) σ

def F_Side_canSubstitute (k : Nat) (p1 : Int32) (p2 : Int32) (σ : gSt) : Option (Int32 × gSt) := if (6 : Int32) ≤ (σ k 7) then (some ((0 : Int32), σ)) else (if p1 = (σ k 2) then (some ((0 : Int32), σ)) else (if p2 = (σ k 2) then (some ((0 : Int32), σ)) else (if p2 = (σ k 3) then (some ((0 : Int32), σ)) else (gbi (F_Side_placeOf k p1 σ) fun r6 σ5 => if r6 = (-1 : Int32) then (some ((0 : Int32), σ5)) else (gbi (F_Side_placeOf k p2 σ5) fun r9 σ8 => if r9 = (-1 : Int32) then (gbi (F_Game_valueIn (k + 2) p1 σ8) fun r12 σ11 => if r12 = (0 : Int32) then (gbi (F_Game_valueIn (k + 2) p2 σ11) fun r15 σ14 => if r15 = (0 : Int32) then (F_Side_canSubstitute_B82 k p1 p2 p1 p2 (1 : Int32) σ14) else (F_Side_canSubstitute_B81 k p1 p2 p1 p2 σ14)) else (F_Side_canSubstitute_B81 k p1 p2 p1 p2 σ11)) else (some ((0 : Int32), σ8)))))))

set_option maxHeartbeats 4000000 in
set_option maxRecDepth 100000 in
theorem b_Side_canSubstitute_B82 {p : Program} {l : Launch} {e : Env} {s : State} {m : MethodId} {args : Array Value} {below : List Frame} {meth : Method} {c : Code} {D : va_G} {cI cJ : ClassId} {ad : Nat → Nat} {sz : Nat} {r : Int32} {σ' : gSt} (C : gC p s m args meth c D cI cJ ad (gA ad sz) cX4_canSubstitute 4 RX4) (hr : meth.sig.returnType = (some .boolean)) (hl : l.stackTraces = false) (k : Nat) (p1 : Int32) (p2 : Int32) (hk : gIsSide k) (l1 : Int32) (l2 : Int32) (s0 : Int32) (σ : gSt) : gX (F_Side_canSubstitute_B82 k p1 p2 l1 l2 s0 σ) (r, σ') (gG p l e { frames := 3, cells := 0, slots := 0, locals := 64 } s m args below meth c D cI cJ ad (gA ad sz) 4 0 0 (MQ below (va_Qi (fun r1 (_ : Unit) => r1 = r) (fun _ t => va_P D vwCl (gw cI cJ ad σ') t.heap) (gA ad sz)) args s 0 0 (gA ad sz)) σ 82 [(0, .ref (ad k)), (1, .int l1), (2, .int l2)] [.int s0]) := by
  unfold F_Side_canSubstitute_B82
  refine g_istore_n (L' := [(3, .int s0), (0, .ref (ad k)), (1, .int l1), (2, .int l2)]) C dX4_canSubstitute_82 rfl (by decide) rfl ?_
  refine g_iload_n C 0 dX4_canSubstitute_83 rfl rfl ?_
  refine g_if_ne (tgt := 99) C dX4_canSubstitute_84 (by decide) (fun h1 => ?_) (fun h1 => ?_)
  · refine g_aload_n C 1 dX4_canSubstitute_87 rfl rfl ?_
    refine g_getR (o' := (k + 2)) C k 1 gcl4 (gSd hk).1 (by decide) (gSd hk).2.2.1 qw10 dX4_canSubstitute_88 ?_
    refine g_iload_n C 2 dX4_canSubstitute_91 rfl rfl ?_
    refine g_callni (As := [.ref (ad (k + 2)), .int l1]) (n := 2) C (c_Game_valueIn l hl D cI cJ ad (k + 2) l1 (gSd hk).2.2.2.2.2.1) ⟨rfl, rfl⟩ qc3 (hR := ⟨Nat.le_of_ble_eq_true rfl, Nat.le_of_ble_eq_true rfl⟩) rfl rfl (Nat.le_of_ble_eq_true rfl) dX4_canSubstitute_92 ⟨Nat.zero_le _, Nat.zero_le _⟩ (fun r3 σ2 => ?_)
    refine g_iload_n C 3 dX4_canSubstitute_95 rfl rfl ?_
    refine g_icmp_ne (tgt := 103) C dX4_canSubstitute_96 (by decide) (fun h4 => ?_) (fun h4 => ?_)
    · refine g_iconst (v := (1 : Int32)) C dX4_canSubstitute_99 (by decide) ?_
      refine g_goto (tgt := 104) C dX4_canSubstitute_100 (by decide) ?_
      exact g_iretz C (by decide) hr dX4_canSubstitute_104
    · refine g_iconst (v := (0 : Int32)) C dX4_canSubstitute_103 (by decide) ?_
      exact g_iretz C (by decide) hr dX4_canSubstitute_104
  · refine g_iconst (v := (1 : Int32)) C dX4_canSubstitute_99 (by decide) ?_
    refine g_goto (tgt := 104) C dX4_canSubstitute_100 (by decide) ?_
    exact g_iretz C (by decide) hr dX4_canSubstitute_104

set_option maxHeartbeats 4000000 in
set_option maxRecDepth 100000 in
theorem b_Side_canSubstitute_B81 {p : Program} {l : Launch} {e : Env} {s : State} {m : MethodId} {args : Array Value} {below : List Frame} {meth : Method} {c : Code} {D : va_G} {cI cJ : ClassId} {ad : Nat → Nat} {sz : Nat} {r : Int32} {σ' : gSt} (C : gC p s m args meth c D cI cJ ad (gA ad sz) cX4_canSubstitute 4 RX4) (hr : meth.sig.returnType = (some .boolean)) (hl : l.stackTraces = false) (k : Nat) (p1 : Int32) (p2 : Int32) (hk : gIsSide k) (l1 : Int32) (l2 : Int32) (σ : gSt) : gX (F_Side_canSubstitute_B81 k p1 p2 l1 l2 σ) (r, σ') (gG p l e { frames := 3, cells := 0, slots := 0, locals := 64 } s m args below meth c D cI cJ ad (gA ad sz) 4 0 0 (MQ below (va_Qi (fun r1 (_ : Unit) => r1 = r) (fun _ t => va_P D vwCl (gw cI cJ ad σ') t.heap) (gA ad sz)) args s 0 0 (gA ad sz)) σ 81 [(0, .ref (ad k)), (1, .int l1), (2, .int l2)] []) := by
  unfold F_Side_canSubstitute_B81
  refine g_iconst (v := (0 : Int32)) C dX4_canSubstitute_81 (by decide) ?_
  refine g_loc [0, 1, 2] rfl ?_
  exact b_Side_canSubstitute_B82 C hr hl k p1 p2 hk l1 l2 (0 : Int32) σ

set_option maxHeartbeats 4000000 in
set_option maxRecDepth 100000 in
theorem c_Side_canSubstitute (l : Launch) (hl : l.stackTraces = false) (D : va_G) (cI cJ : ClassId) (ad : Nat → Nat) (k : Nat) (p1 : Int32) (p2 : Int32) (hk : gIsSide k) : gMi l D cI cJ ad yX4_canSubstitute cX4_canSubstitute 4 (some .boolean) { frames := 3, cells := 0, slots := 0, locals := 64 } [.ref (ad k), .int p1, .int p2] (F_Side_canSubstitute k p1 p2) := by
  refine gStartI (L0 := [(0, .ref (ad k)), (1, .int p1), (2, .int p2)]) RX4 (by decide) rfl rfl (Nat.le_of_ble_eq_true rfl) ?_
  intro p e s m args below meth c sz σ r σ' C hr
  unfold F_Side_canSubstitute
  refine g_aload_n C 0 dX4_canSubstitute_0 rfl rfl ?_
  refine g_getI C k 7 gcl4 (gSd hk).1 (by decide) ((gSd hk).2.2.2.1 7 (by decide)) qw7 dX4_canSubstitute_1 ?_
  refine g_bipush (v := (6 : Int32)) C dX4_canSubstitute_4 (by decide) ?_
  refine g_icmp_ge (tgt := 33) C dX4_canSubstitute_6 (by decide) (fun h1 => ?_) (fun h1 => ?_)
  · refine g_iconst (v := (0 : Int32)) C dX4_canSubstitute_33 (by decide) ?_
    exact g_iretz C (by decide) hr dX4_canSubstitute_34
  · refine g_iload_n C 1 dX4_canSubstitute_9 rfl rfl ?_
    refine g_aload_n C 0 dX4_canSubstitute_10 rfl rfl ?_
    refine g_getI C k 2 gcl4 (gSd hk).1 (by decide) ((gSd hk).2.2.2.1 2 (by decide)) qw47 dX4_canSubstitute_11 ?_
    refine g_icmp_eq (tgt := 33) C dX4_canSubstitute_14 (by decide) (fun h2 => ?_) (fun h2 => ?_)
    · refine g_iconst (v := (0 : Int32)) C dX4_canSubstitute_33 (by decide) ?_
      exact g_iretz C (by decide) hr dX4_canSubstitute_34
    · refine g_iload_n C 2 dX4_canSubstitute_17 rfl rfl ?_
      refine g_aload_n C 0 dX4_canSubstitute_18 rfl rfl ?_
      refine g_getI C k 2 gcl4 (gSd hk).1 (by decide) ((gSd hk).2.2.2.1 2 (by decide)) qw47 dX4_canSubstitute_19 ?_
      refine g_icmp_eq (tgt := 33) C dX4_canSubstitute_22 (by decide) (fun h3 => ?_) (fun h3 => ?_)
      · refine g_iconst (v := (0 : Int32)) C dX4_canSubstitute_33 (by decide) ?_
        exact g_iretz C (by decide) hr dX4_canSubstitute_34
      · refine g_iload_n C 2 dX4_canSubstitute_25 rfl rfl ?_
        refine g_aload_n C 0 dX4_canSubstitute_26 rfl rfl ?_
        refine g_getI C k 3 gcl4 (gSd hk).1 (by decide) ((gSd hk).2.2.2.1 3 (by decide)) qw37 dX4_canSubstitute_27 ?_
        refine g_icmp_ne (tgt := 35) C dX4_canSubstitute_30 (by decide) (fun h4 => ?_) (fun h4 => ?_)
        · refine g_iconst (v := (0 : Int32)) C dX4_canSubstitute_33 (by decide) ?_
          exact g_iretz C (by decide) hr dX4_canSubstitute_34
        · refine g_aload_n C 0 dX4_canSubstitute_35 rfl rfl ?_
          refine g_iload_n C 1 dX4_canSubstitute_36 rfl rfl ?_
          refine g_callvi (As := [.int p1]) (n := 1) C (c_Side_placeOf l hl D cI cJ ad k p1 hk) ⟨rfl, rfl⟩ gcl4 (gSd hk).1 qc21 (hR := ⟨Nat.le_of_ble_eq_true rfl, Nat.le_of_ble_eq_true rfl⟩) rfl rfl (Nat.le_of_ble_eq_true rfl) dX4_canSubstitute_37 ⟨Nat.zero_le _, Nat.zero_le _⟩ (fun r6 σ5 => ?_)
          refine g_iconst (v := (-1 : Int32)) C dX4_canSubstitute_40 (by decide) ?_
          refine g_icmp_eq (tgt := 53) C dX4_canSubstitute_41 (by decide) (fun h7 => ?_) (fun h7 => ?_)
          · refine g_iconst (v := (0 : Int32)) C dX4_canSubstitute_53 (by decide) ?_
            exact g_iretz C (by decide) hr dX4_canSubstitute_54
          · refine g_aload_n C 0 dX4_canSubstitute_44 rfl rfl ?_
            refine g_iload_n C 2 dX4_canSubstitute_45 rfl rfl ?_
            refine g_callvi (As := [.int p2]) (n := 1) C (c_Side_placeOf l hl D cI cJ ad k p2 hk) ⟨rfl, rfl⟩ gcl4 (gSd hk).1 qc21 (hR := ⟨Nat.le_of_ble_eq_true rfl, Nat.le_of_ble_eq_true rfl⟩) rfl rfl (Nat.le_of_ble_eq_true rfl) dX4_canSubstitute_46 ⟨Nat.zero_le _, Nat.zero_le _⟩ (fun r9 σ8 => ?_)
            refine g_iconst (v := (-1 : Int32)) C dX4_canSubstitute_49 (by decide) ?_
            refine g_icmp_eq (tgt := 55) C dX4_canSubstitute_50 (by decide) (fun h10 => ?_) (fun h10 => ?_)
            · refine g_aload_n C 0 dX4_canSubstitute_55 rfl rfl ?_
              refine g_getR (o' := (k + 2)) C k 1 gcl4 (gSd hk).1 (by decide) (gSd hk).2.2.1 qw10 dX4_canSubstitute_56 ?_
              refine g_iload_n C 1 dX4_canSubstitute_59 rfl rfl ?_
              refine g_callni (As := [.ref (ad (k + 2)), .int p1]) (n := 2) C (c_Game_valueIn l hl D cI cJ ad (k + 2) p1 (gSd hk).2.2.2.2.2.1) ⟨rfl, rfl⟩ qc3 (hR := ⟨Nat.le_of_ble_eq_true rfl, Nat.le_of_ble_eq_true rfl⟩) rfl rfl (Nat.le_of_ble_eq_true rfl) dX4_canSubstitute_60 ⟨Nat.zero_le _, Nat.zero_le _⟩ (fun r12 σ11 => ?_)
              refine g_if_ne (tgt := 81) C dX4_canSubstitute_63 (by decide) (fun h13 => ?_) (fun h13 => ?_)
              · refine g_aload_n C 0 dX4_canSubstitute_66 rfl rfl ?_
                refine g_getR (o' := (k + 2)) C k 1 gcl4 (gSd hk).1 (by decide) (gSd hk).2.2.1 qw10 dX4_canSubstitute_67 ?_
                refine g_iload_n C 2 dX4_canSubstitute_70 rfl rfl ?_
                refine g_callni (As := [.ref (ad (k + 2)), .int p2]) (n := 2) C (c_Game_valueIn l hl D cI cJ ad (k + 2) p2 (gSd hk).2.2.2.2.2.1) ⟨rfl, rfl⟩ qc3 (hR := ⟨Nat.le_of_ble_eq_true rfl, Nat.le_of_ble_eq_true rfl⟩) rfl rfl (Nat.le_of_ble_eq_true rfl) dX4_canSubstitute_71 ⟨Nat.zero_le _, Nat.zero_le _⟩ (fun r15 σ14 => ?_)
                refine g_if_ne (tgt := 81) C dX4_canSubstitute_74 (by decide) (fun h16 => ?_) (fun h16 => ?_)
                · refine g_iconst (v := (1 : Int32)) C dX4_canSubstitute_77 (by decide) ?_
                  refine g_goto (tgt := 82) C dX4_canSubstitute_78 (by decide) ?_
                  refine g_loc [0, 1, 2] rfl ?_
                  exact b_Side_canSubstitute_B82 C hr hl k p1 p2 hk p1 p2 (1 : Int32) σ14
                · refine g_loc [0, 1, 2] rfl ?_
                  exact b_Side_canSubstitute_B81 C hr hl k p1 p2 hk p1 p2 σ14
              · refine g_loc [0, 1, 2] rfl ?_
                exact b_Side_canSubstitute_B81 C hr hl k p1 p2 hk p1 p2 σ11
            · refine g_iconst (v := (0 : Int32)) C dX4_canSubstitute_53 (by decide) ?_
              exact g_iretz C (by decide) hr dX4_canSubstitute_54
