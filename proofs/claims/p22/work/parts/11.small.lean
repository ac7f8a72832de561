def F_Rally_start (p1 : Int32) (p2 : Int32) (σ : gSt) : Option gSt := gl (gup σ 15 0 (1 : Int32)) fun σ1 => gl (gup σ1 15 1 p1) fun σ2 => gl (gup σ2 15 2 p2) fun σ3 => gl (gup σ3 15 3 (-1 : Int32)) fun σ4 => gl (gup σ4 15 4 (0 : Int32)) fun σ5 => gl (gup σ5 15 5 (0 : Int32)) fun σ6 => gl (gup σ6 15 6 (0 : Int32)) fun σ7 => some σ7

set_option maxHeartbeats 4000000 in
set_option maxRecDepth 100000 in
theorem c_Rally_start (l : Launch) (hl : l.stackTraces = false) (D : va_G) (cI cJ : ClassId) (ad : Nat → Nat) (p1 : Int32) (p2 : Int32) : gMv l D cI cJ ad yX1_start cX1_start 3 none { frames := 0, cells := 0, slots := 0, locals := 0 } [.ref (ad 15), .int p1, .int p2] (F_Rally_start p1 p2) := by
  refine gStartV (L0 := [(0, .ref (ad 15)), (1, .int p1), (2, .int p2)]) RX1 (by decide) rfl rfl (Nat.le_of_ble_eq_true rfl) ?_
  intro p e s m args below meth c sz σ σ' C hr
  unfold F_Rally_start
  refine g_aload_n C 0 dX1_start_0 rfl rfl ?_
  refine g_iconst (v := (1 : Int32)) C dX1_start_1 (by decide) ?_
  refine g_putZ C 15 0 (by decide) gcl1 gft1 rfl (by decide) rfl rfl rfl qw69 dX1_start_2 (fun σ1 => ?_)
  refine g_aload_n C 0 dX1_start_5 rfl rfl ?_
  refine g_iload_n C 1 dX1_start_6 rfl rfl ?_
  refine g_putI C 15 1 gcl1 gft1 rfl (by decide) rfl rfl rfl qw70 dX1_start_7 (fun σ2 => ?_)
  refine g_aload_n C 0 dX1_start_10 rfl rfl ?_
  refine g_iload_n C 2 dX1_start_11 rfl rfl ?_
  refine g_putI C 15 2 gcl1 gft1 rfl (by decide) rfl rfl rfl qw71 dX1_start_12 (fun σ3 => ?_)
  refine g_aload_n C 0 dX1_start_15 rfl rfl ?_
  refine g_iconst (v := (-1 : Int32)) C dX1_start_16 (by decide) ?_
  refine g_putI C 15 3 gcl1 gft1 rfl (by decide) rfl rfl rfl qw72 dX1_start_17 (fun σ4 => ?_)
  refine g_aload_n C 0 dX1_start_20 rfl rfl ?_
  refine g_iconst (v := (0 : Int32)) C dX1_start_21 (by decide) ?_
  refine g_putI C 15 4 gcl1 gft1 rfl (by decide) rfl rfl rfl qw73 dX1_start_22 (fun σ5 => ?_)
  refine g_aload_n C 0 dX1_start_25 rfl rfl ?_
  refine g_iconst (v := (0 : Int32)) C dX1_start_26 (by decide) ?_
  refine g_putZ C 15 5 (by decide) gcl1 gft1 rfl (by decide) rfl rfl rfl qw74 dX1_start_27 (fun σ6 => ?_)
  refine g_aload_n C 0 dX1_start_30 rfl rfl ?_
  refine g_iconst (v := (0 : Int32)) C dX1_start_31 (by decide) ?_
  refine g_putZ C 15 6 (by decide) gcl1 gft1 rfl (by decide) rfl rfl rfl qw75 dX1_start_32 (fun σ7 => ?_)
  exact g_retv C hr dX1_start_35

def F_Rally_faultOf_B38 (p1 : Int32) (p2 : Int32) (p3 : Int32) (l3 : Int32) (σ : gSt) : Option (Int32 × gSt) := if (σ 15 4) = (3 : Int32) then (if l3 = (2 : Int32) then (some ((0 : Int32), σ)) else (some ((3 : Int32), σ))) else (some ((0 : Int32), σ))

def F_Rally_faultOf (p1 : Int32) (p2 : Int32) (p3 : Int32) (σ : gSt) : Option (Int32 × gSt) := if (σ 15 1) = p1 then (if (σ 15 3) = (-1 : Int32) then (some ((1 : Int32), σ)) else (if (σ 15 2) = p2 then (if (σ 15 3) = (2 : Int32) then (F_Rally_faultOf_B38 p1 p2 p3 p3 σ) else (some ((2 : Int32), σ))) else (F_Rally_faultOf_B38 p1 p2 p3 p3 σ))) else (some ((0 : Int32), σ))

set_option maxHeartbeats 4000000 in
set_option maxRecDepth 100000 in
theorem b_Rally_faultOf_B38 {p : Program} {l : Launch} {e : Env} {s : State} {m : MethodId} {args : Array Value} {below : List Frame} {meth : Method} {c : Code} {D : va_G} {cI cJ : ClassId} {ad : Nat → Nat} {sz : Nat} {r : Int32} {σ' : gSt} (C : gC p s m args meth c D cI cJ ad (gA ad sz) cX1_faultOf 4 RX1) (hr : meth.sig.returnType = (some .int)) (hl : l.stackTraces = false) (p1 : Int32) (p2 : Int32) (p3 : Int32) (l3 : Int32) (σ : gSt) : gX (F_Rally_faultOf_B38 p1 p2 p3 l3 σ) (r, σ') (gG p l e { frames := 0, cells := 0, slots := 0, locals := 0 } s m args below meth c D cI cJ ad (gA ad sz) 4 0 0 (MQ below (va_Qi (fun r1 (_ : Unit) => r1 = r) (fun _ t => va_P D vwCl (gw cI cJ ad σ') t.heap) (gA ad sz)) args s 0 0 (gA ad sz)) σ 38 [(0, .ref (ad 15)), (3, .int l3)] []) := by
  unfold F_Rally_faultOf_B38
  refine g_aload_n C 0 dX1_faultOf_38 rfl rfl ?_
  refine g_getI C 15 4 gcl1 rfl (by decide) rfl qw73 dX1_faultOf_39 ?_
  refine g_iconst (v := (3 : Int32)) C dX1_faultOf_42 (by decide) ?_
  refine g_icmp_ne (tgt := 55) C dX1_faultOf_43 (by decide) (fun h1 => ?_) (fun h1 => ?_)
  · refine g_iload_n C 1 dX1_faultOf_46 rfl rfl ?_
    refine g_iconst (v := (2 : Int32)) C dX1_faultOf_47 (by decide) ?_
    refine g_icmp_eq (tgt := 55) C dX1_faultOf_48 (by decide) (fun h2 => ?_) (fun h2 => ?_)
    · refine g_iconst (v := (0 : Int32)) C dX1_faultOf_55 (by decide) ?_
      exact g_ireti C hr dX1_faultOf_56
    · refine g_iconst (v := (3 : Int32)) C dX1_faultOf_51 (by decide) ?_
      refine g_goto (tgt := 56) C dX1_faultOf_52 (by decide) ?_
      exact g_ireti C hr dX1_faultOf_56
  · refine g_iconst (v := (0 : Int32)) C dX1_faultOf_55 (by decide) ?_
    exact g_ireti C hr dX1_faultOf_56

set_option maxHeartbeats 4000000 in
set_option maxRecDepth 100000 in
theorem c_Rally_faultOf (l : Launch) (hl : l.stackTraces = false) (D : va_G) (cI cJ : ClassId) (ad : Nat → Nat) (p1 : Int32) (p2 : Int32) (p3 : Int32) : gMi l D cI cJ ad yX1_faultOf cX1_faultOf 4 (some .int) { frames := 0, cells := 0, slots := 0, locals := 0 } [.ref (ad 15), .int p1, .int p2, .int p3] (F_Rally_faultOf p1 p2 p3) := by
  refine gStartI (L0 := [(0, .ref (ad 15)), (1, .int p1), (2, .int p2), (3, .int p3)]) RX1 (by decide) rfl rfl (Nat.le_of_ble_eq_true rfl) ?_
  intro p e s m args below meth c sz σ r σ' C hr
  unfold F_Rally_faultOf
  refine g_aload_n C 0 dX1_faultOf_0 rfl rfl ?_
  refine g_getI C 15 1 gcl1 rfl (by decide) rfl qw70 dX1_faultOf_1 ?_
  refine g_iload_n C 1 dX1_faultOf_4 rfl rfl ?_
  refine g_icmp_eq (tgt := 10) C dX1_faultOf_5 (by decide) (fun h1 => ?_) (fun h1 => ?_)
  · refine g_aload_n C 0 dX1_faultOf_10 rfl rfl ?_
    refine g_getI C 15 3 gcl1 rfl (by decide) rfl qw72 dX1_faultOf_11 ?_
    refine g_iconst (v := (-1 : Int32)) C dX1_faultOf_14 (by decide) ?_
    refine g_icmp_ne (tgt := 20) C dX1_faultOf_15 (by decide) (fun h2 => ?_) (fun h2 => ?_)
    · refine g_iconst (v := (1 : Int32)) C dX1_faultOf_18 (by decide) ?_
      exact g_ireti C hr dX1_faultOf_19
    · refine g_aload_n C 0 dX1_faultOf_20 rfl rfl ?_
      refine g_getI C 15 2 gcl1 rfl (by decide) rfl qw71 dX1_faultOf_21 ?_
      refine g_iload_n C 2 dX1_faultOf_24 rfl rfl ?_
      refine g_icmp_ne (tgt := 38) C dX1_faultOf_25 (by decide) (fun h3 => ?_) (fun h3 => ?_)
      · refine g_aload_n C 0 dX1_faultOf_28 rfl rfl ?_
        refine g_getI C 15 3 gcl1 rfl (by decide) rfl qw72 dX1_faultOf_29 ?_
        refine g_iconst (v := (2 : Int32)) C dX1_faultOf_32 (by decide) ?_
        refine g_icmp_eq (tgt := 38) C dX1_faultOf_33 (by decide) (fun h4 => ?_) (fun h4 => ?_)
        · refine g_loc [0, 3] rfl ?_
          exact b_Rally_faultOf_B38 C hr hl p1 p2 p3 p3 σ
        · refine g_iconst (v := (2 : Int32)) C dX1_faultOf_36 (by decide) ?_
          exact g_ireti C hr dX1_faultOf_37
      · refine g_loc [0, 3] rfl ?_
        exact b_Rally_faultOf_B38 C hr hl p1 p2 p3 p3 σ
  · refine g_iconst (v := (0 : Int32)) C dX1_faultOf_8 (by decide) ?_
    exact g_ireti C hr dX1_faultOf_9

def F_Rally_note_B32 (p1 : Int32) (p2 : Int32) (p3 : Int32) (l1 : Int32) (l2 : Int32) (l3 : Int32) (s0 : Int32) (σ : gSt) : Option gSt := gl (gup σ 15 4 s0) fun σ1 => gl (gup σ1 15 1 l1) fun σ2 => gl (gup σ2 15 2 l2) fun σ3 => gl (gup σ3 15 3 l3) fun σ4 => some σ4

def F_Rally_note_B16 (p1 : Int32) (p2 : Int32) (p3 : Int32) (l1 : Int32) (l2 : Int32) (l3 : Int32) (s0 : Int32) (σ : gSt) : Option gSt := if l3 = (2 : Int32) then (F_Rally_note_B32 p1 p2 p3 l1 l2 l3 (0 : Int32) σ) else (F_Rally_note_B32 p1 p2 p3 l1 l2 l3 (s0 + (1 : Int32)) σ)

def F_Rally_note (p1 : Int32) (p2 : Int32) (p3 : Int32) (σ : gSt) : Option gSt := if (σ 15 1) = p1 then (F_Rally_note_B16 p1 p2 p3 p1 p2 p3 (σ 15 4) σ) else (F_Rally_note_B16 p1 p2 p3 p1 p2 p3 (0 : Int32) σ)

set_option maxHeartbeats 4000000 in
set_option maxRecDepth 100000 in
theorem b_Rally_note_B32 {p : Program} {l : Launch} {e : Env} {s : State} {m : MethodId} {args : Array Value} {below : List Frame} {meth : Method} {c : Code} {D : va_G} {cI cJ : ClassId} {ad : Nat → Nat} {sz : Nat} {σ' : gSt} (C : gC p s m args meth c D cI cJ ad (gA ad sz) cX1_note 5 RX1) (hr : meth.sig.returnType = none) (hl : l.stackTraces = false) (p1 : Int32) (p2 : Int32) (p3 : Int32) (l1 : Int32) (l2 : Int32) (l3 : Int32) (s0 : Int32) (σ : gSt) : gX (F_Rally_note_B32 p1 p2 p3 l1 l2 l3 s0 σ) σ' (gG p l e { frames := 0, cells := 0, slots := 0, locals := 0 } s m args below meth c D cI cJ ad (gA ad sz) 5 0 0 (MQ below (va_Qv (fun (_ : Unit) => True) (fun _ t => va_P D vwCl (gw cI cJ ad σ') t.heap) (gA ad sz)) args s 0 0 (gA ad sz)) σ 32 [(0, .ref (ad 15)), (1, .int l1), (2, .int l2), (3, .int l3)] [.int s0, .ref (ad 15)]) := by
  unfold F_Rally_note_B32
  refine g_putI C 15 4 gcl1 gft1 rfl (by decide) rfl rfl rfl qw73 dX1_note_32 (fun σ1 => ?_)
  refine g_aload_n C 0 dX1_note_35 rfl rfl ?_
  refine g_iload_n C 1 dX1_note_36 rfl rfl ?_
  refine g_putI C 15 1 gcl1 gft1 rfl (by decide) rfl rfl rfl qw70 dX1_note_37 (fun σ2 => ?_)
  refine g_aload_n C 0 dX1_note_40 rfl rfl ?_
  refine g_iload_n C 2 dX1_note_41 rfl rfl ?_
  refine g_putI C 15 2 gcl1 gft1 rfl (by decide) rfl rfl rfl qw71 dX1_note_42 (fun σ3 => ?_)
  refine g_aload_n C 0 dX1_note_45 rfl rfl ?_
  refine g_iload_n C 3 dX1_note_46 rfl rfl ?_
  refine g_putI C 15 3 gcl1 gft1 rfl (by decide) rfl rfl rfl qw72 dX1_note_47 (fun σ4 => ?_)
  exact g_retv C hr dX1_note_50

set_option maxHeartbeats 4000000 in
set_option maxRecDepth 100000 in
theorem b_Rally_note_B16 {p : Program} {l : Launch} {e : Env} {s : State} {m : MethodId} {args : Array Value} {below : List Frame} {meth : Method} {c : Code} {D : va_G} {cI cJ : ClassId} {ad : Nat → Nat} {sz : Nat} {σ' : gSt} (C : gC p s m args meth c D cI cJ ad (gA ad sz) cX1_note 5 RX1) (hr : meth.sig.returnType = none) (hl : l.stackTraces = false) (p1 : Int32) (p2 : Int32) (p3 : Int32) (l1 : Int32) (l2 : Int32) (l3 : Int32) (s0 : Int32) (σ : gSt) : gX (F_Rally_note_B16 p1 p2 p3 l1 l2 l3 s0 σ) σ' (gG p l e { frames := 0, cells := 0, slots := 0, locals := 0 } s m args below meth c D cI cJ ad (gA ad sz) 5 0 0 (MQ below (va_Qv (fun (_ : Unit) => True) (fun _ t => va_P D vwCl (gw cI cJ ad σ') t.heap) (gA ad sz)) args s 0 0 (gA ad sz)) σ 16 [(0, .ref (ad 15)), (1, .int l1), (2, .int l2), (3, .int l3)] [.int s0]) := by
  unfold F_Rally_note_B16
  refine g_istore (L' := [(4, .int s0), (0, .ref (ad 15)), (1, .int l1), (2, .int l2), (3, .int l3)]) C dX1_note_16 (by decide) rfl ?_
  refine g_aload_n C 1 dX1_note_18 rfl rfl ?_
  refine g_iload_n C 4 dX1_note_19 rfl rfl ?_
  refine g_iconst (v := (2 : Int32)) C dX1_note_20 (by decide) ?_
  refine g_icmp_ne (tgt := 28) C dX1_note_21 (by decide) (fun h1 => ?_) (fun h1 => ?_)
  · refine g_iconst (v := (0 : Int32)) C dX1_note_24 (by decide) ?_
    refine g_goto (tgt := 32) C dX1_note_25 (by decide) ?_
    refine g_loc [1, 2, 3, 4] rfl ?_
    exact b_Rally_note_B32 C hr hl p1 p2 p3 l1 l2 l3 (0 : Int32) σ
  · refine g_iload C 0 dX1_note_28 rfl ?_
    refine g_iconst (v := (1 : Int32)) C dX1_note_30 (by decide) ?_
    refine g_iadd C dX1_note_31 ?_
    refine g_loc [1, 2, 3, 4] rfl ?_
    exact b_Rally_note_B32 C hr hl p1 p2 p3 l1 l2 l3 (s0 + (1 : Int32)) σ

set_option maxHeartbeats 4000000 in
set_option maxRecDepth 100000 in
theorem c_Rally_note (l : Launch) (hl : l.stackTraces = false) (D : va_G) (cI cJ : ClassId) (ad : Nat → Nat) (p1 : Int32) (p2 : Int32) (p3 : Int32) : gMv l D cI cJ ad yX1_note cX1_note 5 none { frames := 0, cells := 0, slots := 0, locals := 0 } [.ref (ad 15), .int p1, .int p2, .int p3] (F_Rally_note p1 p2 p3) := by
  refine gStartV (L0 := [(0, .ref (ad 15)), (1, .int p1), (2, .int p2), (3, .int p3)]) RX1 (by decide) rfl rfl (Nat.le_of_ble_eq_true rfl) ?_
  intro p e s m args below meth c sz σ σ' C hr
  unfold F_Rally_note
  refine g_aload_n C 0 dX1_note_0 rfl rfl ?_
  refine g_getI C 15 1 gcl1 rfl (by decide) rfl qw70 dX1_note_1 ?_
  refine g_iload_n C 1 dX1_note_4 rfl rfl ?_
  refine g_icmp_ne (tgt := 15) C dX1_note_5 (by decide) (fun h1 => ?_) (fun h1 => ?_)
  · refine g_aload_n C 0 dX1_note_8 rfl rfl ?_
    refine g_getI C 15 4 gcl1 rfl (by decide) rfl qw73 dX1_note_9 ?_
    refine g_goto (tgt := 16) C dX1_note_12 (by decide) ?_
    refine g_loc [0, 1, 2, 3] rfl ?_
    exact b_Rally_note_B16 C hr hl p1 p2 p3 p1 p2 p3 (σ 15 4) σ
  · refine g_iconst (v := (0 : Int32)) C dX1_note_15 (by decide) ?_
    refine g_loc [0, 1, 2, 3] rfl ?_
    exact b_Rally_note_B16 C hr hl p1 p2 p3 p1 p2 p3 (0 : Int32) σ

def F_Rally_noteNet (p1 : Int32) (σ : gSt) : Option gSt := if p1 = (1 : Int32) then (gl (gup σ 15 6 (1 : Int32)) fun σ2 => some σ2) else (gl (gup σ 15 5 (1 : Int32)) fun σ3 => some σ3)

set_option maxHeartbeats 4000000 in
set_option maxRecDepth 100000 in
theorem c_Rally_noteNet (l : Launch) (hl : l.stackTraces = false) (D : va_G) (cI cJ : ClassId) (ad : Nat → Nat) (p1 : Int32) : gMv l D cI cJ ad yX1_noteNet cX1_noteNet 2 none { frames := 0, cells := 0, slots := 0, locals := 0 } [.ref (ad 15), .int p1] (F_Rally_noteNet p1) := by
  refine gStartV (L0 := [(0, .ref (ad 15)), (1, .int p1)]) RX1 (by decide) rfl rfl (Nat.le_of_ble_eq_true rfl) ?_
  intro p e s m args below meth c sz σ σ' C hr
  unfold F_Rally_noteNet
  refine g_iload_n C 1 dX1_noteNet_0 rfl rfl ?_
  refine g_iconst (v := (1 : Int32)) C dX1_noteNet_1 (by decide) ?_
  refine g_icmp_ne (tgt := 13) C dX1_noteNet_2 (by decide) (fun h1 => ?_) (fun h1 => ?_)
  · refine g_aload_n C 0 dX1_noteNet_5 rfl rfl ?_
    refine g_iconst (v := (1 : Int32)) C dX1_noteNet_6 (by decide) ?_
    refine g_putZ C 15 6 (by decide) gcl1 gft1 rfl (by decide) rfl rfl rfl qw75 dX1_noteNet_7 (fun σ2 => ?_)
    refine g_goto (tgt := 18) C dX1_noteNet_10 (by decide) ?_
    exact g_retv C hr dX1_noteNet_18
  · refine g_aload_n C 0 dX1_noteNet_13 rfl rfl ?_
    refine g_iconst (v := (1 : Int32)) C dX1_noteNet_14 (by decide) ?_
    refine g_putZ C 15 5 (by decide) gcl1 gft1 rfl (by decide) rfl rfl rfl qw74 dX1_noteNet_15 (fun σ3 => ?_)
    exact g_retv C hr dX1_noteNet_18

def F_Rally_isNetNotedOf (p1 : Int32) (σ : gSt) : Option (Int32 × gSt) := if p1 = (1 : Int32) then (if (σ 15 6) = 0 ∨ (σ 15 6) = 1 then some ((σ 15 6), σ) else none) else (if (σ 15 5) = 0 ∨ (σ 15 5) = 1 then some ((σ 15 5), σ) else none)

set_option maxHeartbeats 4000000 in
set_option maxRecDepth 100000 in
theorem c_Rally_isNetNotedOf (l : Launch) (hl : l.stackTraces = false) (D : va_G) (cI cJ : ClassId) (ad : Nat → Nat) (p1 : Int32) : gMi l D cI cJ ad yX1_isNetNotedOf cX1_isNetNotedOf 2 (some .boolean) { frames := 0, cells := 0, slots := 0, locals := 0 } [.ref (ad 15), .int p1] (F_Rally_isNetNotedOf p1) := by
  refine gStartI (L0 := [(0, .ref (ad 15)), (1, .int p1)]) RX1 (by decide) rfl rfl (Nat.le_of_ble_eq_true rfl) ?_
  intro p e s m args below meth c sz σ r σ' C hr
  unfold F_Rally_isNetNotedOf
  refine g_iload_n C 1 dX1_isNetNotedOf_0 rfl rfl ?_
  refine g_iconst (v := (1 : Int32)) C dX1_isNetNotedOf_1 (by decide) ?_
  refine g_icmp_ne (tgt := 12) C dX1_isNetNotedOf_2 (by decide) (fun h1 => ?_) (fun h1 => ?_)
  · refine g_aload_n C 0 dX1_isNetNotedOf_5 rfl rfl ?_
    refine g_getI C 15 6 gcl1 rfl (by decide) rfl qw75 dX1_isNetNotedOf_6 ?_
    refine g_goto (tgt := 16) C dX1_isNetNotedOf_9 (by decide) ?_
    refine gX_z (fun z2 => ?_)
    exact g_iretz C z2 hr dX1_isNetNotedOf_16
  · refine g_aload_n C 0 dX1_isNetNotedOf_12 rfl rfl ?_
    refine g_getI C 15 5 gcl1 rfl (by decide) rfl qw74 dX1_isNetNotedOf_13 ?_
    refine gX_z (fun z3 => ?_)
    exact g_iretz C z3 hr dX1_isNetNotedOf_16

def F_Reader_clear_B22  : Nat → Int32 → gSt → Option gSt
  | 0, _, _ => none
  | n + 1, l1, σ => if (6 : Int32) ≤ l1 then (some σ) else (gbv (F_Game_putIn 26 l1 (0 : Int32) σ) fun σ2 => gbv (F_Game_putIn 27 l1 (0 : Int32) σ2) fun σ3 => F_Reader_clear_B22 n (l1 + (1 : Int32)) σ3)

def F_Reader_clear  (σ : gSt) : Option gSt := gbv (F_Side_clearOrder 20 σ) fun σ1 => gbv (F_Side_clearOrder 23 σ1) fun σ2 => F_Reader_clear_B22 100 (0 : Int32) σ2

set_option maxHeartbeats 4000000 in
set_option maxRecDepth 100000 in
theorem b_Reader_clear_B22 {p : Program} {l : Launch} {e : Env} {s : State} {m : MethodId} {args : Array Value} {below : List Frame} {meth : Method} {c : Code} {D : va_G} {cI cJ : ClassId} {ad : Nat → Nat} {sz : Nat} {σ' : gSt} (C : gC p s m args meth c D cI cJ ad (gA ad sz) cX2_clear 2 RX2) (hr : meth.sig.returnType = none) (hl : l.stackTraces = false) : ∀ (n : Nat) (l1 : Int32) (σ : gSt), gX (F_Reader_clear_B22 n l1 σ) σ' (gG p l e { frames := 3, cells := 0, slots := 0, locals := 65 } s m args below meth c D cI cJ ad (gA ad sz) 2 0 0 (MQ below (va_Qv (fun (_ : Unit) => True) (fun _ t => va_P D vwCl (gw cI cJ ad σ') t.heap) (gA ad sz)) args s 0 0 (gA ad sz)) σ 22 [(0, .ref (ad 18)), (1, .int l1)] []) := by
  intro n
  induction n with
  | zero =>
    intro l1 σ
    unfold F_Reader_clear_B22
    exact gX_none
  | succ n ih =>
    intro l1 σ
    unfold F_Reader_clear_B22
    refine g_iload_n C 1 dX2_clear_22 rfl rfl ?_
    refine g_bipush (v := (6 : Int32)) C dX2_clear_23 (by decide) ?_
    refine g_icmp_ge (tgt := 52) C dX2_clear_25 (by decide) (fun h1 => ?_) (fun h1 => ?_)
    · exact g_retv C hr dX2_clear_52
    · refine g_aload_n C 0 dX2_clear_28 rfl rfl ?_
      refine g_getR (o' := 26) C 18 1 gcl2 rfl (by decide) rfl qw80 dX2_clear_29 ?_
      refine g_iload_n C 1 dX2_clear_32 rfl rfl ?_
      refine g_iconst (v := (0 : Int32)) C dX2_clear_33 (by decide) ?_
      refine g_callnv (As := [.ref (ad 26), .int l1, .int (0 : Int32)]) (n := 3) C (c_Game_putIn l hl D cI cJ ad 26 l1 (0 : Int32) rfl) ⟨rfl, rfl⟩ qc15 (hR := ⟨Nat.le_of_ble_eq_true rfl, Nat.le_of_ble_eq_true rfl⟩) rfl rfl (Nat.le_of_ble_eq_true rfl) dX2_clear_34 ⟨Nat.zero_le _, Nat.zero_le _⟩ (fun σ2 => ?_)
      refine g_aload_n C 0 dX2_clear_37 rfl rfl ?_
      refine g_getR (o' := 27) C 18 2 gcl2 rfl (by decide) rfl qw82 dX2_clear_38 ?_
      refine g_iload_n C 1 dX2_clear_41 rfl rfl ?_
      refine g_iconst (v := (0 : Int32)) C dX2_clear_42 (by decide) ?_
      refine g_callnv (As := [.ref (ad 27), .int l1, .int (0 : Int32)]) (n := 3) C (c_Game_putIn l hl D cI cJ ad 27 l1 (0 : Int32) rfl) ⟨rfl, rfl⟩ qc15 (hR := ⟨Nat.le_of_ble_eq_true rfl, Nat.le_of_ble_eq_true rfl⟩) rfl rfl (Nat.le_of_ble_eq_true rfl) dX2_clear_43 ⟨Nat.zero_le _, Nat.zero_le _⟩ (fun σ3 => ?_)
      refine g_iinc (v := (l1 + (1 : Int32))) (L' := [(1, .int (l1 + (1 : Int32))), (0, .ref (ad 18))]) C 1 dX2_clear_46 rfl (by rfl) (by decide) rfl ?_
      refine g_goto (tgt := 22) C dX2_clear_49 (by decide) ?_
      refine g_loc [1, 0] rfl ?_
      exact ih (l1 + (1 : Int32)) σ3

set_option maxHeartbeats 4000000 in
set_option maxRecDepth 100000 in
theorem c_Reader_clear (l : Launch) (hl : l.stackTraces = false) (D : va_G) (cI cJ : ClassId) (ad : Nat → Nat) : gMv l D cI cJ ad yX2_clear cX2_clear 2 none { frames := 3, cells := 0, slots := 0, locals := 65 } [.ref (ad 18)] (F_Reader_clear) := by
  refine gStartV (L0 := [(0, .ref (ad 18))]) RX2 (by decide) rfl rfl (Nat.le_of_ble_eq_true rfl) ?_
  intro p e s m args below meth c sz σ σ' C hr
  unfold F_Reader_clear
  refine g_aload_n C 0 dX2_clear_0 rfl rfl ?_
  refine g_getR (o' := 19) C 18 0 gcl2 rfl (by decide) rfl qw76 dX2_clear_1 ?_
  refine g_getRN (o' := 20) C 19 0 gcl0 rfl (by decide) rfl qn77 dX2_clear_4 ?_
  refine g_callvv (As := []) (n := 0) C (c_Side_clearOrder l hl D cI cJ ad 20 gs20) ⟨rfl, rfl⟩ gcl4 rfl qc14 (hR := ⟨Nat.le_of_ble_eq_true rfl, Nat.le_of_ble_eq_true rfl⟩) rfl rfl (Nat.le_of_ble_eq_true rfl) dX2_clear_7 ⟨Nat.zero_le _, Nat.zero_le _⟩ (fun σ1 => ?_)
  refine g_aload_n C 0 dX2_clear_10 rfl rfl ?_
  refine g_getR (o' := 19) C 18 0 gcl2 rfl (by decide) rfl qw76 dX2_clear_11 ?_
  refine g_getRN (o' := 23) C 19 1 gcl0 rfl (by decide) rfl qn79 dX2_clear_14 ?_
  refine g_callvv (As := []) (n := 0) C (c_Side_clearOrder l hl D cI cJ ad 23 gs23) ⟨rfl, rfl⟩ gcl4 rfl qc14 (hR := ⟨Nat.le_of_ble_eq_true rfl, Nat.le_of_ble_eq_true rfl⟩) rfl rfl (Nat.le_of_ble_eq_true rfl) dX2_clear_17 ⟨Nat.zero_le _, Nat.zero_le _⟩ (fun σ2 => ?_)
  refine g_iconst (v := (0 : Int32)) C dX2_clear_20 (by decide) ?_
  refine g_istore_n (L' := [(1, .int (0 : Int32)), (0, .ref (ad 18))]) C dX2_clear_21 rfl (by decide) rfl ?_
  refine g_loc [1, 0] rfl ?_
  exact b_Reader_clear_B22 C hr hl 100 (0 : Int32) σ2

def F_Sheet_signAt (p1 : Int32) (σ : gSt) : Option (Int32 × gSt) := gbi (F_Game_valueIn 17 p1 σ) fun r2 σ1 => some (r2, σ1)

set_option maxHeartbeats 4000000 in
set_option maxRecDepth 100000 in
theorem c_Sheet_signAt (l : Launch) (hl : l.stackTraces = false) (D : va_G) (cI cJ : ClassId) (ad : Nat → Nat) (p1 : Int32) : gMi l D cI cJ ad yX3_signAt cX3_signAt 2 (some .int) { frames := 1, cells := 0, slots := 0, locals := 21 } [.ref (ad 16), .int p1] (F_Sheet_signAt p1) := by
  refine gStartI (L0 := [(0, .ref (ad 16)), (1, .int p1)]) RX3 (by decide) rfl rfl (Nat.le_of_ble_eq_true rfl) ?_
  intro p e s m args below meth c sz σ r σ' C hr
  unfold F_Sheet_signAt
  refine g_aload_n C 0 dX3_signAt_0 rfl rfl ?_
  refine g_getR (o' := 17) C 16 0 gcl3 rfl (by decide) rfl qw83 dX3_signAt_1 ?_
  refine g_iload_n C 1 dX3_signAt_4 rfl rfl ?_
  refine g_callni (As := [.ref (ad 17), .int p1]) (n := 2) C (c_Game_valueIn l hl D cI cJ ad 17 p1 rfl) ⟨rfl, rfl⟩ qc16 (hR := ⟨Nat.le_of_ble_eq_true rfl, Nat.le_of_ble_eq_true rfl⟩) rfl rfl (Nat.le_of_ble_eq_true rfl) dX3_signAt_5 ⟨Nat.zero_le _, Nat.zero_le _⟩ (fun r2 σ1 => ?_)
  exact g_ireti C hr dX3_signAt_8

def F_Sheet_kindOf (p1 : Int32) (σ : gSt) : Option (Int32 × gSt) := some ((p1 >>> ((11 : Int32) &&& 31)), σ)

set_option maxHeartbeats 4000000 in
set_option maxRecDepth 100000 in
theorem c_Sheet_kindOf (l : Launch) (hl : l.stackTraces = false) (D : va_G) (cI cJ : ClassId) (ad : Nat → Nat) (p1 : Int32) : gMi l D cI cJ ad yX3_kindOf cX3_kindOf 1 (some .int) { frames := 0, cells := 0, slots := 0, locals := 0 } [.int p1] (F_Sheet_kindOf p1) := by
  refine gStartI (L0 := [(0, .int p1)]) RX3 (by decide) rfl rfl (Nat.le_of_ble_eq_true rfl) ?_
  intro p e s m args below meth c sz σ r σ' C hr
  unfold F_Sheet_kindOf
  refine g_iload_n C 0 dX3_kindOf_0 rfl rfl ?_
  refine g_bipush (v := (11 : Int32)) C dX3_kindOf_1 (by decide) ?_
  refine g_ishr C dX3_kindOf_3 ?_
  exact g_ireti C hr dX3_kindOf_4

def F_Sheet_teamOf (p1 : Int32) (σ : gSt) : Option (Int32 × gSt) := some (((p1 >>> ((10 : Int32) &&& 31)) &&& (1 : Int32)), σ)

set_option maxHeartbeats 4000000 in
set_option maxRecDepth 100000 in
theorem c_Sheet_teamOf (l : Launch) (hl : l.stackTraces = false) (D : va_G) (cI cJ : ClassId) (ad : Nat → Nat) (p1 : Int32) : gMi l D cI cJ ad yX3_teamOf cX3_teamOf 1 (some .int) { frames := 0, cells := 0, slots := 0, locals := 0 } [.int p1] (F_Sheet_teamOf p1) := by
  refine gStartI (L0 := [(0, .int p1)]) RX3 (by decide) rfl rfl (Nat.le_of_ble_eq_true rfl) ?_
  intro p e s m args below meth c sz σ r σ' C hr
  unfold F_Sheet_teamOf
  refine g_iload_n C 0 dX3_teamOf_0 rfl rfl ?_
  refine g_bipush (v := (10 : Int32)) C dX3_teamOf_1 (by decide) ?_
  refine g_ishr C dX3_teamOf_3 ?_
  refine g_iconst (v := (1 : Int32)) C dX3_teamOf_4 (by decide) ?_
  refine g_iand C dX3_teamOf_5 ?_
  exact g_ireti C hr dX3_teamOf_6

def F_Sheet_oneOf (p1 : Int32) (σ : gSt) : Option (Int32 × gSt) := some (((p1 >>> ((5 : Int32) &&& 31)) &&& (31 : Int32)), σ)

set_option maxHeartbeats 4000000 in
set_option maxRecDepth 100000 in
theorem c_Sheet_oneOf (l : Launch) (hl : l.stackTraces = false) (D : va_G) (cI cJ : ClassId) (ad : Nat → Nat) (p1 : Int32) : gMi l D cI cJ ad yX3_oneOf cX3_oneOf 1 (some .int) { frames := 0, cells := 0, slots := 0, locals := 0 } [.int p1] (F_Sheet_oneOf p1) := by
  refine gStartI (L0 := [(0, .int p1)]) RX3 (by decide) rfl rfl (Nat.le_of_ble_eq_true rfl) ?_
  intro p e s m args below meth c sz σ r σ' C hr
  unfold F_Sheet_oneOf
  refine g_iload_n C 0 dX3_oneOf_0 rfl rfl ?_
  refine g_iconst (v := (5 : Int32)) C dX3_oneOf_1 (by decide) ?_
  refine g_ishr C dX3_oneOf_2 ?_
  refine g_bipush (v := (31 : Int32)) C dX3_oneOf_3 (by decide) ?_
  refine g_iand C dX3_oneOf_5 ?_
  exact g_ireti C hr dX3_oneOf_6

def F_Sheet_twoOf (p1 : Int32) (σ : gSt) : Option (Int32 × gSt) := some ((p1 &&& (31 : Int32)), σ)

set_option maxHeartbeats 4000000 in
set_option maxRecDepth 100000 in
theorem c_Sheet_twoOf (l : Launch) (hl : l.stackTraces = false) (D : va_G) (cI cJ : ClassId) (ad : Nat → Nat) (p1 : Int32) : gMi l D cI cJ ad yX3_twoOf cX3_twoOf 1 (some .int) { frames := 0, cells := 0, slots := 0, locals := 0 } [.int p1] (F_Sheet_twoOf p1) := by
  refine gStartI (L0 := [(0, .int p1)]) RX3 (by decide) rfl rfl (Nat.le_of_ble_eq_true rfl) ?_
  intro p e s m args below meth c sz σ r σ' C hr
  unfold F_Sheet_twoOf
  refine g_iload_n C 0 dX3_twoOf_0 rfl rfl ?_
  refine g_bipush (v := (31 : Int32)) C dX3_twoOf_1 (by decide) ?_
  refine g_iand C dX3_twoOf_3 ?_
  exact g_ireti C hr dX3_twoOf_4

def F_Reader_rowOf (p1 : Int32) (σ : gSt) : Option (Nat × gSt) := if p1 = (1 : Int32) then (some (27, σ)) else (some (26, σ))

set_option maxHeartbeats 4000000 in
set_option maxRecDepth 100000 in
theorem c_Reader_rowOf (l : Launch) (hl : l.stackTraces = false) (D : va_G) (cI cJ : ClassId) (ad : Nat → Nat) (p1 : Int32) : gMr l D cI cJ ad yX2_rowOf cX2_rowOf 2 (some (.array .int)) { frames := 0, cells := 0, slots := 0, locals := 0 } [.ref (ad 18), .int p1] (F_Reader_rowOf p1) := by
  refine gStartR (L0 := [(0, .ref (ad 18)), (1, .int p1)]) RX2 (by decide) rfl rfl (Nat.le_of_ble_eq_true rfl) ?_
  intro p e s m args below meth c sz σ r σ' C hr
  unfold F_Reader_rowOf
  refine g_iload_n C 1 dX2_rowOf_0 rfl rfl ?_
  refine g_iconst (v := (1 : Int32)) C dX2_rowOf_1 (by decide) ?_
  refine g_icmp_ne (tgt := 12) C dX2_rowOf_2 (by decide) (fun h1 => ?_) (fun h1 => ?_)
  · refine g_aload_n C 0 dX2_rowOf_5 rfl rfl ?_
    refine g_getR (o' := 27) C 18 2 gcl2 rfl (by decide) rfl qw82 dX2_rowOf_6 ?_
    refine g_goto (tgt := 16) C dX2_rowOf_9 (by decide) ?_
    exact g_areto C hr (by first | exact Or.inl ⟨_, rfl⟩ | exact Or.inr ⟨_, rfl⟩) dX2_rowOf_16
  · refine g_aload_n C 0 dX2_rowOf_12 rfl rfl ?_
    refine g_getR (o' := 26) C 18 1 gcl2 rfl (by decide) rfl qw80 dX2_rowOf_13 ?_
    exact g_areto C hr (by first | exact Or.inl ⟨_, rfl⟩ | exact Or.inr ⟨_, rfl⟩) dX2_rowOf_16

theorem gRow_arr {t : Int32} {σ : gSt} {o : Nat} {σ' : gSt} (h : F_Reader_rowOf t σ = some (o, σ')) : gKd o = 7 ∧ gLn o = 6 := by
  unfold F_Reader_rowOf at h
  split at h <;> (cases h; exact ⟨rfl, rfl⟩)

def F_Reader_lostBy (p1 : Int32) (p2 : Int32) (σ : gSt) : Option (Int32 × gSt) := gbr (F_Reader_rowOf p1 σ) fun o2 σ1 => gbi (F_Game_valueIn o2 p2 σ1) fun r5 σ4 => some (r5, σ4)

set_option maxHeartbeats 4000000 in
set_option maxRecDepth 100000 in
theorem c_Reader_lostBy (l : Launch) (hl : l.stackTraces = false) (D : va_G) (cI cJ : ClassId) (ad : Nat → Nat) (p1 : Int32) (p2 : Int32) : gMi l D cI cJ ad yX2_lostBy cX2_lostBy 3 (some .int) { frames := 1, cells := 0, slots := 0, locals := 21 } [.ref (ad 18), .int p1, .int p2] (F_Reader_lostBy p1 p2) := by
  refine gStartI (L0 := [(0, .ref (ad 18)), (1, .int p1), (2, .int p2)]) RX2 (by decide) rfl rfl (Nat.le_of_ble_eq_true rfl) ?_
  intro p e s m args below meth c sz σ r σ' C hr
  unfold F_Reader_lostBy
  refine g_aload_n C 0 dX2_lostBy_0 rfl rfl ?_
  refine g_iload_n C 1 dX2_lostBy_1 rfl rfl ?_
  refine g_callvr (As := [.int p1]) (n := 1) C (c_Reader_rowOf l hl D cI cJ ad p1) ⟨rfl, rfl⟩ gcl2 rfl qc17 (hR := ⟨Nat.le_of_ble_eq_true rfl, Nat.le_of_ble_eq_true rfl⟩) rfl rfl (Nat.le_of_ble_eq_true rfl) dX2_lostBy_2 ⟨Nat.zero_le _, Nat.zero_le _⟩ (fun o2 σ1 h3 => ?_)
  refine g_iload_n C 2 dX2_lostBy_5 rfl rfl ?_
  refine g_callni (As := [.ref (ad o2), .int p2]) (n := 2) C (c_Game_valueIn l hl D cI cJ ad o2 p2 (gRow_arr h3).1) ⟨rfl, rfl⟩ qc18 (hR := ⟨Nat.le_of_ble_eq_true rfl, Nat.le_of_ble_eq_true rfl⟩) rfl rfl (Nat.le_of_ble_eq_true rfl) dX2_lostBy_6 ⟨Nat.zero_le _, Nat.zero_le _⟩ (fun r5 σ4 => ?_)
  exact g_ireti C hr dX2_lostBy_9

def F_Reader_countLost (p1 : Int32) (σ : gSt) : Option gSt := gbr (F_Court_sideOf 19 p1 σ) fun o2 σ1 => gl ((σ1 o2 6) - (σ1 o2 6) / (6 : Int32) * (6 : Int32)) fun x4 => gbr (F_Reader_rowOf p1 σ1) fun o6 σ5 => gbi (F_Reader_lostBy p1 x4 σ5) fun r9 σ8 => gbv (F_Game_putIn o6 x4 (r9 + (1 : Int32)) σ8) fun σ10 => some σ10

set_option maxHeartbeats 4000000 in
set_option maxRecDepth 100000 in
theorem c_Reader_countLost (l : Launch) (hl : l.stackTraces = false) (D : va_G) (cI cJ : ClassId) (ad : Nat → Nat) (p1 : Int32) : gMv l D cI cJ ad yX2_countLost cX2_countLost 3 none { frames := 2, cells := 0, slots := 0, locals := 43 } [.ref (ad 18), .int p1] (F_Reader_countLost p1) := by
  refine gStartV (L0 := [(0, .ref (ad 18)), (1, .int p1)]) RX2 (by decide) rfl rfl (Nat.le_of_ble_eq_true rfl) ?_
  intro p e s m args below meth c sz σ σ' C hr
  unfold F_Reader_countLost
  refine g_aload_n C 0 dX2_countLost_0 rfl rfl ?_
  refine g_getR (o' := 19) C 18 0 gcl2 rfl (by decide) rfl qw76 dX2_countLost_1 ?_
  refine g_iload_n C 1 dX2_countLost_4 rfl rfl ?_
  refine g_callvr (As := [.int p1]) (n := 1) C (c_Court_sideOf l hl D cI cJ ad 19 p1 gc19) ⟨rfl, rfl⟩ gcl0 rfl qc19 (hR := ⟨Nat.le_of_ble_eq_true rfl, Nat.le_of_ble_eq_true rfl⟩) rfl rfl (Nat.le_of_ble_eq_true rfl) dX2_countLost_5 ⟨Nat.zero_le _, Nat.zero_le _⟩ (fun o2 σ1 h3 => ?_)
  refine g_getIN C o2 6 gcl4 (gSd (gOf_side gc19 h3)).1 (by decide) ((gSd (gOf_side gc19 h3)).2.2.2.1 6 (by decide)) qn92 dX2_countLost_8 ?_
  refine g_bipush (v := (6 : Int32)) C dX2_countLost_11 (by decide) ?_
  refine g_irem C dX2_countLost_13 (by decide) ?_
  refine g_name ?_; intro x4
  refine g_istore_n (L' := [(2, .int x4), (0, .ref (ad 18)), (1, .int p1)]) C dX2_countLost_14 rfl (by decide) rfl ?_
  refine g_aload_n C 1 dX2_countLost_15 rfl rfl ?_
  refine g_iload_n C 2 dX2_countLost_16 rfl rfl ?_
  refine g_callvr (As := [.int p1]) (n := 1) C (c_Reader_rowOf l hl D cI cJ ad p1) ⟨rfl, rfl⟩ gcl2 rfl qc17 (hR := ⟨Nat.le_of_ble_eq_true rfl, Nat.le_of_ble_eq_true rfl⟩) rfl rfl (Nat.le_of_ble_eq_true rfl) dX2_countLost_17 ⟨Nat.zero_le _, Nat.zero_le _⟩ (fun o6 σ5 h7 => ?_)
  refine g_iload_n C 0 dX2_countLost_20 rfl rfl ?_
  refine g_aload_n C 1 dX2_countLost_21 rfl rfl ?_
  refine g_iload_n C 2 dX2_countLost_22 rfl rfl ?_
  refine g_iload_n C 0 dX2_countLost_23 rfl rfl ?_
  refine g_callvi (As := [.int p1, .int x4]) (n := 2) C (c_Reader_lostBy l hl D cI cJ ad p1 x4) ⟨rfl, rfl⟩ gcl2 rfl qc20 (hR := ⟨Nat.le_of_ble_eq_true rfl, Nat.le_of_ble_eq_true rfl⟩) rfl rfl (Nat.le_of_ble_eq_true rfl) dX2_countLost_24 ⟨Nat.zero_le _, Nat.zero_le _⟩ (fun r9 σ8 => ?_)
  refine g_iconst (v := (1 : Int32)) C dX2_countLost_27 (by decide) ?_
  refine g_iadd C dX2_countLost_28 ?_
  refine g_callnv (As := [.ref (ad o6), .int x4, .int (r9 + (1 : Int32))]) (n := 3) C (c_Game_putIn l hl D cI cJ ad o6 x4 (r9 + (1 : Int32)) (gRow_arr h7).1) ⟨rfl, rfl⟩ qc15 (hR := ⟨Nat.le_of_ble_eq_true rfl, Nat.le_of_ble_eq_true rfl⟩) rfl rfl (Nat.le_of_ble_eq_true rfl) dX2_countLost_29 ⟨Nat.zero_le _, Nat.zero_le _⟩ (fun σ10 => ?_)
  exact g_retv C hr dX2_countLost_32

def F_Reader_follow (p1 : Int32) (p2 : Int32) (p3 : Int32) (p4 : Int32) (σ : gSt) : Option gSt := gbr (F_Court_sideOf 19 p2 σ) fun o2 σ1 => if p1 = (0 : Int32) then (gbv (F_Side_put o2 p3 p4 σ1) fun σ5 => some σ5) else if p1 = (1 : Int32) then (gl (gup σ1 o2 2 p3) fun σ7 => some σ7) else if p1 = (2 : Int32) then (gbv (F_Court_startSet 19 p2 σ1) fun σ9 => some σ9) else if p1 = (3 : Int32) then (gbi (F_Court_takeService 19 p3 σ1) fun r12 σ11 => some σ11) else if p1 = (4 : Int32) then (gbv (F_Reader_countLost ((1 : Int32) - p2) σ1) fun σ14 => gbv (F_Court_givePoint 19 p2 σ14) fun σ15 => some σ15) else if p1 = (5 : Int32) then (gbi (F_Court_takeBack 19 σ1) fun r18 σ17 => some σ17) else if p1 = (6 : Int32) then (gbv (F_Side_swapLibero o2 p3 σ1) fun σ20 => some σ20) else if p1 = (7 : Int32) then (gbv (F_Side_swapByPair o2 p3 p4 σ1) fun σ22 => some σ22) else (some σ1)

set_option maxHeartbeats 4000000 in
set_option maxRecDepth 100000 in
theorem c_Reader_follow (l : Launch) (hl : l.stackTraces = false) (D : va_G) (cI cJ : ClassId) (ad : Nat → Nat) (p1 : Int32) (p2 : Int32) (p3 : Int32) (p4 : Int32) : gMv l D cI cJ ad yX2_follow cX2_follow 6 none { frames := 5, cells := 0, slots := 0, locals := 110 } [.ref (ad 18), .int p1, .int p2, .int p3, .int p4] (F_Reader_follow p1 p2 p3 p4) := by
  refine gStartV (L0 := [(0, .ref (ad 18)), (1, .int p1), (2, .int p2), (3, .int p3), (4, .int p4)]) RX2 (by decide) rfl rfl (Nat.le_of_ble_eq_true rfl) ?_
  intro p e s m args below meth c sz σ σ' C hr
  unfold F_Reader_follow
  refine g_aload_n C 0 dX2_follow_0 rfl rfl ?_
  refine g_getR (o' := 19) C 18 0 gcl2 rfl (by decide) rfl qw76 dX2_follow_1 ?_
  refine g_iload_n C 2 dX2_follow_4 rfl rfl ?_
  refine g_callvr (As := [.int p2]) (n := 1) C (c_Court_sideOf l hl D cI cJ ad 19 p2 gc19) ⟨rfl, rfl⟩ gcl0 rfl qc19 (hR := ⟨Nat.le_of_ble_eq_true rfl, Nat.le_of_ble_eq_true rfl⟩) rfl rfl (Nat.le_of_ble_eq_true rfl) dX2_follow_5 ⟨Nat.zero_le _, Nat.zero_le _⟩ (fun o2 σ1 h3 => ?_)
  refine g_astore (L' := [(5, .ref (ad o2)), (0, .ref (ad 18)), (1, .int p1), (2, .int p2), (3, .int p3), (4, .int p4)]) C dX2_follow_8 (by decide) rfl ?_
  refine g_iload_n C 2 dX2_follow_10 rfl rfl ?_
  refine gX_if (fun h4 => ?_) (fun h4 => ?_)
  · refine g_tswIn (tgt := 56) C dX2_follow_11 (0) (by rw [h4]; decide) (by decide) (by decide) rfl (by decide) ?_
    refine g_aload C 0 dX2_follow_56 rfl ?_
    refine g_iload_n C 4 dX2_follow_58 rfl rfl ?_
    refine g_iload C 5 dX2_follow_59 rfl ?_
    refine g_callvv (As := [.int p3, .int p4]) (n := 2) C (c_Side_put l hl D cI cJ ad o2 p3 p4 (gOf_side gc19 h3)) ⟨rfl, rfl⟩ gcl4 (gSd (gOf_side gc19 h3)).1 qc22 (hR := ⟨Nat.le_of_ble_eq_true rfl, Nat.le_of_ble_eq_true rfl⟩) rfl rfl (Nat.le_of_ble_eq_true rfl) dX2_follow_61 ⟨Nat.zero_le _, Nat.zero_le _⟩ (fun σ5 => ?_)
    refine g_goto (tgt := 148) C dX2_follow_64 (by decide) ?_
    exact g_retv C hr dX2_follow_148
  · refine gX_if (fun h6 => ?_) (fun h6 => ?_)
    · refine g_tswIn (tgt := 67) C dX2_follow_11 (1) (by rw [h6]; decide) (by decide) (by decide) rfl (by decide) ?_
      refine g_aload C 0 dX2_follow_67 rfl ?_
      refine g_iload_n C 4 dX2_follow_69 rfl rfl ?_
      refine g_putIN C o2 2 gcl4 gft4 (gSd (gOf_side gc19 h3)).1 (by decide) ((gSd (gOf_side gc19 h3)).2.2.2.1 2 (by decide)) rfl rfl qn102 dX2_follow_70 (fun σ7 => ?_)
      refine g_goto (tgt := 148) C dX2_follow_73 (by decide) ?_
      exact g_retv C hr dX2_follow_148
    · refine gX_if (fun h8 => ?_) (fun h8 => ?_)
      · refine g_tswIn (tgt := 76) C dX2_follow_11 (2) (by rw [h8]; decide) (by decide) (by decide) rfl (by decide) ?_
        refine g_aload_n C 1 dX2_follow_76 rfl rfl ?_
        refine g_getR (o' := 19) C 18 0 gcl2 rfl (by decide) rfl qw76 dX2_follow_77 ?_
        refine g_iload_n C 3 dX2_follow_80 rfl rfl ?_
        refine g_callvv (As := [.int p2]) (n := 1) C (c_Court_startSet l hl D cI cJ ad 19 p2 gc19) ⟨rfl, rfl⟩ gcl0 rfl qc23 (hR := ⟨Nat.le_of_ble_eq_true rfl, Nat.le_of_ble_eq_true rfl⟩) rfl rfl (Nat.le_of_ble_eq_true rfl) dX2_follow_81 ⟨Nat.zero_le _, Nat.zero_le _⟩ (fun σ9 => ?_)
        refine g_goto (tgt := 148) C dX2_follow_84 (by decide) ?_
        exact g_retv C hr dX2_follow_148
      · refine gX_if (fun h10 => ?_) (fun h10 => ?_)
        · refine g_tswIn (tgt := 87) C dX2_follow_11 (3) (by rw [h10]; decide) (by decide) (by decide) rfl (by decide) ?_
          refine g_aload_n C 1 dX2_follow_87 rfl rfl ?_
          refine g_getR (o' := 19) C 18 0 gcl2 rfl (by decide) rfl qw76 dX2_follow_88 ?_
          refine g_iload_n C 4 dX2_follow_91 rfl rfl ?_
          refine g_callvi (As := [.int p3]) (n := 1) C (c_Court_takeService l hl D cI cJ ad 19 p3 gc19) ⟨rfl, rfl⟩ gcl0 rfl qc24 (hR := ⟨Nat.le_of_ble_eq_true rfl, Nat.le_of_ble_eq_true rfl⟩) rfl rfl (Nat.le_of_ble_eq_true rfl) dX2_follow_92 ⟨Nat.zero_le _, Nat.zero_le _⟩ (fun r12 σ11 => ?_)
          refine g_pop C dX2_follow_95 rfl ?_
          refine g_goto (tgt := 148) C dX2_follow_96 (by decide) ?_
          exact g_retv C hr dX2_follow_148
        · refine gX_if (fun h13 => ?_) (fun h13 => ?_)
          · refine g_tswIn (tgt := 99) C dX2_follow_11 (4) (by rw [h13]; decide) (by decide) (by decide) rfl (by decide) ?_
            refine g_aload_n C 1 dX2_follow_99 rfl rfl ?_
            refine g_iconst (v := (1 : Int32)) C dX2_follow_100 (by decide) ?_
            refine g_iload_n C 3 dX2_follow_101 rfl rfl ?_
            refine g_isub C dX2_follow_102 ?_
            refine g_callvv (As := [.int ((1 : Int32) - p2)]) (n := 1) C (c_Reader_countLost l hl D cI cJ ad ((1 : Int32) - p2)) ⟨rfl, rfl⟩ gcl2 rfl qc25 (hR := ⟨Nat.le_of_ble_eq_true rfl, Nat.le_of_ble_eq_true rfl⟩) rfl rfl (Nat.le_of_ble_eq_true rfl) dX2_follow_103 ⟨Nat.zero_le _, Nat.zero_le _⟩ (fun σ14 => ?_)
            refine g_aload_n C 1 dX2_follow_106 rfl rfl ?_
            refine g_getR (o' := 19) C 18 0 gcl2 rfl (by decide) rfl qw76 dX2_follow_107 ?_
            refine g_iload_n C 3 dX2_follow_110 rfl rfl ?_
            refine g_callvv (As := [.int p2]) (n := 1) C (c_Court_givePoint l hl D cI cJ ad 19 p2 gc19) ⟨rfl, rfl⟩ gcl0 rfl qc26 (hR := ⟨Nat.le_of_ble_eq_true rfl, Nat.le_of_ble_eq_true rfl⟩) rfl rfl (Nat.le_of_ble_eq_true rfl) dX2_follow_111 ⟨Nat.zero_le _, Nat.zero_le _⟩ (fun σ15 => ?_)
            refine g_goto (tgt := 148) C dX2_follow_114 (by decide) ?_
            exact g_retv C hr dX2_follow_148
          · refine gX_if (fun h16 => ?_) (fun h16 => ?_)
            · refine g_tswIn (tgt := 117) C dX2_follow_11 (5) (by rw [h16]; decide) (by decide) (by decide) rfl (by decide) ?_
              refine g_aload_n C 1 dX2_follow_117 rfl rfl ?_
              refine g_getR (o' := 19) C 18 0 gcl2 rfl (by decide) rfl qw76 dX2_follow_118 ?_
              refine g_callvi (As := []) (n := 0) C (c_Court_takeBack l hl D cI cJ ad 19 gc19) ⟨rfl, rfl⟩ gcl0 rfl qc27 (hR := ⟨Nat.le_of_ble_eq_true rfl, Nat.le_of_ble_eq_true rfl⟩) rfl rfl (Nat.le_of_ble_eq_true rfl) dX2_follow_121 ⟨Nat.zero_le _, Nat.zero_le _⟩ (fun r18 σ17 => ?_)
              refine g_pop C dX2_follow_124 rfl ?_
              refine g_goto (tgt := 148) C dX2_follow_125 (by decide) ?_
              exact g_retv C hr dX2_follow_148
            · refine gX_if (fun h19 => ?_) (fun h19 => ?_)
              · refine g_tswIn (tgt := 128) C dX2_follow_11 (6) (by rw [h19]; decide) (by decide) (by decide) rfl (by decide) ?_
                refine g_aload C 0 dX2_follow_128 rfl ?_
                refine g_iload_n C 4 dX2_follow_130 rfl rfl ?_
                refine g_callvv (As := [.int p3]) (n := 1) C (c_Side_swapLibero l hl D cI cJ ad o2 p3 (gOf_side gc19 h3)) ⟨rfl, rfl⟩ gcl4 (gSd (gOf_side gc19 h3)).1 qc28 (hR := ⟨Nat.le_of_ble_eq_true rfl, Nat.le_of_ble_eq_true rfl⟩) rfl rfl (Nat.le_of_ble_eq_true rfl) dX2_follow_131 ⟨Nat.zero_le _, Nat.zero_le _⟩ (fun σ20 => ?_)
                refine g_goto (tgt := 148) C dX2_follow_134 (by decide) ?_
                exact g_retv C hr dX2_follow_148
              · refine gX_if (fun h21 => ?_) (fun h21 => ?_)
                · refine g_tswIn (tgt := 137) C dX2_follow_11 (7) (by rw [h21]; decide) (by decide) (by decide) rfl (by decide) ?_
                  refine g_aload C 0 dX2_follow_137 rfl ?_
                  refine g_iload_n C 4 dX2_follow_139 rfl rfl ?_
                  refine g_iload C 5 dX2_follow_140 rfl ?_
                  refine g_callvv (As := [.int p3, .int p4]) (n := 2) C (c_Side_swapByPair l hl D cI cJ ad o2 p3 p4 (gOf_side gc19 h3)) ⟨rfl, rfl⟩ gcl4 (gSd (gOf_side gc19 h3)).1 qc29 (hR := ⟨Nat.le_of_ble_eq_true rfl, Nat.le_of_ble_eq_true rfl⟩) rfl rfl (Nat.le_of_ble_eq_true rfl) dX2_follow_142 ⟨Nat.zero_le _, Nat.zero_le _⟩ (fun σ22 => ?_)
                  refine g_goto (tgt := 148) C dX2_follow_145 (by decide) ?_
                  exact g_retv C hr dX2_follow_148
                · refine g_tswOut (tgt := 148) C dX2_follow_11 (by have t0 := lv_neT h4 (show ((0 : Int32)).toInt = 0 by decide); have t1 := lv_neT h6 (show ((1 : Int32)).toInt = 1 by decide); have t2 := lv_neT h8 (show ((2 : Int32)).toInt = 2 by decide); have t3 := lv_neT h10 (show ((3 : Int32)).toInt = 3 by decide); have t4 := lv_neT h13 (show ((4 : Int32)).toInt = 4 by decide); have t5 := lv_neT h16 (show ((5 : Int32)).toInt = 5 by decide); have t6 := lv_neT h19 (show ((6 : Int32)).toInt = 6 by decide); have t7 := lv_neT h21 (show ((7 : Int32)).toInt = 7 by decide); omega) (by decide) ?_
                  exact g_retv C hr dX2_follow_148

def F_Reader_read_B6  : Nat → Int32 → gSt → Option gSt
  | 0, _, _ => none
  | n + 1, l2, σ => if (σ 16 1) ≤ l2 then (some σ) else (gbi (F_Sheet_signAt l2 σ) fun r3 σ2 => gbi (F_Sheet_kindOf r3 σ2) fun r5 σ4 => gbi (F_Sheet_teamOf r3 σ4) fun r7 σ6 => gbi (F_Sheet_oneOf r3 σ6) fun r9 σ8 => gbi (F_Sheet_twoOf r3 σ8) fun r11 σ10 => gbv (F_Reader_follow r5 r7 r9 r11 σ10) fun σ12 => F_Reader_read_B6 n (l2 + (1 : Int32)) σ12)

def F_Reader_read  (σ : gSt) : Option gSt := gbv (F_Reader_clear σ) fun σ1 => F_Reader_read_B6 1000 (0 : Int32) σ1

set_option maxHeartbeats 4000000 in
set_option maxRecDepth 100000 in
theorem b_Reader_read_B6 {p : Program} {l : Launch} {e : Env} {s : State} {m : MethodId} {args : Array Value} {below : List Frame} {meth : Method} {c : Code} {D : va_G} {cI cJ : ClassId} {ad : Nat → Nat} {sz : Nat} {σ' : gSt} (C : gC p s m args meth c D cI cJ ad (gA ad sz) cX2_read 4 RX2) (hr : meth.sig.returnType = none) (hl : l.stackTraces = false) : ∀ (n : Nat) (l2 : Int32) (σ : gSt), gX (F_Reader_read_B6 n l2 σ) σ' (gG p l e { frames := 6, cells := 0, slots := 0, locals := 135 } s m args below meth c D cI cJ ad (gA ad sz) 4 0 0 (MQ below (va_Qv (fun (_ : Unit) => True) (fun _ t => va_P D vwCl (gw cI cJ ad σ') t.heap) (gA ad sz)) args s 0 0 (gA ad sz)) σ 6 [(0, .ref (ad 18)), (1, .ref (ad 16)), (2, .int l2)] []) := by
  intro n
  induction n with
  | zero =>
    intro l2 σ
    unfold F_Reader_read_B6
    exact gX_none
  | succ n ih =>
    intro l2 σ
    unfold F_Reader_read_B6
    refine g_iload_n C 2 dX2_read_6 rfl rfl ?_
    refine g_aload_n C 1 dX2_read_7 rfl rfl ?_
    refine g_getIN C 16 1 gcl3 rfl (by decide) rfl qn132 dX2_read_8 ?_
    refine g_icmp_ge (tgt := 46) C dX2_read_11 (by decide) (fun h1 => ?_) (fun h1 => ?_)
    · exact g_retv C hr dX2_read_46
    · refine g_aload_n C 1 dX2_read_14 rfl rfl ?_
      refine g_iload_n C 2 dX2_read_15 rfl rfl ?_
      refine g_callvi (As := [.int l2]) (n := 1) C (c_Sheet_signAt l hl D cI cJ ad l2) ⟨rfl, rfl⟩ gcl3 rfl qc31 (hR := ⟨Nat.le_of_ble_eq_true rfl, Nat.le_of_ble_eq_true rfl⟩) rfl rfl (Nat.le_of_ble_eq_true rfl) dX2_read_16 ⟨Nat.zero_le _, Nat.zero_le _⟩ (fun r3 σ2 => ?_)
      refine g_istore_n (L' := [(3, .int r3), (0, .ref (ad 18)), (1, .ref (ad 16)), (2, .int l2)]) C dX2_read_19 rfl (by decide) rfl ?_
      refine g_aload_n C 1 dX2_read_20 rfl rfl ?_
      refine g_iload_n C 0 dX2_read_21 rfl rfl ?_
      refine g_callsi (As := [.int r3]) (n := 1) C (c_Sheet_kindOf l hl D cI cJ ad r3) ⟨rfl, rfl⟩ qc32 (hR := ⟨Nat.le_of_ble_eq_true rfl, Nat.le_of_ble_eq_true rfl⟩) rfl rfl (Nat.le_of_ble_eq_true rfl) dX2_read_22 ⟨Nat.zero_le _, Nat.zero_le _⟩ (fun r5 σ4 => ?_)
      refine g_iload_n C 0 dX2_read_25 rfl rfl ?_
      refine g_callsi (As := [.int r3]) (n := 1) C (c_Sheet_teamOf l hl D cI cJ ad r3) ⟨rfl, rfl⟩ qc33 (hR := ⟨Nat.le_of_ble_eq_true rfl, Nat.le_of_ble_eq_true rfl⟩) rfl rfl (Nat.le_of_ble_eq_true rfl) dX2_read_26 ⟨Nat.zero_le _, Nat.zero_le _⟩ (fun r7 σ6 => ?_)
      refine g_iload_n C 0 dX2_read_29 rfl rfl ?_
      refine g_callsi (As := [.int r3]) (n := 1) C (c_Sheet_oneOf l hl D cI cJ ad r3) ⟨rfl, rfl⟩ qc34 (hR := ⟨Nat.le_of_ble_eq_true rfl, Nat.le_of_ble_eq_true rfl⟩) rfl rfl (Nat.le_of_ble_eq_true rfl) dX2_read_30 ⟨Nat.zero_le _, Nat.zero_le _⟩ (fun r9 σ8 => ?_)
      refine g_iload_n C 0 dX2_read_33 rfl rfl ?_
      refine g_callsi (As := [.int r3]) (n := 1) C (c_Sheet_twoOf l hl D cI cJ ad r3) ⟨rfl, rfl⟩ qc35 (hR := ⟨Nat.le_of_ble_eq_true rfl, Nat.le_of_ble_eq_true rfl⟩) rfl rfl (Nat.le_of_ble_eq_true rfl) dX2_read_34 ⟨Nat.zero_le _, Nat.zero_le _⟩ (fun r11 σ10 => ?_)
      refine g_callvv (As := [.int r5, .int r7, .int r9, .int r11]) (n := 4) C (c_Reader_follow l hl D cI cJ ad r5 r7 r9 r11) ⟨rfl, rfl⟩ gcl2 rfl qc36 (hR := ⟨Nat.le_of_ble_eq_true rfl, Nat.le_of_ble_eq_true rfl⟩) rfl rfl (Nat.le_of_ble_eq_true rfl) dX2_read_37 ⟨Nat.zero_le _, Nat.zero_le _⟩ (fun σ12 => ?_)
      refine g_iinc (v := (l2 + (1 : Int32))) (L' := [(2, .int (l2 + (1 : Int32))), (3, .int r3), (0, .ref (ad 18)), (1, .ref (ad 16))]) C 3 dX2_read_40 rfl (by rfl) (by decide) rfl ?_
      refine g_goto (tgt := 6) C dX2_read_43 (by decide) ?_
      refine g_loc [2, 3, 0] rfl ?_
      exact ih (l2 + (1 : Int32)) σ12

set_option maxHeartbeats 4000000 in
set_option maxRecDepth 100000 in
theorem c_Reader_read (l : Launch) (hl : l.stackTraces = false) (D : va_G) (cI cJ : ClassId) (ad : Nat → Nat) : gMv l D cI cJ ad yX2_read cX2_read 4 none { frames := 6, cells := 0, slots := 0, locals := 135 } [.ref (ad 18), .ref (ad 16)] (F_Reader_read) := by
  refine gStartV (L0 := [(0, .ref (ad 18)), (1, .ref (ad 16))]) RX2 (by decide) rfl rfl (Nat.le_of_ble_eq_true rfl) ?_
  intro p e s m args below meth c sz σ σ' C hr
  unfold F_Reader_read
  refine g_aload_n C 0 dX2_read_0 rfl rfl ?_
  refine g_callvv (As := []) (n := 0) C (c_Reader_clear l hl D cI cJ ad) ⟨rfl, rfl⟩ gcl2 rfl qc30 (hR := ⟨Nat.le_of_ble_eq_true rfl, Nat.le_of_ble_eq_true rfl⟩) rfl rfl (Nat.le_of_ble_eq_true rfl) dX2_read_1 ⟨Nat.zero_le _, Nat.zero_le _⟩ (fun σ1 => ?_)
  refine g_iconst (v := (0 : Int32)) C dX2_read_4 (by decide) ?_
  refine g_istore_n (L' := [(2, .int (0 : Int32)), (0, .ref (ad 18)), (1, .ref (ad 16))]) C dX2_read_5 rfl (by decide) rfl ?_
  refine g_loc [1, 2, 0] rfl ?_
  exact b_Reader_read_B6 C hr hl 1000 (0 : Int32) σ1

def F_Sheet_write (p1 : Int32) (p2 : Int32) (p3 : Int32) (p4 : Int32) (σ : gSt) : Option gSt := if (640 : Int32) ≤ (σ 16 1) then (some σ) else (gbv (F_Game_putIn 17 (σ 16 1) ((((p1 <<< ((11 : Int32) &&& 31)) ||| (p2 <<< ((10 : Int32) &&& 31))) ||| (p3 <<< ((5 : Int32) &&& 31))) ||| p4) σ) fun σ2 => gl (gup σ2 16 1 ((σ2 16 1) + (1 : Int32))) fun σ3 => some σ3)

set_option maxHeartbeats 4000000 in
set_option maxRecDepth 100000 in
theorem c_Sheet_write (l : Launch) (hl : l.stackTraces = false) (D : va_G) (cI cJ : ClassId) (ad : Nat → Nat) (p1 : Int32) (p2 : Int32) (p3 : Int32) (p4 : Int32) : gMv l D cI cJ ad yX3_write cX3_write 5 none { frames := 1, cells := 0, slots := 0, locals := 22 } [.ref (ad 16), .int p1, .int p2, .int p3, .int p4] (F_Sheet_write p1 p2 p3 p4) := by
  refine gStartV (L0 := [(0, .ref (ad 16)), (1, .int p1), (2, .int p2), (3, .int p3), (4, .int p4)]) RX3 (by decide) rfl rfl (Nat.le_of_ble_eq_true rfl) ?_
  intro p e s m args below meth c sz σ σ' C hr
  unfold F_Sheet_write
  refine g_aload_n C 0 dX3_write_0 rfl rfl ?_
  refine g_getI C 16 1 gcl3 rfl (by decide) rfl qw158 dX3_write_1 ?_
  refine g_sipush (v := (640 : Int32)) C dX3_write_4 (by decide) ?_
  refine g_icmp_ge (tgt := 47) C dX3_write_7 (by decide) (fun h1 => ?_) (fun h1 => ?_)
  · exact g_retv C hr dX3_write_47
  · refine g_aload_n C 0 dX3_write_10 rfl rfl ?_
    refine g_getR (o' := 17) C 16 0 gcl3 rfl (by decide) rfl qw83 dX3_write_11 ?_
    refine g_aload_n C 0 dX3_write_14 rfl rfl ?_
    refine g_getI C 16 1 gcl3 rfl (by decide) rfl qw158 dX3_write_15 ?_
    refine g_iload_n C 1 dX3_write_18 rfl rfl ?_
    refine g_bipush (v := (11 : Int32)) C dX3_write_19 (by decide) ?_
    refine g_ishl C dX3_write_21 ?_
    refine g_iload_n C 2 dX3_write_22 rfl rfl ?_
    refine g_bipush (v := (10 : Int32)) C dX3_write_23 (by decide) ?_
    refine g_ishl C dX3_write_25 ?_
    refine g_ior C dX3_write_26 ?_
    refine g_iload_n C 3 dX3_write_27 rfl rfl ?_
    refine g_iconst (v := (5 : Int32)) C dX3_write_28 (by decide) ?_
    refine g_ishl C dX3_write_29 ?_
    refine g_ior C dX3_write_30 ?_
    refine g_iload C 4 dX3_write_31 rfl ?_
    refine g_ior C dX3_write_33 ?_
    refine g_callnv (As := [.ref (ad 17), .int (σ 16 1), .int ((((p1 <<< ((11 : Int32) &&& 31)) ||| (p2 <<< ((10 : Int32) &&& 31))) ||| (p3 <<< ((5 : Int32) &&& 31))) ||| p4)]) (n := 3) C (c_Game_putIn l hl D cI cJ ad 17 (σ 16 1) ((((p1 <<< ((11 : Int32) &&& 31)) ||| (p2 <<< ((10 : Int32) &&& 31))) ||| (p3 <<< ((5 : Int32) &&& 31))) ||| p4) rfl) ⟨rfl, rfl⟩ qc37 (hR := ⟨Nat.le_of_ble_eq_true rfl, Nat.le_of_ble_eq_true rfl⟩) rfl rfl (Nat.le_of_ble_eq_true rfl) dX3_write_34 ⟨Nat.zero_le _, Nat.zero_le _⟩ (fun σ2 => ?_)
    refine g_aload_n C 0 dX3_write_37 rfl rfl ?_
    refine g_dup C dX3_write_38 rfl ?_
    refine g_getI C 16 1 gcl3 rfl (by decide) rfl qw158 dX3_write_39 ?_
    refine g_iconst (v := (1 : Int32)) C dX3_write_42 (by decide) ?_
    refine g_iadd C dX3_write_43 ?_
    refine g_putI C 16 1 gcl3 gft3 rfl (by decide) rfl rfl rfl qw158 dX3_write_44 (fun σ3 => ?_)
    exact g_retv C hr dX3_write_47

def F_Sheet_cutTo (p1 : Int32) (σ : gSt) : Option gSt := gl (gup σ 16 1 p1) fun σ1 => some σ1

set_option maxHeartbeats 4000000 in
set_option maxRecDepth 100000 in
theorem c_Sheet_cutTo (l : Launch) (hl : l.stackTraces = false) (D : va_G) (cI cJ : ClassId) (ad : Nat → Nat) (p1 : Int32) : gMv l D cI cJ ad yX3_cutTo cX3_cutTo 2 none { frames := 0, cells := 0, slots := 0, locals := 0 } [.ref (ad 16), .int p1] (F_Sheet_cutTo p1) := by
  refine gStartV (L0 := [(0, .ref (ad 16)), (1, .int p1)]) RX3 (by decide) rfl rfl (Nat.le_of_ble_eq_true rfl) ?_
  intro p e s m args below meth c sz σ σ' C hr
  unfold F_Sheet_cutTo
  refine g_aload_n C 0 dX3_cutTo_0 rfl rfl ?_
  refine g_iload_n C 1 dX3_cutTo_1 rfl rfl ?_
  refine g_putI C 16 1 gcl3 gft3 rfl (by decide) rfl rfl rfl qw158 dX3_cutTo_2 (fun σ1 => ?_)
  exact g_retv C hr dX3_cutTo_5
