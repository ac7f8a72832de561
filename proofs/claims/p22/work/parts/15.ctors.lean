theorem h_if_lt_f {p : Program} {l : Launch} {e : Env} {R : Room} {s : State} {m : MethodId} {args : Array Value} {below : List Frame} {meth : Method} {c : Code} {D : va_G} {cI cJ : ClassId} {A : Nat → Prop} {cc : ByteArray} {nL : Nat} {own : String} {cells slots : Nat} {Q : State → Prop} {ws : va_W} {pc : Nat} {L : List (Nat × Value)} {st : List Value} (C : hC p s m args meth c D cI cJ A cc nL own) {x : Int32} {off : Int} {tgt : Nat} (hdg : decode cc pc = .ok (.ifCond .lt off, 3)) (ht : (pc : Int) + off = (tgt : Int)) (h : ¬ x < 0) (k : hG p l e R s m args below meth c D A nL cells slots Q ws (pc + 3) L st) : hG p l e R s m args below meth c D A nL cells slots Q ws pc L (.int x :: st) :=
  fun H locs ls hl hP hD hS => lv_if_lt C.1 C.2.1 hdg ht (fun h2 => absurd h2 h) (fun _ => k H locs ls hl hP hD hS)
def kN0 : List Value := [.null, .null, .int 0, .int 0]
theorem kF0 : ∀ j, j < gNf 0 → defaultValue (tyX0 j) = vp_V kN0 j := fun j hj => match j, hj with
  | 0, _ => rfl
  | 1, _ => rfl
  | 2, _ => rfl
  | 3, _ => rfl
  | n + 4, h => absurd (show n + 4 < 4 from h) (by omega)
def kN1 : List Value := [.int 0, .int 0, .int 0, .int 0, .int 0, .int 0, .int 0]
theorem kF1 : ∀ j, j < gNf 1 → defaultValue (tyX1 j) = vp_V kN1 j := fun j hj => match j, hj with
  | 0, _ => rfl
  | 1, _ => rfl
  | 2, _ => rfl
  | 3, _ => rfl
  | 4, _ => rfl
  | 5, _ => rfl
  | 6, _ => rfl
  | n + 7, h => absurd (show n + 7 < 7 from h) (by omega)
def kN2 : List Value := [.null, .null, .null]
theorem kF2 : ∀ j, j < gNf 2 → defaultValue (tyX2 j) = vp_V kN2 j := fun j hj => match j, hj with
  | 0, _ => rfl
  | 1, _ => rfl
  | 2, _ => rfl
  | n + 3, h => absurd (show n + 3 < 3 from h) (by omega)
def kN3 : List Value := [.null, .int 0]
theorem kF3 : ∀ j, j < gNf 3 → defaultValue (tyX3 j) = vp_V kN3 j := fun j hj => match j, hj with
  | 0, _ => rfl
  | 1, _ => rfl
  | n + 2, h => absurd (show n + 2 < 2 from h) (by omega)
def kN4 : List Value := [.null, .null, .int 0, .int 0, .int 0, .int 0, .int 0, .int 0, .int 0, .int 0]
theorem kF4 : ∀ j, j < gNf 4 → defaultValue (tyX4 j) = vp_V kN4 j := fun j hj => match j, hj with
  | 0, _ => rfl
  | 1, _ => rfl
  | 2, _ => rfl
  | 3, _ => rfl
  | 4, _ => rfl
  | 5, _ => rfl
  | 6, _ => rfl
  | 7, _ => rfl
  | 8, _ => rfl
  | 9, _ => rfl
  | n + 10, h => absurd (show n + 10 < 10 from h) (by omega)
def kN5 : List Value := [.null, .null, .null, .null, .null, .int 0, .int 0, .int 0]
theorem kF5 : ∀ j, j < gNf 5 → defaultValue (tyX5 j) = vp_V kN5 j := fun j hj => match j, hj with
  | 0, _ => rfl
  | 1, _ => rfl
  | 2, _ => rfl
  | 3, _ => rfl
  | 4, _ => rfl
  | 5, _ => rfl
  | 6, _ => rfl
  | 7, _ => rfl
  | n + 8, h => absurd (show n + 8 < 8 from h) (by omega)
theorem kArr : Cond.arrayClass .int ∈ gT := gT_in (by decide +kernel) (by decide +kernel)
theorem h_sub {p : Program} {l : Launch} {e : Env} {R : Room} {s : State} {m : MethodId} {args : Array Value} {below : List Frame} {meth : Method} {c : Code} {D : va_G} {A : Nat → Prop} {nL cells slots : Nat} {Q : State → Prop} {ws ws' : va_W} {pc : Nat} {L : List (Nat × Value)} {st : List Value} (is : List Nat) (hn : va_nd is = true) (hs : is.map (fun i => ws[i]?) = ws'.map some) (k : hG p l e R s m args below meth c D A nL cells slots Q ws' pc L st) : hG p l e R s m args below meth c D A nL cells slots Q ws pc L st :=
  fun H locs ls hl hP hD hS => k H locs ls hl (hP.sub is (by
    have h1 : (is.map (fun i => ws[i]?)).filterMap id = (ws'.map some).filterMap id := by rw [hs]
    simpa [List.filterMap_map, Function.comp_def] using h1)) (hD.sub is hn hs) hS
set_option maxHeartbeats 4000000 in
set_option maxRecDepth 100000 in
theorem k_putIn (l : Launch) (D : va_G) (cI cJ : ClassId) (a n j : Nat) (f : Nat → Int32) (i v : Int32) (h1 : ¬ i < 0) (h2 : ¬ nI n ≤ i) (hin : i.toNatClampNeg = j ∧ vp_in i n) : kM l D cI cJ yX5_putIn cX5_putIn 3 { frames := 0, cells := 0, slots := 0, locals := 0 } [.ref a, .int i, .int v] 0 0 [(a, .inl (cI, n, .inl f))] (fun w1 => w1 = [(a, .inl (cI, n, .inl (upd f j v)))]) := by
  refine hStart (L0 := [(0, .ref a), (1, .int i), (2, .int v)]) RX5 (by decide) rfl rfl (Nat.le_of_ble_eq_true rfl) ?_
  intro p e s m args below meth c C hr hin2
  refine h_iload_n C 1 dX5_putIn_0 rfl rfl ?_
  refine h_if_lt_f (tgt := 14) C dX5_putIn_1 (by decide) h1 ?_
  refine h_iload_n C 1 dX5_putIn_4 rfl rfl ?_
  refine h_aload_n C 0 dX5_putIn_5 rfl rfl ?_
  refine h_alen C 0 rfl dX5_putIn_6 ?_
  refine h_icmp_ge_f (tgt := 14) C dX5_putIn_7 (by decide) h2 ?_
  refine h_aload_n C 0 dX5_putIn_10 rfl rfl ?_
  refine h_iload_n C 1 dX5_putIn_11 rfl rfl ?_
  refine h_iload_n C 2 dX5_putIn_12 rfl rfl ?_
  refine h_iast C 0 j rfl hin dX5_putIn_13 rfl ?_
  exact h_retv (Pw := fun w1 => w1 = [(a, .inl (cI, n, .inl (upd f j v)))]) C hr rfl dX5_putIn_14
theorem kq1 : Cond.methodLink RX4 3 objectInit ∈ gT := gT_in (by decide +kernel) (by decide +kernel)
theorem kq2 : Cond.instanceMethod objectInit ∈ gT := gT_in (by decide +kernel) (by decide +kernel)
theorem kq3 : Cond.code objectInit ⟨#[0xb1]⟩ 1 none ∈ gT := gT_in (by decide +kernel) (by decide +kernel)
theorem kq4 : Cond.fieldLink RX4 9 (TX4 0).1 (TX4 0).2.1 (TX4 0).2.2.1 ∈ gT := gT_in (by decide +kernel) (by decide +kernel)
theorem kq5 : Cond.fieldLink RX4 15 (TX4 1).1 (TX4 1).2.1 (TX4 1).2.2.1 ∈ gT := gT_in (by decide +kernel) (by decide +kernel)
theorem kq6 : Cond.fieldLink RX4 18 (TX4 2).1 (TX4 2).2.1 (TX4 2).2.2.1 ∈ gT := gT_in (by decide +kernel) (by decide +kernel)
theorem kq7 : Cond.fieldLink RX4 22 (TX4 3).1 (TX4 3).2.1 (TX4 3).2.2.1 ∈ gT := gT_in (by decide +kernel) (by decide +kernel)
theorem kq8 : Cond.fieldLink RX4 25 (TX4 8).1 (TX4 8).2.1 (TX4 8).2.2.1 ∈ gT := gT_in (by decide +kernel) (by decide +kernel)
theorem kq9 : Cond.methodLink RX0 3 objectInit ∈ gT := gT_in (by decide +kernel) (by decide +kernel)
theorem kq10 : Cond.classLink RX0 9 RX4 ∈ gT := gT_in (by decide +kernel) (by decide +kernel)
theorem kq11 : Cond.instantiable RX4 10 ∈ gT := gT_in (by decide +kernel) (by decide +kernel)
theorem kq12 : Cond.initialized RX4 ∈ gT := gT_in (by decide +kernel) (by decide +kernel)
theorem kq13 : Cond.methodLink RX0 11 yX4_init ∈ gT := gT_in (by decide +kernel) (by decide +kernel)
theorem kq14 : Cond.instanceMethod yX4_init ∈ gT := gT_in (by decide +kernel) (by decide +kernel)
theorem kq15 : Cond.initialized yX4_init.cls ∈ gT := gT_in (by decide +kernel) (by decide +kernel)
theorem kq16 : Cond.code yX4_init cX4_init 2 none ∈ gT := gT_in (by decide +kernel) (by decide +kernel)
theorem kq17 : Cond.fieldLink RX0 12 (TX0 0).1 (TX0 0).2.1 (TX0 0).2.2.1 ∈ gT := gT_in (by decide +kernel) (by decide +kernel)
theorem kq18 : Cond.fieldLink RX0 18 (TX0 1).1 (TX0 1).2.1 (TX0 1).2.2.1 ∈ gT := gT_in (by decide +kernel) (by decide +kernel)
theorem kq19 : Cond.fieldLink RX0 21 (TX0 2).1 (TX0 2).2.1 (TX0 2).2.2.1 ∈ gT := gT_in (by decide +kernel) (by decide +kernel)
theorem kq20 : Cond.fieldLink RX0 25 (TX0 3).1 (TX0 3).2.1 (TX0 3).2.2.1 ∈ gT := gT_in (by decide +kernel) (by decide +kernel)
theorem kq21 : Cond.methodLink RX1 3 objectInit ∈ gT := gT_in (by decide +kernel) (by decide +kernel)
theorem kq22 : Cond.methodLink RX3 1 objectInit ∈ gT := gT_in (by decide +kernel) (by decide +kernel)
theorem kq23 : Cond.fieldLink RX3 9 (TX3 0).1 (TX3 0).2.1 (TX3 0).2.2.1 ∈ gT := gT_in (by decide +kernel) (by decide +kernel)
theorem kq24 : Cond.methodLink RX2 3 objectInit ∈ gT := gT_in (by decide +kernel) (by decide +kernel)
theorem kq25 : Cond.classLink RX2 9 RX0 ∈ gT := gT_in (by decide +kernel) (by decide +kernel)
theorem kq26 : Cond.instantiable RX0 4 ∈ gT := gT_in (by decide +kernel) (by decide +kernel)
theorem kq27 : Cond.initialized RX0 ∈ gT := gT_in (by decide +kernel) (by decide +kernel)
theorem kq28 : Cond.methodLinkNest RX2 11 yX0_init "Rotationary" ∈ gNest := by decide +kernel
theorem kq29 : Cond.instanceMethod yX0_init ∈ gT := gT_in (by decide +kernel) (by decide +kernel)
theorem kq30 : Cond.initialized yX0_init.cls ∈ gT := gT_in (by decide +kernel) (by decide +kernel)
theorem kq31 : Cond.code yX0_init cX0_init 1 none ∈ gT := gT_in (by decide +kernel) (by decide +kernel)
theorem kq32 : Cond.fieldLink RX2 12 (TX2 0).1 (TX2 0).2.1 (TX2 0).2.2.1 ∈ gT := gT_in (by decide +kernel) (by decide +kernel)
theorem kq33 : Cond.fieldLink RX2 18 (TX2 1).1 (TX2 1).2.1 (TX2 1).2.2.1 ∈ gT := gT_in (by decide +kernel) (by decide +kernel)
theorem kq34 : Cond.fieldLink RX2 22 (TX2 2).1 (TX2 2).2.1 (TX2 2).2.2.1 ∈ gT := gT_in (by decide +kernel) (by decide +kernel)
theorem kq35 : Cond.methodLink RX5 1 objectInit ∈ gT := gT_in (by decide +kernel) (by decide +kernel)
theorem kq36 : Cond.classLink RX5 7 RX0 ∈ gT := gT_in (by decide +kernel) (by decide +kernel)
theorem kq37 : Cond.methodLinkNest RX5 9 yX0_init "Rotationary" ∈ gNest := by decide +kernel
theorem kq38 : Cond.fieldLink RX5 10 (TX5 0).1 (TX5 0).2.1 (TX5 0).2.2.1 ∈ gT := gT_in (by decide +kernel) (by decide +kernel)
theorem kq39 : Cond.fieldLink RX5 16 (TX5 1).1 (TX5 1).2.1 (TX5 1).2.2.1 ∈ gT := gT_in (by decide +kernel) (by decide +kernel)
theorem kq40 : Cond.classLink RX5 19 RX1 ∈ gT := gT_in (by decide +kernel) (by decide +kernel)
theorem kq41 : Cond.instantiable RX1 7 ∈ gT := gT_in (by decide +kernel) (by decide +kernel)
theorem kq42 : Cond.initialized RX1 ∈ gT := gT_in (by decide +kernel) (by decide +kernel)
theorem kq43 : Cond.methodLinkNest RX5 21 yX1_init "Rotationary" ∈ gNest := by decide +kernel
theorem kq44 : Cond.instanceMethod yX1_init ∈ gT := gT_in (by decide +kernel) (by decide +kernel)
theorem kq45 : Cond.initialized yX1_init.cls ∈ gT := gT_in (by decide +kernel) (by decide +kernel)
theorem kq46 : Cond.code yX1_init cX1_init 1 none ∈ gT := gT_in (by decide +kernel) (by decide +kernel)
theorem kq47 : Cond.fieldLink RX5 22 (TX5 2).1 (TX5 2).2.1 (TX5 2).2.2.1 ∈ gT := gT_in (by decide +kernel) (by decide +kernel)
theorem kq48 : Cond.classLink RX5 26 RX3 ∈ gT := gT_in (by decide +kernel) (by decide +kernel)
theorem kq49 : Cond.instantiable RX3 2 ∈ gT := gT_in (by decide +kernel) (by decide +kernel)
theorem kq50 : Cond.initialized RX3 ∈ gT := gT_in (by decide +kernel) (by decide +kernel)
theorem kq51 : Cond.methodLinkNest RX5 28 yX3_init "Rotationary" ∈ gNest := by decide +kernel
theorem kq52 : Cond.instanceMethod yX3_init ∈ gT := gT_in (by decide +kernel) (by decide +kernel)
theorem kq53 : Cond.initialized yX3_init.cls ∈ gT := gT_in (by decide +kernel) (by decide +kernel)
theorem kq54 : Cond.code yX3_init cX3_init 1 none ∈ gT := gT_in (by decide +kernel) (by decide +kernel)
theorem kq55 : Cond.fieldLink RX5 29 (TX5 3).1 (TX5 3).2.1 (TX5 3).2.2.1 ∈ gT := gT_in (by decide +kernel) (by decide +kernel)
theorem kq56 : Cond.classLink RX5 33 RX2 ∈ gT := gT_in (by decide +kernel) (by decide +kernel)
theorem kq57 : Cond.instantiable RX2 3 ∈ gT := gT_in (by decide +kernel) (by decide +kernel)
theorem kq58 : Cond.initialized RX2 ∈ gT := gT_in (by decide +kernel) (by decide +kernel)
theorem kq59 : Cond.methodLinkNest RX5 35 yX2_init "Rotationary" ∈ gNest := by decide +kernel
theorem kq60 : Cond.instanceMethod yX2_init ∈ gT := gT_in (by decide +kernel) (by decide +kernel)
theorem kq61 : Cond.initialized yX2_init.cls ∈ gT := gT_in (by decide +kernel) (by decide +kernel)
theorem kq62 : Cond.code yX2_init cX2_init 1 none ∈ gT := gT_in (by decide +kernel) (by decide +kernel)
theorem kq63 : Cond.fieldLink RX5 36 (TX5 4).1 (TX5 4).2.1 (TX5 4).2.2.1 ∈ gT := gT_in (by decide +kernel) (by decide +kernel)
theorem kq64 : Cond.fieldLink RX5 40 (TX5 6).1 (TX5 6).2.1 (TX5 6).2.2.1 ∈ gT := gT_in (by decide +kernel) (by decide +kernel)
theorem kPutW : gWn RX4 28 "Rotationary" yX5_putIn cX5_putIn 3 none 3 := ⟨by decide +kernel, gT_in (by decide +kernel) (by decide +kernel), gT_in (by decide +kernel) (by decide +kernel), gT_in (by decide +kernel) (by decide +kernel), by decide +kernel⟩
theorem kc1 : gWi RX0 11 yX4_init cX4_init 2 := ⟨kq13, kq14, kq15, kq16, rfl, by decide +kernel⟩
theorem kc2 : gWin RX2 11 "Rotationary" yX0_init cX0_init 1 := ⟨kq28, kq29, kq30, kq31, rfl, by decide +kernel⟩
theorem kc3 : gWin RX5 9 "Rotationary" yX0_init cX0_init 1 := ⟨kq37, kq29, kq30, kq31, rfl, by decide +kernel⟩
theorem kc4 : gWin RX5 21 "Rotationary" yX1_init cX1_init 1 := ⟨kq43, kq44, kq45, kq46, rfl, by decide +kernel⟩
theorem kc5 : gWin RX5 28 "Rotationary" yX3_init cX3_init 1 := ⟨kq51, kq52, kq53, kq54, rfl, by decide +kernel⟩
theorem kc6 : gWin RX5 35 "Rotationary" yX2_init cX2_init 1 := ⟨kq59, kq60, kq61, kq62, rfl, by decide +kernel⟩
def kRow1 : Nat → Int32 := (upd (upd (upd (upd (upd (upd (fun _ => 0) 1 (-1 : Int32)) 2 (-1 : Int32)) 3 (-1 : Int32)) 4 (-1 : Int32)) 5 (-1 : Int32)) 6 (-1 : Int32))
set_option maxHeartbeats 4000000 in
set_option maxRecDepth 100000 in
theorem k_Side_init (l : Launch) (D : va_G) (cI cJ : ClassId) (h0 : Nat) : kM l D cI cJ yX4_init cX4_init 2 { frames := 1, cells := 2, slots := 28, locals := 22 } [.ref h0] 2 28 [(h0, .inr (4, kN4))] (fun w1 => ∃ q1 q2 : Nat, w1 = [(h0, .inr (4, [.ref q1, .ref q2, .int (-1 : Int32), .int (-1 : Int32), .int 0, .int 0, .int 0, .int 0, .int (2 : Int32), .int 0])), (q1, .inl (cI, 7, .inl kRow1)), (q2, .inl (cI, 21, .inl (fun _ => 0)))]) := by
  refine hStart (L0 := [(0, .ref h0)]) RX4 (by decide) rfl rfl (Nat.le_of_ble_eq_true rfl) ?_
  intro p e s m args below meth c C hr hin
  refine h_ws (ws' := [(h0, .inr (4, [.null, .null, .int 0, .int 0, .int 0, .int 0, .int 0, .int 0, .int 0, .int 0]))]) rfl ?_
  refine h_aload_n C 0 dX4_init_0 rfl rfl ?_
  refine h_objInit C kq1 kq2 kq3 dX4_init_1 (Nat.le_of_ble_eq_true rfl) (Nat.le_of_ble_eq_true rfl) ?_
  refine h_aload_n C 0 dX4_init_4 rfl rfl ?_
  refine h_bipush (v := (7 : Int32)) C dX4_init_5 (by decide) ?_
  refine h_newI C 7 kArr (by decide) (by decide) (Nat.le_of_ble_eq_true rfl) (Nat.le_of_ble_eq_true rfl) (Nat.le_of_ble_eq_true rfl) dX4_init_7 (fun q1 => ?_)
  refine h_ws (ws' := [(h0, .inr (4, [.null, .null, .int 0, .int 0, .int 0, .int 0, .int 0, .int 0, .int 0, .int 0])), (q1, .inl (cI, 7, .inl (fun _ => 0)))]) rfl ?_
  refine h_putF (ws' := [(h0, .inr (4, [.ref q1, .null, .int 0, .int 0, .int 0, .int 0, .int 0, .int 0, .int 0, .int 0])), (q1, .inl (cI, 7, .inl (fun _ => 0)))]) C hin 0 0 gcl4 gft4 rfl (by decide) (Nat.le_of_ble_eq_true rfl) rfl rfl rfl rfl kq4 dX4_init_9 rfl ?_
  refine h_aload_n C 0 dX4_init_12 rfl rfl ?_
  refine h_bipush (v := (21 : Int32)) C dX4_init_13 (by decide) ?_
  refine h_newI C 21 kArr (by decide) (by decide) (Nat.le_of_ble_eq_true rfl) (Nat.le_of_ble_eq_true rfl) (Nat.le_of_ble_eq_true rfl) dX4_init_15 (fun q2 => ?_)
  refine h_ws (ws' := [(h0, .inr (4, [.ref q1, .null, .int 0, .int 0, .int 0, .int 0, .int 0, .int 0, .int 0, .int 0])), (q1, .inl (cI, 7, .inl (fun _ => 0))), (q2, .inl (cI, 21, .inl (fun _ => 0)))]) rfl ?_
  refine h_putF (ws' := [(h0, .inr (4, [.ref q1, .ref q2, .int 0, .int 0, .int 0, .int 0, .int 0, .int 0, .int 0, .int 0])), (q1, .inl (cI, 7, .inl (fun _ => 0))), (q2, .inl (cI, 21, .inl (fun _ => 0)))]) C hin 0 1 gcl4 gft4 rfl (by decide) (Nat.le_of_ble_eq_true rfl) rfl rfl rfl rfl kq5 dX4_init_17 rfl ?_
  refine h_aload_n C 0 dX4_init_20 rfl rfl ?_
  refine h_iconst (v := (-1 : Int32)) C dX4_init_21 (by decide) ?_
  refine h_putI (ws' := [(h0, .inr (4, [.ref q1, .ref q2, .int (-1 : Int32), .int 0, .int 0, .int 0, .int 0, .int 0, .int 0, .int 0])), (q1, .inl (cI, 7, .inl (fun _ => 0))), (q2, .inl (cI, 21, .inl (fun _ => 0)))]) C 0 2 gcl4 gft4 rfl (by decide) (Nat.le_of_ble_eq_true rfl) rfl rfl kq6 dX4_init_22 rfl ?_
  refine h_aload_n C 0 dX4_init_25 rfl rfl ?_
  refine h_iconst (v := (-1 : Int32)) C dX4_init_26 (by decide) ?_
  refine h_putI (ws' := [(h0, .inr (4, [.ref q1, .ref q2, .int (-1 : Int32), .int (-1 : Int32), .int 0, .int 0, .int 0, .int 0, .int 0, .int 0])), (q1, .inl (cI, 7, .inl (fun _ => 0))), (q2, .inl (cI, 21, .inl (fun _ => 0)))]) C 0 3 gcl4 gft4 rfl (by decide) (Nat.le_of_ble_eq_true rfl) rfl rfl kq7 dX4_init_27 rfl ?_
  refine h_aload_n C 0 dX4_init_30 rfl rfl ?_
  refine h_iconst (v := (2 : Int32)) C dX4_init_31 (by decide) ?_
  refine h_putI (ws' := [(h0, .inr (4, [.ref q1, .ref q2, .int (-1 : Int32), .int (-1 : Int32), .int 0, .int 0, .int 0, .int 0, .int (2 : Int32), .int 0])), (q1, .inl (cI, 7, .inl (fun _ => 0))), (q2, .inl (cI, 21, .inl (fun _ => 0)))]) C 0 8 gcl4 gft4 rfl (by decide) (Nat.le_of_ble_eq_true rfl) rfl rfl kq8 dX4_init_32 rfl ?_
  refine h_iconst (v := (1 : Int32)) C dX4_init_35 (by decide) ?_
  refine h_istore_n (L' := [(1, .int (1 : Int32)), (0, .ref h0)]) C dX4_init_36 rfl (by decide) rfl ?_
  refine h_iload_n C 0 dX4_init_37 rfl rfl ?_
  refine h_bipush (v := (6 : Int32)) C dX4_init_38 (by decide) ?_
  refine h_icmp_gt_f (tgt := 58) C dX4_init_40 (by decide) (by decide) ?_
  refine h_aload_n C 1 dX4_init_43 rfl rfl ?_
  refine h_getV (v := .ref q1) C 0 0 gcl4 rfl (by decide) rfl kq4 dX4_init_44 ?_
  refine h_iload_n C 0 dX4_init_47 rfl rfl ?_
  refine h_iconst (v := (-1 : Int32)) C dX4_init_48 (by decide) ?_
  refine h_sub (ws' := [(h0, .inr (4, [.ref q1, .ref q2, .int (-1 : Int32), .int (-1 : Int32), .int 0, .int 0, .int 0, .int 0, .int (2 : Int32), .int 0])), (q2, .inl (cI, 21, .inl (fun _ => 0))), (q1, .inl (cI, 7, .inl (fun _ => 0)))]) [0, 2, 1] (by decide) rfl ?_
  refine h_callN (ws0 := [(h0, .inr (4, [.ref q1, .ref q2, .int (-1 : Int32), .int (-1 : Int32), .int 0, .int 0, .int 0, .int 0, .int (2 : Int32), .int 0])), (q2, .inl (cI, 21, .inl (fun _ => 0)))]) (As := [.ref q1, .int (1 : Int32), .int (-1 : Int32)]) (n := 3) C (k_putIn l D cI cJ q1 7 1 (fun _ => 0) (1 : Int32) (-1 : Int32) (by decide) (by decide) ⟨by decide, by unfold vp_in; decide⟩) ⟨rfl, rfl⟩ kPutW (hR := ⟨Nat.le_of_ble_eq_true rfl, Nat.le_of_ble_eq_true rfl⟩) rfl rfl (Nat.le_of_ble_eq_true rfl) dX4_init_49 ⟨Nat.le_of_ble_eq_true rfl, Nat.le_of_ble_eq_true rfl⟩ rfl (fun w1 hw1 => ?_)
  subst hw1
  refine h_ws (ws' := [(h0, .inr (4, [.ref q1, .ref q2, .int (-1 : Int32), .int (-1 : Int32), .int 0, .int 0, .int 0, .int 0, .int (2 : Int32), .int 0])), (q2, .inl (cI, 21, .inl (fun _ => 0))), (q1, .inl (cI, 7, .inl (upd (fun _ => 0) 1 (-1 : Int32))))]) rfl ?_
  refine h_iinc (v := (2 : Int32)) (L' := [(1, .int (2 : Int32)), (0, .ref h0)]) C 0 dX4_init_52 rfl (by decide) (by decide) rfl ?_
  refine h_goto (tgt := 37) C dX4_init_55 (by decide) ?_
  refine h_iload_n C 0 dX4_init_37 rfl rfl ?_
  refine h_bipush (v := (6 : Int32)) C dX4_init_38 (by decide) ?_
  refine h_icmp_gt_f (tgt := 58) C dX4_init_40 (by decide) (by decide) ?_
  refine h_aload_n C 1 dX4_init_43 rfl rfl ?_
  refine h_getV (v := .ref q1) C 0 0 gcl4 rfl (by decide) rfl kq4 dX4_init_44 ?_
  refine h_iload_n C 0 dX4_init_47 rfl rfl ?_
  refine h_iconst (v := (-1 : Int32)) C dX4_init_48 (by decide) ?_
  refine h_callN (ws0 := [(h0, .inr (4, [.ref q1, .ref q2, .int (-1 : Int32), .int (-1 : Int32), .int 0, .int 0, .int 0, .int 0, .int (2 : Int32), .int 0])), (q2, .inl (cI, 21, .inl (fun _ => 0)))]) (As := [.ref q1, .int (2 : Int32), .int (-1 : Int32)]) (n := 3) C (k_putIn l D cI cJ q1 7 2 (upd (fun _ => 0) 1 (-1 : Int32)) (2 : Int32) (-1 : Int32) (by decide) (by decide) ⟨by decide, by unfold vp_in; decide⟩) ⟨rfl, rfl⟩ kPutW (hR := ⟨Nat.le_of_ble_eq_true rfl, Nat.le_of_ble_eq_true rfl⟩) rfl rfl (Nat.le_of_ble_eq_true rfl) dX4_init_49 ⟨Nat.le_of_ble_eq_true rfl, Nat.le_of_ble_eq_true rfl⟩ rfl (fun w1 hw1 => ?_)
  subst hw1
  refine h_ws (ws' := [(h0, .inr (4, [.ref q1, .ref q2, .int (-1 : Int32), .int (-1 : Int32), .int 0, .int 0, .int 0, .int 0, .int (2 : Int32), .int 0])), (q2, .inl (cI, 21, .inl (fun _ => 0))), (q1, .inl (cI, 7, .inl (upd (upd (fun _ => 0) 1 (-1 : Int32)) 2 (-1 : Int32))))]) rfl ?_
  refine h_iinc (v := (3 : Int32)) (L' := [(1, .int (3 : Int32)), (0, .ref h0)]) C 0 dX4_init_52 rfl (by decide) (by decide) rfl ?_
  refine h_goto (tgt := 37) C dX4_init_55 (by decide) ?_
  refine h_iload_n C 0 dX4_init_37 rfl rfl ?_
  refine h_bipush (v := (6 : Int32)) C dX4_init_38 (by decide) ?_
  refine h_icmp_gt_f (tgt := 58) C dX4_init_40 (by decide) (by decide) ?_
  refine h_aload_n C 1 dX4_init_43 rfl rfl ?_
  refine h_getV (v := .ref q1) C 0 0 gcl4 rfl (by decide) rfl kq4 dX4_init_44 ?_
  refine h_iload_n C 0 dX4_init_47 rfl rfl ?_
  refine h_iconst (v := (-1 : Int32)) C dX4_init_48 (by decide) ?_
  refine h_callN (ws0 := [(h0, .inr (4, [.ref q1, .ref q2, .int (-1 : Int32), .int (-1 : Int32), .int 0, .int 0, .int 0, .int 0, .int (2 : Int32), .int 0])), (q2, .inl (cI, 21, .inl (fun _ => 0)))]) (As := [.ref q1, .int (3 : Int32), .int (-1 : Int32)]) (n := 3) C (k_putIn l D cI cJ q1 7 3 (upd (upd (fun _ => 0) 1 (-1 : Int32)) 2 (-1 : Int32)) (3 : Int32) (-1 : Int32) (by decide) (by decide) ⟨by decide, by unfold vp_in; decide⟩) ⟨rfl, rfl⟩ kPutW (hR := ⟨Nat.le_of_ble_eq_true rfl, Nat.le_of_ble_eq_true rfl⟩) rfl rfl (Nat.le_of_ble_eq_true rfl) dX4_init_49 ⟨Nat.le_of_ble_eq_true rfl, Nat.le_of_ble_eq_true rfl⟩ rfl (fun w1 hw1 => ?_)
  subst hw1
  refine h_ws (ws' := [(h0, .inr (4, [.ref q1, .ref q2, .int (-1 : Int32), .int (-1 : Int32), .int 0, .int 0, .int 0, .int 0, .int (2 : Int32), .int 0])), (q2, .inl (cI, 21, .inl (fun _ => 0))), (q1, .inl (cI, 7, .inl (upd (upd (upd (fun _ => 0) 1 (-1 : Int32)) 2 (-1 : Int32)) 3 (-1 : Int32))))]) rfl ?_
  refine h_iinc (v := (4 : Int32)) (L' := [(1, .int (4 : Int32)), (0, .ref h0)]) C 0 dX4_init_52 rfl (by decide) (by decide) rfl ?_
  refine h_goto (tgt := 37) C dX4_init_55 (by decide) ?_
  refine h_iload_n C 0 dX4_init_37 rfl rfl ?_
  refine h_bipush (v := (6 : Int32)) C dX4_init_38 (by decide) ?_
  refine h_icmp_gt_f (tgt := 58) C dX4_init_40 (by decide) (by decide) ?_
  refine h_aload_n C 1 dX4_init_43 rfl rfl ?_
  refine h_getV (v := .ref q1) C 0 0 gcl4 rfl (by decide) rfl kq4 dX4_init_44 ?_
  refine h_iload_n C 0 dX4_init_47 rfl rfl ?_
  refine h_iconst (v := (-1 : Int32)) C dX4_init_48 (by decide) ?_
  refine h_callN (ws0 := [(h0, .inr (4, [.ref q1, .ref q2, .int (-1 : Int32), .int (-1 : Int32), .int 0, .int 0, .int 0, .int 0, .int (2 : Int32), .int 0])), (q2, .inl (cI, 21, .inl (fun _ => 0)))]) (As := [.ref q1, .int (4 : Int32), .int (-1 : Int32)]) (n := 3) C (k_putIn l D cI cJ q1 7 4 (upd (upd (upd (fun _ => 0) 1 (-1 : Int32)) 2 (-1 : Int32)) 3 (-1 : Int32)) (4 : Int32) (-1 : Int32) (by decide) (by decide) ⟨by decide, by unfold vp_in; decide⟩) ⟨rfl, rfl⟩ kPutW (hR := ⟨Nat.le_of_ble_eq_true rfl, Nat.le_of_ble_eq_true rfl⟩) rfl rfl (Nat.le_of_ble_eq_true rfl) dX4_init_49 ⟨Nat.le_of_ble_eq_true rfl, Nat.le_of_ble_eq_true rfl⟩ rfl (fun w1 hw1 => ?_)
  subst hw1
  refine h_ws (ws' := [(h0, .inr (4, [.ref q1, .ref q2, .int (-1 : Int32), .int (-1 : Int32), .int 0, .int 0, .int 0, .int 0, .int (2 : Int32), .int 0])), (q2, .inl (cI, 21, .inl (fun _ => 0))), (q1, .inl (cI, 7, .inl (upd (upd (upd (upd (fun _ => 0) 1 (-1 : Int32)) 2 (-1 : Int32)) 3 (-1 : Int32)) 4 (-1 : Int32))))]) rfl ?_
  refine h_iinc (v := (5 : Int32)) (L' := [(1, .int (5 : Int32)), (0, .ref h0)]) C 0 dX4_init_52 rfl (by decide) (by decide) rfl ?_
  refine h_goto (tgt := 37) C dX4_init_55 (by decide) ?_
  refine h_iload_n C 0 dX4_init_37 rfl rfl ?_
  refine h_bipush (v := (6 : Int32)) C dX4_init_38 (by decide) ?_
  refine h_icmp_gt_f (tgt := 58) C dX4_init_40 (by decide) (by decide) ?_
  refine h_aload_n C 1 dX4_init_43 rfl rfl ?_
  refine h_getV (v := .ref q1) C 0 0 gcl4 rfl (by decide) rfl kq4 dX4_init_44 ?_
  refine h_iload_n C 0 dX4_init_47 rfl rfl ?_
  refine h_iconst (v := (-1 : Int32)) C dX4_init_48 (by decide) ?_
  refine h_callN (ws0 := [(h0, .inr (4, [.ref q1, .ref q2, .int (-1 : Int32), .int (-1 : Int32), .int 0, .int 0, .int 0, .int 0, .int (2 : Int32), .int 0])), (q2, .inl (cI, 21, .inl (fun _ => 0)))]) (As := [.ref q1, .int (5 : Int32), .int (-1 : Int32)]) (n := 3) C (k_putIn l D cI cJ q1 7 5 (upd (upd (upd (upd (fun _ => 0) 1 (-1 : Int32)) 2 (-1 : Int32)) 3 (-1 : Int32)) 4 (-1 : Int32)) (5 : Int32) (-1 : Int32) (by decide) (by decide) ⟨by decide, by unfold vp_in; decide⟩) ⟨rfl, rfl⟩ kPutW (hR := ⟨Nat.le_of_ble_eq_true rfl, Nat.le_of_ble_eq_true rfl⟩) rfl rfl (Nat.le_of_ble_eq_true rfl) dX4_init_49 ⟨Nat.le_of_ble_eq_true rfl, Nat.le_of_ble_eq_true rfl⟩ rfl (fun w1 hw1 => ?_)
  subst hw1
  refine h_ws (ws' := [(h0, .inr (4, [.ref q1, .ref q2, .int (-1 : Int32), .int (-1 : Int32), .int 0, .int 0, .int 0, .int 0, .int (2 : Int32), .int 0])), (q2, .inl (cI, 21, .inl (fun _ => 0))), (q1, .inl (cI, 7, .inl (upd (upd (upd (upd (upd (fun _ => 0) 1 (-1 : Int32)) 2 (-1 : Int32)) 3 (-1 : Int32)) 4 (-1 : Int32)) 5 (-1 : Int32))))]) rfl ?_
  refine h_iinc (v := (6 : Int32)) (L' := [(1, .int (6 : Int32)), (0, .ref h0)]) C 0 dX4_init_52 rfl (by decide) (by decide) rfl ?_
  refine h_goto (tgt := 37) C dX4_init_55 (by decide) ?_
  refine h_iload_n C 0 dX4_init_37 rfl rfl ?_
  refine h_bipush (v := (6 : Int32)) C dX4_init_38 (by decide) ?_
  refine h_icmp_gt_f (tgt := 58) C dX4_init_40 (by decide) (by decide) ?_
  refine h_aload_n C 1 dX4_init_43 rfl rfl ?_
  refine h_getV (v := .ref q1) C 0 0 gcl4 rfl (by decide) rfl kq4 dX4_init_44 ?_
  refine h_iload_n C 0 dX4_init_47 rfl rfl ?_
  refine h_iconst (v := (-1 : Int32)) C dX4_init_48 (by decide) ?_
  refine h_callN (ws0 := [(h0, .inr (4, [.ref q1, .ref q2, .int (-1 : Int32), .int (-1 : Int32), .int 0, .int 0, .int 0, .int 0, .int (2 : Int32), .int 0])), (q2, .inl (cI, 21, .inl (fun _ => 0)))]) (As := [.ref q1, .int (6 : Int32), .int (-1 : Int32)]) (n := 3) C (k_putIn l D cI cJ q1 7 6 (upd (upd (upd (upd (upd (fun _ => 0) 1 (-1 : Int32)) 2 (-1 : Int32)) 3 (-1 : Int32)) 4 (-1 : Int32)) 5 (-1 : Int32)) (6 : Int32) (-1 : Int32) (by decide) (by decide) ⟨by decide, by unfold vp_in; decide⟩) ⟨rfl, rfl⟩ kPutW (hR := ⟨Nat.le_of_ble_eq_true rfl, Nat.le_of_ble_eq_true rfl⟩) rfl rfl (Nat.le_of_ble_eq_true rfl) dX4_init_49 ⟨Nat.le_of_ble_eq_true rfl, Nat.le_of_ble_eq_true rfl⟩ rfl (fun w1 hw1 => ?_)
  subst hw1
  refine h_ws (ws' := [(h0, .inr (4, [.ref q1, .ref q2, .int (-1 : Int32), .int (-1 : Int32), .int 0, .int 0, .int 0, .int 0, .int (2 : Int32), .int 0])), (q2, .inl (cI, 21, .inl (fun _ => 0))), (q1, .inl (cI, 7, .inl (upd (upd (upd (upd (upd (upd (fun _ => 0) 1 (-1 : Int32)) 2 (-1 : Int32)) 3 (-1 : Int32)) 4 (-1 : Int32)) 5 (-1 : Int32)) 6 (-1 : Int32))))]) rfl ?_
  refine h_iinc (v := (7 : Int32)) (L' := [(1, .int (7 : Int32)), (0, .ref h0)]) C 0 dX4_init_52 rfl (by decide) (by decide) rfl ?_
  refine h_goto (tgt := 37) C dX4_init_55 (by decide) ?_
  refine h_iload_n C 0 dX4_init_37 rfl rfl ?_
  refine h_bipush (v := (6 : Int32)) C dX4_init_38 (by decide) ?_
  refine h_icmp_gt_t (tgt := 58) C dX4_init_40 (by decide) (by decide) ?_
  refine h_sub (ws' := [(h0, .inr (4, [.ref q1, .ref q2, .int (-1 : Int32), .int (-1 : Int32), .int 0, .int 0, .int 0, .int 0, .int (2 : Int32), .int 0])), (q1, .inl (cI, 7, .inl (upd (upd (upd (upd (upd (upd (fun _ => 0) 1 (-1 : Int32)) 2 (-1 : Int32)) 3 (-1 : Int32)) 4 (-1 : Int32)) 5 (-1 : Int32)) 6 (-1 : Int32)))), (q2, .inl (cI, 21, .inl (fun _ => 0)))]) [0, 2, 1] (by decide) rfl ?_
  exact h_retv (Pw := fun w1 => ∃ q1 q2 : Nat, w1 = [(h0, .inr (4, [.ref q1, .ref q2, .int (-1 : Int32), .int (-1 : Int32), .int 0, .int 0, .int 0, .int 0, .int (2 : Int32), .int 0])), (q1, .inl (cI, 7, .inl kRow1)), (q2, .inl (cI, 21, .inl (fun _ => 0)))]) C hr ⟨q1, q2, rfl⟩ dX4_init_58
set_option maxHeartbeats 4000000 in
set_option maxRecDepth 100000 in
theorem k_Court_init (l : Launch) (D : va_G) (cI cJ : ClassId) (h0 : Nat) : kM l D cI cJ yX0_init cX0_init 1 { frames := 2, cells := 6, slots := 76, locals := 43 } [.ref h0] 6 76 [(h0, .inr (0, kN0))] (fun w1 => ∃ q1 q2 q3 q4 q5 q6 : Nat, w1 = [(h0, .inr (0, [.ref q1, .ref q4, .int (-1 : Int32), .int (-1 : Int32)])), (q1, .inr (4, [.ref q2, .ref q3, .int (-1 : Int32), .int (-1 : Int32), .int 0, .int 0, .int 0, .int 0, .int (2 : Int32), .int 0])), (q2, .inl (cI, 7, .inl kRow1)), (q3, .inl (cI, 21, .inl (fun _ => 0))), (q4, .inr (4, [.ref q5, .ref q6, .int (-1 : Int32), .int (-1 : Int32), .int 0, .int 0, .int 0, .int 0, .int (2 : Int32), .int 0])), (q5, .inl (cI, 7, .inl kRow1)), (q6, .inl (cI, 21, .inl (fun _ => 0)))]) := by
  refine hStart (L0 := [(0, .ref h0)]) RX0 (by decide) rfl rfl (Nat.le_of_ble_eq_true rfl) ?_
  intro p e s m args below meth c C hr hin
  refine h_ws (ws' := [(h0, .inr (0, [.null, .null, .int 0, .int 0]))]) rfl ?_
  refine h_aload_n C 0 dX0_init_0 rfl rfl ?_
  refine h_objInit C kq9 kq2 kq3 dX0_init_1 (Nat.le_of_ble_eq_true rfl) (Nat.le_of_ble_eq_true rfl) ?_
  refine h_aload_n C 0 dX0_init_4 rfl rfl ?_
  refine h_new C gcl4 gft4 kq10 kq11 kq12 kF4 (Nat.le_of_ble_eq_true rfl) (Nat.le_of_ble_eq_true rfl) dX0_init_5 (fun q1 => ?_)
  refine h_ws (ws' := [(h0, .inr (0, [.null, .null, .int 0, .int 0])), (q1, .inr (4, [.null, .null, .int 0, .int 0, .int 0, .int 0, .int 0, .int 0, .int 0, .int 0]))]) rfl ?_
  refine h_dup C dX0_init_8 rfl ?_
  refine h_callI (ws0 := [(h0, .inr (0, [.null, .null, .int 0, .int 0]))]) C (k_Side_init l D cI cJ q1) ⟨rfl, rfl⟩ kc1 (hR := ⟨Nat.le_of_ble_eq_true rfl, Nat.le_of_ble_eq_true rfl⟩) (Nat.le_of_ble_eq_true rfl) dX0_init_9 ⟨Nat.le_of_ble_eq_true rfl, Nat.le_of_ble_eq_true rfl⟩ rfl (fun w1 hw1 => ?_)
  obtain ⟨q2, q3, rfl⟩ := hw1
  refine h_ws (ws' := [(h0, .inr (0, [.null, .null, .int 0, .int 0])), (q1, .inr (4, [.ref q2, .ref q3, .int (-1 : Int32), .int (-1 : Int32), .int 0, .int 0, .int 0, .int 0, .int (2 : Int32), .int 0])), (q2, .inl (cI, 7, .inl kRow1)), (q3, .inl (cI, 21, .inl (fun _ => 0)))]) rfl ?_
  refine h_putF (ws' := [(h0, .inr (0, [.ref q1, .null, .int 0, .int 0])), (q1, .inr (4, [.ref q2, .ref q3, .int (-1 : Int32), .int (-1 : Int32), .int 0, .int 0, .int 0, .int 0, .int (2 : Int32), .int 0])), (q2, .inl (cI, 7, .inl kRow1)), (q3, .inl (cI, 21, .inl (fun _ => 0)))]) C hin 0 0 gcl0 gft0 rfl (by decide) (Nat.le_of_ble_eq_true rfl) rfl rfl rfl rfl kq17 dX0_init_12 rfl ?_
  refine h_aload_n C 0 dX0_init_15 rfl rfl ?_
  refine h_new C gcl4 gft4 kq10 kq11 kq12 kF4 (Nat.le_of_ble_eq_true rfl) (Nat.le_of_ble_eq_true rfl) dX0_init_16 (fun q4 => ?_)
  refine h_ws (ws' := [(h0, .inr (0, [.ref q1, .null, .int 0, .int 0])), (q1, .inr (4, [.ref q2, .ref q3, .int (-1 : Int32), .int (-1 : Int32), .int 0, .int 0, .int 0, .int 0, .int (2 : Int32), .int 0])), (q2, .inl (cI, 7, .inl kRow1)), (q3, .inl (cI, 21, .inl (fun _ => 0))), (q4, .inr (4, [.null, .null, .int 0, .int 0, .int 0, .int 0, .int 0, .int 0, .int 0, .int 0]))]) rfl ?_
  refine h_dup C dX0_init_19 rfl ?_
  refine h_callI (ws0 := [(h0, .inr (0, [.ref q1, .null, .int 0, .int 0])), (q1, .inr (4, [.ref q2, .ref q3, .int (-1 : Int32), .int (-1 : Int32), .int 0, .int 0, .int 0, .int 0, .int (2 : Int32), .int 0])), (q2, .inl (cI, 7, .inl kRow1)), (q3, .inl (cI, 21, .inl (fun _ => 0)))]) C (k_Side_init l D cI cJ q4) ⟨rfl, rfl⟩ kc1 (hR := ⟨Nat.le_of_ble_eq_true rfl, Nat.le_of_ble_eq_true rfl⟩) (Nat.le_of_ble_eq_true rfl) dX0_init_20 ⟨Nat.le_of_ble_eq_true rfl, Nat.le_of_ble_eq_true rfl⟩ rfl (fun w1 hw1 => ?_)
  obtain ⟨q5, q6, rfl⟩ := hw1
  refine h_ws (ws' := [(h0, .inr (0, [.ref q1, .null, .int 0, .int 0])), (q1, .inr (4, [.ref q2, .ref q3, .int (-1 : Int32), .int (-1 : Int32), .int 0, .int 0, .int 0, .int 0, .int (2 : Int32), .int 0])), (q2, .inl (cI, 7, .inl kRow1)), (q3, .inl (cI, 21, .inl (fun _ => 0))), (q4, .inr (4, [.ref q5, .ref q6, .int (-1 : Int32), .int (-1 : Int32), .int 0, .int 0, .int 0, .int 0, .int (2 : Int32), .int 0])), (q5, .inl (cI, 7, .inl kRow1)), (q6, .inl (cI, 21, .inl (fun _ => 0)))]) rfl ?_
  refine h_putF (ws' := [(h0, .inr (0, [.ref q1, .ref q4, .int 0, .int 0])), (q1, .inr (4, [.ref q2, .ref q3, .int (-1 : Int32), .int (-1 : Int32), .int 0, .int 0, .int 0, .int 0, .int (2 : Int32), .int 0])), (q2, .inl (cI, 7, .inl kRow1)), (q3, .inl (cI, 21, .inl (fun _ => 0))), (q4, .inr (4, [.ref q5, .ref q6, .int (-1 : Int32), .int (-1 : Int32), .int 0, .int 0, .int 0, .int 0, .int (2 : Int32), .int 0])), (q5, .inl (cI, 7, .inl kRow1)), (q6, .inl (cI, 21, .inl (fun _ => 0)))]) C hin 0 1 gcl0 gft0 rfl (by decide) (Nat.le_of_ble_eq_true rfl) rfl rfl rfl rfl kq18 dX0_init_23 rfl ?_
  refine h_aload_n C 0 dX0_init_26 rfl rfl ?_
  refine h_iconst (v := (-1 : Int32)) C dX0_init_27 (by decide) ?_
  refine h_putI (ws' := [(h0, .inr (0, [.ref q1, .ref q4, .int (-1 : Int32), .int 0])), (q1, .inr (4, [.ref q2, .ref q3, .int (-1 : Int32), .int (-1 : Int32), .int 0, .int 0, .int 0, .int 0, .int (2 : Int32), .int 0])), (q2, .inl (cI, 7, .inl kRow1)), (q3, .inl (cI, 21, .inl (fun _ => 0))), (q4, .inr (4, [.ref q5, .ref q6, .int (-1 : Int32), .int (-1 : Int32), .int 0, .int 0, .int 0, .int 0, .int (2 : Int32), .int 0])), (q5, .inl (cI, 7, .inl kRow1)), (q6, .inl (cI, 21, .inl (fun _ => 0)))]) C 0 2 gcl0 gft0 rfl (by decide) (Nat.le_of_ble_eq_true rfl) rfl rfl kq19 dX0_init_28 rfl ?_
  refine h_aload_n C 0 dX0_init_31 rfl rfl ?_
  refine h_iconst (v := (-1 : Int32)) C dX0_init_32 (by decide) ?_
  refine h_putI (ws' := [(h0, .inr (0, [.ref q1, .ref q4, .int (-1 : Int32), .int (-1 : Int32)])), (q1, .inr (4, [.ref q2, .ref q3, .int (-1 : Int32), .int (-1 : Int32), .int 0, .int 0, .int 0, .int 0, .int (2 : Int32), .int 0])), (q2, .inl (cI, 7, .inl kRow1)), (q3, .inl (cI, 21, .inl (fun _ => 0))), (q4, .inr (4, [.ref q5, .ref q6, .int (-1 : Int32), .int (-1 : Int32), .int 0, .int 0, .int 0, .int 0, .int (2 : Int32), .int 0])), (q5, .inl (cI, 7, .inl kRow1)), (q6, .inl (cI, 21, .inl (fun _ => 0)))]) C 0 3 gcl0 gft0 rfl (by decide) (Nat.le_of_ble_eq_true rfl) rfl rfl kq20 dX0_init_33 rfl ?_
  exact h_retv (Pw := fun w1 => ∃ q1 q2 q3 q4 q5 q6 : Nat, w1 = [(h0, .inr (0, [.ref q1, .ref q4, .int (-1 : Int32), .int (-1 : Int32)])), (q1, .inr (4, [.ref q2, .ref q3, .int (-1 : Int32), .int (-1 : Int32), .int 0, .int 0, .int 0, .int 0, .int (2 : Int32), .int 0])), (q2, .inl (cI, 7, .inl kRow1)), (q3, .inl (cI, 21, .inl (fun _ => 0))), (q4, .inr (4, [.ref q5, .ref q6, .int (-1 : Int32), .int (-1 : Int32), .int 0, .int 0, .int 0, .int 0, .int (2 : Int32), .int 0])), (q5, .inl (cI, 7, .inl kRow1)), (q6, .inl (cI, 21, .inl (fun _ => 0)))]) C hr ⟨q1, q2, q3, q4, q5, q6, rfl⟩ dX0_init_36
set_option maxHeartbeats 4000000 in
set_option maxRecDepth 100000 in
theorem k_Rally_init (l : Launch) (D : va_G) (cI cJ : ClassId) (h0 : Nat) : kM l D cI cJ yX1_init cX1_init 1 { frames := 1, cells := 0, slots := 0, locals := 12 } [.ref h0] 0 0 [(h0, .inr (1, kN1))] (fun w1 => w1 = [(h0, .inr (1, [.int 0, .int 0, .int 0, .int 0, .int 0, .int 0, .int 0]))]) := by
  refine hStart (L0 := [(0, .ref h0)]) RX1 (by decide) rfl rfl (Nat.le_of_ble_eq_true rfl) ?_
  intro p e s m args below meth c C hr hin
  refine h_ws (ws' := [(h0, .inr (1, [.int 0, .int 0, .int 0, .int 0, .int 0, .int 0, .int 0]))]) rfl ?_
  refine h_aload_n C 0 dX1_init_0 rfl rfl ?_
  refine h_objInit C kq21 kq2 kq3 dX1_init_1 (Nat.le_of_ble_eq_true rfl) (Nat.le_of_ble_eq_true rfl) ?_
  exact h_retv (Pw := fun w1 => w1 = [(h0, .inr (1, [.int 0, .int 0, .int 0, .int 0, .int 0, .int 0, .int 0]))]) C hr rfl dX1_init_4
set_option maxHeartbeats 4000000 in
set_option maxRecDepth 100000 in
theorem k_Sheet_init (l : Launch) (D : va_G) (cI cJ : ClassId) (h0 : Nat) : kM l D cI cJ yX3_init cX3_init 1 { frames := 1, cells := 1, slots := 640, locals := 12 } [.ref h0] 1 640 [(h0, .inr (3, kN3))] (fun w1 => ∃ q1 : Nat, w1 = [(h0, .inr (3, [.ref q1, .int 0])), (q1, .inl (cI, 640, .inl (fun _ => 0)))]) := by
  refine hStart (L0 := [(0, .ref h0)]) RX3 (by decide) rfl rfl (Nat.le_of_ble_eq_true rfl) ?_
  intro p e s m args below meth c C hr hin
  refine h_ws (ws' := [(h0, .inr (3, [.null, .int 0]))]) rfl ?_
  refine h_aload_n C 0 dX3_init_0 rfl rfl ?_
  refine h_objInit C kq22 kq2 kq3 dX3_init_1 (Nat.le_of_ble_eq_true rfl) (Nat.le_of_ble_eq_true rfl) ?_
  refine h_aload_n C 0 dX3_init_4 rfl rfl ?_
  refine h_sipush (v := (640 : Int32)) C dX3_init_5 (by decide) ?_
  refine h_newI C 640 kArr (by decide) (by decide) (Nat.le_of_ble_eq_true rfl) (Nat.le_of_ble_eq_true rfl) (Nat.le_of_ble_eq_true rfl) dX3_init_8 (fun q1 => ?_)
  refine h_ws (ws' := [(h0, .inr (3, [.null, .int 0])), (q1, .inl (cI, 640, .inl (fun _ => 0)))]) rfl ?_
  refine h_putF (ws' := [(h0, .inr (3, [.ref q1, .int 0])), (q1, .inl (cI, 640, .inl (fun _ => 0)))]) C hin 0 0 gcl3 gft3 rfl (by decide) (Nat.le_of_ble_eq_true rfl) rfl rfl rfl rfl kq23 dX3_init_10 rfl ?_
  exact h_retv (Pw := fun w1 => ∃ q1 : Nat, w1 = [(h0, .inr (3, [.ref q1, .int 0])), (q1, .inl (cI, 640, .inl (fun _ => 0)))]) C hr ⟨q1, rfl⟩ dX3_init_13
set_option maxHeartbeats 4000000 in
set_option maxRecDepth 100000 in
theorem k_Reader_init (l : Launch) (D : va_G) (cI cJ : ClassId) (h0 : Nat) : kM l D cI cJ yX2_init cX2_init 1 { frames := 3, cells := 9, slots := 92, locals := 63 } [.ref h0] 9 92 [(h0, .inr (2, kN2))] (fun w1 => ∃ q1 q2 q3 q4 q5 q6 q7 q8 q9 : Nat, w1 = [(h0, .inr (2, [.ref q1, .ref q8, .ref q9])), (q1, .inr (0, [.ref q2, .ref q5, .int (-1 : Int32), .int (-1 : Int32)])), (q2, .inr (4, [.ref q3, .ref q4, .int (-1 : Int32), .int (-1 : Int32), .int 0, .int 0, .int 0, .int 0, .int (2 : Int32), .int 0])), (q3, .inl (cI, 7, .inl kRow1)), (q4, .inl (cI, 21, .inl (fun _ => 0))), (q5, .inr (4, [.ref q6, .ref q7, .int (-1 : Int32), .int (-1 : Int32), .int 0, .int 0, .int 0, .int 0, .int (2 : Int32), .int 0])), (q6, .inl (cI, 7, .inl kRow1)), (q7, .inl (cI, 21, .inl (fun _ => 0))), (q8, .inl (cI, 6, .inl (fun _ => 0))), (q9, .inl (cI, 6, .inl (fun _ => 0)))]) := by
  refine hStart (L0 := [(0, .ref h0)]) RX2 (by decide) rfl rfl (Nat.le_of_ble_eq_true rfl) ?_
  intro p e s m args below meth c C hr hin
  refine h_ws (ws' := [(h0, .inr (2, [.null, .null, .null]))]) rfl ?_
  refine h_aload_n C 0 dX2_init_0 rfl rfl ?_
  refine h_objInit C kq24 kq2 kq3 dX2_init_1 (Nat.le_of_ble_eq_true rfl) (Nat.le_of_ble_eq_true rfl) ?_
  refine h_aload_n C 0 dX2_init_4 rfl rfl ?_
  refine h_new C gcl0 gft0 kq25 kq26 kq27 kF0 (Nat.le_of_ble_eq_true rfl) (Nat.le_of_ble_eq_true rfl) dX2_init_5 (fun q1 => ?_)
  refine h_ws (ws' := [(h0, .inr (2, [.null, .null, .null])), (q1, .inr (0, [.null, .null, .int 0, .int 0]))]) rfl ?_
  refine h_dup C dX2_init_8 rfl ?_
  refine h_callIN (ws0 := [(h0, .inr (2, [.null, .null, .null]))]) C (k_Court_init l D cI cJ q1) ⟨rfl, rfl⟩ kc2 (hR := ⟨Nat.le_of_ble_eq_true rfl, Nat.le_of_ble_eq_true rfl⟩) (Nat.le_of_ble_eq_true rfl) dX2_init_9 ⟨Nat.le_of_ble_eq_true rfl, Nat.le_of_ble_eq_true rfl⟩ rfl (fun w1 hw1 => ?_)
  obtain ⟨q2, q3, q4, q5, q6, q7, rfl⟩ := hw1
  refine h_ws (ws' := [(h0, .inr (2, [.null, .null, .null])), (q1, .inr (0, [.ref q2, .ref q5, .int (-1 : Int32), .int (-1 : Int32)])), (q2, .inr (4, [.ref q3, .ref q4, .int (-1 : Int32), .int (-1 : Int32), .int 0, .int 0, .int 0, .int 0, .int (2 : Int32), .int 0])), (q3, .inl (cI, 7, .inl kRow1)), (q4, .inl (cI, 21, .inl (fun _ => 0))), (q5, .inr (4, [.ref q6, .ref q7, .int (-1 : Int32), .int (-1 : Int32), .int 0, .int 0, .int 0, .int 0, .int (2 : Int32), .int 0])), (q6, .inl (cI, 7, .inl kRow1)), (q7, .inl (cI, 21, .inl (fun _ => 0)))]) rfl ?_
  refine h_putF (ws' := [(h0, .inr (2, [.ref q1, .null, .null])), (q1, .inr (0, [.ref q2, .ref q5, .int (-1 : Int32), .int (-1 : Int32)])), (q2, .inr (4, [.ref q3, .ref q4, .int (-1 : Int32), .int (-1 : Int32), .int 0, .int 0, .int 0, .int 0, .int (2 : Int32), .int 0])), (q3, .inl (cI, 7, .inl kRow1)), (q4, .inl (cI, 21, .inl (fun _ => 0))), (q5, .inr (4, [.ref q6, .ref q7, .int (-1 : Int32), .int (-1 : Int32), .int 0, .int 0, .int 0, .int 0, .int (2 : Int32), .int 0])), (q6, .inl (cI, 7, .inl kRow1)), (q7, .inl (cI, 21, .inl (fun _ => 0)))]) C hin 0 0 gcl2 gft2 rfl (by decide) (Nat.le_of_ble_eq_true rfl) rfl rfl rfl rfl kq32 dX2_init_12 rfl ?_
  refine h_aload_n C 0 dX2_init_15 rfl rfl ?_
  refine h_bipush (v := (6 : Int32)) C dX2_init_16 (by decide) ?_
  refine h_newI C 6 kArr (by decide) (by decide) (Nat.le_of_ble_eq_true rfl) (Nat.le_of_ble_eq_true rfl) (Nat.le_of_ble_eq_true rfl) dX2_init_18 (fun q8 => ?_)
  refine h_ws (ws' := [(h0, .inr (2, [.ref q1, .null, .null])), (q1, .inr (0, [.ref q2, .ref q5, .int (-1 : Int32), .int (-1 : Int32)])), (q2, .inr (4, [.ref q3, .ref q4, .int (-1 : Int32), .int (-1 : Int32), .int 0, .int 0, .int 0, .int 0, .int (2 : Int32), .int 0])), (q3, .inl (cI, 7, .inl kRow1)), (q4, .inl (cI, 21, .inl (fun _ => 0))), (q5, .inr (4, [.ref q6, .ref q7, .int (-1 : Int32), .int (-1 : Int32), .int 0, .int 0, .int 0, .int 0, .int (2 : Int32), .int 0])), (q6, .inl (cI, 7, .inl kRow1)), (q7, .inl (cI, 21, .inl (fun _ => 0))), (q8, .inl (cI, 6, .inl (fun _ => 0)))]) rfl ?_
  refine h_putF (ws' := [(h0, .inr (2, [.ref q1, .ref q8, .null])), (q1, .inr (0, [.ref q2, .ref q5, .int (-1 : Int32), .int (-1 : Int32)])), (q2, .inr (4, [.ref q3, .ref q4, .int (-1 : Int32), .int (-1 : Int32), .int 0, .int 0, .int 0, .int 0, .int (2 : Int32), .int 0])), (q3, .inl (cI, 7, .inl kRow1)), (q4, .inl (cI, 21, .inl (fun _ => 0))), (q5, .inr (4, [.ref q6, .ref q7, .int (-1 : Int32), .int (-1 : Int32), .int 0, .int 0, .int 0, .int 0, .int (2 : Int32), .int 0])), (q6, .inl (cI, 7, .inl kRow1)), (q7, .inl (cI, 21, .inl (fun _ => 0))), (q8, .inl (cI, 6, .inl (fun _ => 0)))]) C hin 0 1 gcl2 gft2 rfl (by decide) (Nat.le_of_ble_eq_true rfl) rfl rfl rfl rfl kq33 dX2_init_20 rfl ?_
  refine h_aload_n C 0 dX2_init_23 rfl rfl ?_
  refine h_bipush (v := (6 : Int32)) C dX2_init_24 (by decide) ?_
  refine h_newI C 6 kArr (by decide) (by decide) (Nat.le_of_ble_eq_true rfl) (Nat.le_of_ble_eq_true rfl) (Nat.le_of_ble_eq_true rfl) dX2_init_26 (fun q9 => ?_)
  refine h_ws (ws' := [(h0, .inr (2, [.ref q1, .ref q8, .null])), (q1, .inr (0, [.ref q2, .ref q5, .int (-1 : Int32), .int (-1 : Int32)])), (q2, .inr (4, [.ref q3, .ref q4, .int (-1 : Int32), .int (-1 : Int32), .int 0, .int 0, .int 0, .int 0, .int (2 : Int32), .int 0])), (q3, .inl (cI, 7, .inl kRow1)), (q4, .inl (cI, 21, .inl (fun _ => 0))), (q5, .inr (4, [.ref q6, .ref q7, .int (-1 : Int32), .int (-1 : Int32), .int 0, .int 0, .int 0, .int 0, .int (2 : Int32), .int 0])), (q6, .inl (cI, 7, .inl kRow1)), (q7, .inl (cI, 21, .inl (fun _ => 0))), (q8, .inl (cI, 6, .inl (fun _ => 0))), (q9, .inl (cI, 6, .inl (fun _ => 0)))]) rfl ?_
  refine h_putF (ws' := [(h0, .inr (2, [.ref q1, .ref q8, .ref q9])), (q1, .inr (0, [.ref q2, .ref q5, .int (-1 : Int32), .int (-1 : Int32)])), (q2, .inr (4, [.ref q3, .ref q4, .int (-1 : Int32), .int (-1 : Int32), .int 0, .int 0, .int 0, .int 0, .int (2 : Int32), .int 0])), (q3, .inl (cI, 7, .inl kRow1)), (q4, .inl (cI, 21, .inl (fun _ => 0))), (q5, .inr (4, [.ref q6, .ref q7, .int (-1 : Int32), .int (-1 : Int32), .int 0, .int 0, .int 0, .int 0, .int (2 : Int32), .int 0])), (q6, .inl (cI, 7, .inl kRow1)), (q7, .inl (cI, 21, .inl (fun _ => 0))), (q8, .inl (cI, 6, .inl (fun _ => 0))), (q9, .inl (cI, 6, .inl (fun _ => 0)))]) C hin 0 2 gcl2 gft2 rfl (by decide) (Nat.le_of_ble_eq_true rfl) rfl rfl rfl rfl kq34 dX2_init_28 rfl ?_
  exact h_retv (Pw := fun w1 => ∃ q1 q2 q3 q4 q5 q6 q7 q8 q9 : Nat, w1 = [(h0, .inr (2, [.ref q1, .ref q8, .ref q9])), (q1, .inr (0, [.ref q2, .ref q5, .int (-1 : Int32), .int (-1 : Int32)])), (q2, .inr (4, [.ref q3, .ref q4, .int (-1 : Int32), .int (-1 : Int32), .int 0, .int 0, .int 0, .int 0, .int (2 : Int32), .int 0])), (q3, .inl (cI, 7, .inl kRow1)), (q4, .inl (cI, 21, .inl (fun _ => 0))), (q5, .inr (4, [.ref q6, .ref q7, .int (-1 : Int32), .int (-1 : Int32), .int 0, .int 0, .int 0, .int 0, .int (2 : Int32), .int 0])), (q6, .inl (cI, 7, .inl kRow1)), (q7, .inl (cI, 21, .inl (fun _ => 0))), (q8, .inl (cI, 6, .inl (fun _ => 0))), (q9, .inl (cI, 6, .inl (fun _ => 0)))]) C hr ⟨q1, q2, q3, q4, q5, q6, q7, q8, q9, rfl⟩ dX2_init_31
set_option maxHeartbeats 4000000 in
set_option maxRecDepth 100000 in
theorem k_Game_init (l : Launch) (D : va_G) (cI cJ : ClassId) (h0 : Nat) : kM l D cI cJ yX5_init cX5_init 1 { frames := 4, cells := 27, slots := 904, locals := 83 } [.ref h0] 27 904 [(h0, .inr (5, kN5))] (fun w1 => ∃ q1 q2 q3 q4 q5 q6 q7 q8 q9 q10 q11 q12 q13 q14 q15 q16 q17 q18 q19 q20 q21 q22 q23 q24 q25 q26 q27 : Nat, w1 = [(h0, .inr (5, [.ref q1, .ref q8, .ref q15, .ref q16, .ref q18, .int 0, .int (-1 : Int32), .int 0])), (q1, .inr (0, [.ref q2, .ref q5, .int (-1 : Int32), .int (-1 : Int32)])), (q2, .inr (4, [.ref q3, .ref q4, .int (-1 : Int32), .int (-1 : Int32), .int 0, .int 0, .int 0, .int 0, .int (2 : Int32), .int 0])), (q3, .inl (cI, 7, .inl kRow1)), (q4, .inl (cI, 21, .inl (fun _ => 0))), (q5, .inr (4, [.ref q6, .ref q7, .int (-1 : Int32), .int (-1 : Int32), .int 0, .int 0, .int 0, .int 0, .int (2 : Int32), .int 0])), (q6, .inl (cI, 7, .inl kRow1)), (q7, .inl (cI, 21, .inl (fun _ => 0))), (q8, .inr (0, [.ref q9, .ref q12, .int (-1 : Int32), .int (-1 : Int32)])), (q9, .inr (4, [.ref q10, .ref q11, .int (-1 : Int32), .int (-1 : Int32), .int 0, .int 0, .int 0, .int 0, .int (2 : Int32), .int 0])), (q10, .inl (cI, 7, .inl kRow1)), (q11, .inl (cI, 21, .inl (fun _ => 0))), (q12, .inr (4, [.ref q13, .ref q14, .int (-1 : Int32), .int (-1 : Int32), .int 0, .int 0, .int 0, .int 0, .int (2 : Int32), .int 0])), (q13, .inl (cI, 7, .inl kRow1)), (q14, .inl (cI, 21, .inl (fun _ => 0))), (q15, .inr (1, [.int 0, .int 0, .int 0, .int 0, .int 0, .int 0, .int 0])), (q16, .inr (3, [.ref q17, .int 0])), (q17, .inl (cI, 640, .inl (fun _ => 0))), (q18, .inr (2, [.ref q19, .ref q26, .ref q27])), (q19, .inr (0, [.ref q20, .ref q23, .int (-1 : Int32), .int (-1 : Int32)])), (q20, .inr (4, [.ref q21, .ref q22, .int (-1 : Int32), .int (-1 : Int32), .int 0, .int 0, .int 0, .int 0, .int (2 : Int32), .int 0])), (q21, .inl (cI, 7, .inl kRow1)), (q22, .inl (cI, 21, .inl (fun _ => 0))), (q23, .inr (4, [.ref q24, .ref q25, .int (-1 : Int32), .int (-1 : Int32), .int 0, .int 0, .int 0, .int 0, .int (2 : Int32), .int 0])), (q24, .inl (cI, 7, .inl kRow1)), (q25, .inl (cI, 21, .inl (fun _ => 0))), (q26, .inl (cI, 6, .inl (fun _ => 0))), (q27, .inl (cI, 6, .inl (fun _ => 0)))]) := by
  refine hStart (L0 := [(0, .ref h0)]) RX5 (by decide) rfl rfl (Nat.le_of_ble_eq_true rfl) ?_
  intro p e s m args below meth c C hr hin
  refine h_ws (ws' := [(h0, .inr (5, [.null, .null, .null, .null, .null, .int 0, .int 0, .int 0]))]) rfl ?_
  refine h_aload_n C 0 dX5_init_0 rfl rfl ?_
  refine h_objInit C kq35 kq2 kq3 dX5_init_1 (Nat.le_of_ble_eq_true rfl) (Nat.le_of_ble_eq_true rfl) ?_
  refine h_aload_n C 0 dX5_init_4 rfl rfl ?_
  refine h_new C gcl0 gft0 kq36 kq26 kq27 kF0 (Nat.le_of_ble_eq_true rfl) (Nat.le_of_ble_eq_true rfl) dX5_init_5 (fun q1 => ?_)
  refine h_ws (ws' := [(h0, .inr (5, [.null, .null, .null, .null, .null, .int 0, .int 0, .int 0])), (q1, .inr (0, [.null, .null, .int 0, .int 0]))]) rfl ?_
  refine h_dup C dX5_init_8 rfl ?_
  refine h_callIN (ws0 := [(h0, .inr (5, [.null, .null, .null, .null, .null, .int 0, .int 0, .int 0]))]) C (k_Court_init l D cI cJ q1) ⟨rfl, rfl⟩ kc3 (hR := ⟨Nat.le_of_ble_eq_true rfl, Nat.le_of_ble_eq_true rfl⟩) (Nat.le_of_ble_eq_true rfl) dX5_init_9 ⟨Nat.le_of_ble_eq_true rfl, Nat.le_of_ble_eq_true rfl⟩ rfl (fun w1 hw1 => ?_)
  obtain ⟨q2, q3, q4, q5, q6, q7, rfl⟩ := hw1
  refine h_ws (ws' := [(h0, .inr (5, [.null, .null, .null, .null, .null, .int 0, .int 0, .int 0])), (q1, .inr (0, [.ref q2, .ref q5, .int (-1 : Int32), .int (-1 : Int32)])), (q2, .inr (4, [.ref q3, .ref q4, .int (-1 : Int32), .int (-1 : Int32), .int 0, .int 0, .int 0, .int 0, .int (2 : Int32), .int 0])), (q3, .inl (cI, 7, .inl kRow1)), (q4, .inl (cI, 21, .inl (fun _ => 0))), (q5, .inr (4, [.ref q6, .ref q7, .int (-1 : Int32), .int (-1 : Int32), .int 0, .int 0, .int 0, .int 0, .int (2 : Int32), .int 0])), (q6, .inl (cI, 7, .inl kRow1)), (q7, .inl (cI, 21, .inl (fun _ => 0)))]) rfl ?_
  refine h_putF (ws' := [(h0, .inr (5, [.ref q1, .null, .null, .null, .null, .int 0, .int 0, .int 0])), (q1, .inr (0, [.ref q2, .ref q5, .int (-1 : Int32), .int (-1 : Int32)])), (q2, .inr (4, [.ref q3, .ref q4, .int (-1 : Int32), .int (-1 : Int32), .int 0, .int 0, .int 0, .int 0, .int (2 : Int32), .int 0])), (q3, .inl (cI, 7, .inl kRow1)), (q4, .inl (cI, 21, .inl (fun _ => 0))), (q5, .inr (4, [.ref q6, .ref q7, .int (-1 : Int32), .int (-1 : Int32), .int 0, .int 0, .int 0, .int 0, .int (2 : Int32), .int 0])), (q6, .inl (cI, 7, .inl kRow1)), (q7, .inl (cI, 21, .inl (fun _ => 0)))]) C hin 0 0 gcl5 gft5 rfl (by decide) (Nat.le_of_ble_eq_true rfl) rfl rfl rfl rfl kq38 dX5_init_12 rfl ?_
  refine h_aload_n C 0 dX5_init_15 rfl rfl ?_
  refine h_new C gcl0 gft0 kq36 kq26 kq27 kF0 (Nat.le_of_ble_eq_true rfl) (Nat.le_of_ble_eq_true rfl) dX5_init_16 (fun q8 => ?_)
  refine h_ws (ws' := [(h0, .inr (5, [.ref q1, .null, .null, .null, .null, .int 0, .int 0, .int 0])), (q1, .inr (0, [.ref q2, .ref q5, .int (-1 : Int32), .int (-1 : Int32)])), (q2, .inr (4, [.ref q3, .ref q4, .int (-1 : Int32), .int (-1 : Int32), .int 0, .int 0, .int 0, .int 0, .int (2 : Int32), .int 0])), (q3, .inl (cI, 7, .inl kRow1)), (q4, .inl (cI, 21, .inl (fun _ => 0))), (q5, .inr (4, [.ref q6, .ref q7, .int (-1 : Int32), .int (-1 : Int32), .int 0, .int 0, .int 0, .int 0, .int (2 : Int32), .int 0])), (q6, .inl (cI, 7, .inl kRow1)), (q7, .inl (cI, 21, .inl (fun _ => 0))), (q8, .inr (0, [.null, .null, .int 0, .int 0]))]) rfl ?_
  refine h_dup C dX5_init_19 rfl ?_
  refine h_callIN (ws0 := [(h0, .inr (5, [.ref q1, .null, .null, .null, .null, .int 0, .int 0, .int 0])), (q1, .inr (0, [.ref q2, .ref q5, .int (-1 : Int32), .int (-1 : Int32)])), (q2, .inr (4, [.ref q3, .ref q4, .int (-1 : Int32), .int (-1 : Int32), .int 0, .int 0, .int 0, .int 0, .int (2 : Int32), .int 0])), (q3, .inl (cI, 7, .inl kRow1)), (q4, .inl (cI, 21, .inl (fun _ => 0))), (q5, .inr (4, [.ref q6, .ref q7, .int (-1 : Int32), .int (-1 : Int32), .int 0, .int 0, .int 0, .int 0, .int (2 : Int32), .int 0])), (q6, .inl (cI, 7, .inl kRow1)), (q7, .inl (cI, 21, .inl (fun _ => 0)))]) C (k_Court_init l D cI cJ q8) ⟨rfl, rfl⟩ kc3 (hR := ⟨Nat.le_of_ble_eq_true rfl, Nat.le_of_ble_eq_true rfl⟩) (Nat.le_of_ble_eq_true rfl) dX5_init_20 ⟨Nat.le_of_ble_eq_true rfl, Nat.le_of_ble_eq_true rfl⟩ rfl (fun w1 hw1 => ?_)
  obtain ⟨q9, q10, q11, q12, q13, q14, rfl⟩ := hw1
  refine h_ws (ws' := [(h0, .inr (5, [.ref q1, .null, .null, .null, .null, .int 0, .int 0, .int 0])), (q1, .inr (0, [.ref q2, .ref q5, .int (-1 : Int32), .int (-1 : Int32)])), (q2, .inr (4, [.ref q3, .ref q4, .int (-1 : Int32), .int (-1 : Int32), .int 0, .int 0, .int 0, .int 0, .int (2 : Int32), .int 0])), (q3, .inl (cI, 7, .inl kRow1)), (q4, .inl (cI, 21, .inl (fun _ => 0))), (q5, .inr (4, [.ref q6, .ref q7, .int (-1 : Int32), .int (-1 : Int32), .int 0, .int 0, .int 0, .int 0, .int (2 : Int32), .int 0])), (q6, .inl (cI, 7, .inl kRow1)), (q7, .inl (cI, 21, .inl (fun _ => 0))), (q8, .inr (0, [.ref q9, .ref q12, .int (-1 : Int32), .int (-1 : Int32)])), (q9, .inr (4, [.ref q10, .ref q11, .int (-1 : Int32), .int (-1 : Int32), .int 0, .int 0, .int 0, .int 0, .int (2 : Int32), .int 0])), (q10, .inl (cI, 7, .inl kRow1)), (q11, .inl (cI, 21, .inl (fun _ => 0))), (q12, .inr (4, [.ref q13, .ref q14, .int (-1 : Int32), .int (-1 : Int32), .int 0, .int 0, .int 0, .int 0, .int (2 : Int32), .int 0])), (q13, .inl (cI, 7, .inl kRow1)), (q14, .inl (cI, 21, .inl (fun _ => 0)))]) rfl ?_
  refine h_putF (ws' := [(h0, .inr (5, [.ref q1, .ref q8, .null, .null, .null, .int 0, .int 0, .int 0])), (q1, .inr (0, [.ref q2, .ref q5, .int (-1 : Int32), .int (-1 : Int32)])), (q2, .inr (4, [.ref q3, .ref q4, .int (-1 : Int32), .int (-1 : Int32), .int 0, .int 0, .int 0, .int 0, .int (2 : Int32), .int 0])), (q3, .inl (cI, 7, .inl kRow1)), (q4, .inl (cI, 21, .inl (fun _ => 0))), (q5, .inr (4, [.ref q6, .ref q7, .int (-1 : Int32), .int (-1 : Int32), .int 0, .int 0, .int 0, .int 0, .int (2 : Int32), .int 0])), (q6, .inl (cI, 7, .inl kRow1)), (q7, .inl (cI, 21, .inl (fun _ => 0))), (q8, .inr (0, [.ref q9, .ref q12, .int (-1 : Int32), .int (-1 : Int32)])), (q9, .inr (4, [.ref q10, .ref q11, .int (-1 : Int32), .int (-1 : Int32), .int 0, .int 0, .int 0, .int 0, .int (2 : Int32), .int 0])), (q10, .inl (cI, 7, .inl kRow1)), (q11, .inl (cI, 21, .inl (fun _ => 0))), (q12, .inr (4, [.ref q13, .ref q14, .int (-1 : Int32), .int (-1 : Int32), .int 0, .int 0, .int 0, .int 0, .int (2 : Int32), .int 0])), (q13, .inl (cI, 7, .inl kRow1)), (q14, .inl (cI, 21, .inl (fun _ => 0)))]) C hin 0 1 gcl5 gft5 rfl (by decide) (Nat.le_of_ble_eq_true rfl) rfl rfl rfl rfl kq39 dX5_init_23 rfl ?_
  refine h_aload_n C 0 dX5_init_26 rfl rfl ?_
  refine h_new C gcl1 gft1 kq40 kq41 kq42 kF1 (Nat.le_of_ble_eq_true rfl) (Nat.le_of_ble_eq_true rfl) dX5_init_27 (fun q15 => ?_)
  refine h_ws (ws' := [(h0, .inr (5, [.ref q1, .ref q8, .null, .null, .null, .int 0, .int 0, .int 0])), (q1, .inr (0, [.ref q2, .ref q5, .int (-1 : Int32), .int (-1 : Int32)])), (q2, .inr (4, [.ref q3, .ref q4, .int (-1 : Int32), .int (-1 : Int32), .int 0, .int 0, .int 0, .int 0, .int (2 : Int32), .int 0])), (q3, .inl (cI, 7, .inl kRow1)), (q4, .inl (cI, 21, .inl (fun _ => 0))), (q5, .inr (4, [.ref q6, .ref q7, .int (-1 : Int32), .int (-1 : Int32), .int 0, .int 0, .int 0, .int 0, .int (2 : Int32), .int 0])), (q6, .inl (cI, 7, .inl kRow1)), (q7, .inl (cI, 21, .inl (fun _ => 0))), (q8, .inr (0, [.ref q9, .ref q12, .int (-1 : Int32), .int (-1 : Int32)])), (q9, .inr (4, [.ref q10, .ref q11, .int (-1 : Int32), .int (-1 : Int32), .int 0, .int 0, .int 0, .int 0, .int (2 : Int32), .int 0])), (q10, .inl (cI, 7, .inl kRow1)), (q11, .inl (cI, 21, .inl (fun _ => 0))), (q12, .inr (4, [.ref q13, .ref q14, .int (-1 : Int32), .int (-1 : Int32), .int 0, .int 0, .int 0, .int 0, .int (2 : Int32), .int 0])), (q13, .inl (cI, 7, .inl kRow1)), (q14, .inl (cI, 21, .inl (fun _ => 0))), (q15, .inr (1, [.int 0, .int 0, .int 0, .int 0, .int 0, .int 0, .int 0]))]) rfl ?_
  refine h_dup C dX5_init_30 rfl ?_
  refine h_callIN (ws0 := [(h0, .inr (5, [.ref q1, .ref q8, .null, .null, .null, .int 0, .int 0, .int 0])), (q1, .inr (0, [.ref q2, .ref q5, .int (-1 : Int32), .int (-1 : Int32)])), (q2, .inr (4, [.ref q3, .ref q4, .int (-1 : Int32), .int (-1 : Int32), .int 0, .int 0, .int 0, .int 0, .int (2 : Int32), .int 0])), (q3, .inl (cI, 7, .inl kRow1)), (q4, .inl (cI, 21, .inl (fun _ => 0))), (q5, .inr (4, [.ref q6, .ref q7, .int (-1 : Int32), .int (-1 : Int32), .int 0, .int 0, .int 0, .int 0, .int (2 : Int32), .int 0])), (q6, .inl (cI, 7, .inl kRow1)), (q7, .inl (cI, 21, .inl (fun _ => 0))), (q8, .inr (0, [.ref q9, .ref q12, .int (-1 : Int32), .int (-1 : Int32)])), (q9, .inr (4, [.ref q10, .ref q11, .int (-1 : Int32), .int (-1 : Int32), .int 0, .int 0, .int 0, .int 0, .int (2 : Int32), .int 0])), (q10, .inl (cI, 7, .inl kRow1)), (q11, .inl (cI, 21, .inl (fun _ => 0))), (q12, .inr (4, [.ref q13, .ref q14, .int (-1 : Int32), .int (-1 : Int32), .int 0, .int 0, .int 0, .int 0, .int (2 : Int32), .int 0])), (q13, .inl (cI, 7, .inl kRow1)), (q14, .inl (cI, 21, .inl (fun _ => 0)))]) C (k_Rally_init l D cI cJ q15) ⟨rfl, rfl⟩ kc4 (hR := ⟨Nat.le_of_ble_eq_true rfl, Nat.le_of_ble_eq_true rfl⟩) (Nat.le_of_ble_eq_true rfl) dX5_init_31 ⟨Nat.le_of_ble_eq_true rfl, Nat.le_of_ble_eq_true rfl⟩ rfl (fun w1 hw1 => ?_)
  obtain rfl := hw1
  refine h_ws (ws' := [(h0, .inr (5, [.ref q1, .ref q8, .null, .null, .null, .int 0, .int 0, .int 0])), (q1, .inr (0, [.ref q2, .ref q5, .int (-1 : Int32), .int (-1 : Int32)])), (q2, .inr (4, [.ref q3, .ref q4, .int (-1 : Int32), .int (-1 : Int32), .int 0, .int 0, .int 0, .int 0, .int (2 : Int32), .int 0])), (q3, .inl (cI, 7, .inl kRow1)), (q4, .inl (cI, 21, .inl (fun _ => 0))), (q5, .inr (4, [.ref q6, .ref q7, .int (-1 : Int32), .int (-1 : Int32), .int 0, .int 0, .int 0, .int 0, .int (2 : Int32), .int 0])), (q6, .inl (cI, 7, .inl kRow1)), (q7, .inl (cI, 21, .inl (fun _ => 0))), (q8, .inr (0, [.ref q9, .ref q12, .int (-1 : Int32), .int (-1 : Int32)])), (q9, .inr (4, [.ref q10, .ref q11, .int (-1 : Int32), .int (-1 : Int32), .int 0, .int 0, .int 0, .int 0, .int (2 : Int32), .int 0])), (q10, .inl (cI, 7, .inl kRow1)), (q11, .inl (cI, 21, .inl (fun _ => 0))), (q12, .inr (4, [.ref q13, .ref q14, .int (-1 : Int32), .int (-1 : Int32), .int 0, .int 0, .int 0, .int 0, .int (2 : Int32), .int 0])), (q13, .inl (cI, 7, .inl kRow1)), (q14, .inl (cI, 21, .inl (fun _ => 0))), (q15, .inr (1, [.int 0, .int 0, .int 0, .int 0, .int 0, .int 0, .int 0]))]) rfl ?_
  refine h_putF (ws' := [(h0, .inr (5, [.ref q1, .ref q8, .ref q15, .null, .null, .int 0, .int 0, .int 0])), (q1, .inr (0, [.ref q2, .ref q5, .int (-1 : Int32), .int (-1 : Int32)])), (q2, .inr (4, [.ref q3, .ref q4, .int (-1 : Int32), .int (-1 : Int32), .int 0, .int 0, .int 0, .int 0, .int (2 : Int32), .int 0])), (q3, .inl (cI, 7, .inl kRow1)), (q4, .inl (cI, 21, .inl (fun _ => 0))), (q5, .inr (4, [.ref q6, .ref q7, .int (-1 : Int32), .int (-1 : Int32), .int 0, .int 0, .int 0, .int 0, .int (2 : Int32), .int 0])), (q6, .inl (cI, 7, .inl kRow1)), (q7, .inl (cI, 21, .inl (fun _ => 0))), (q8, .inr (0, [.ref q9, .ref q12, .int (-1 : Int32), .int (-1 : Int32)])), (q9, .inr (4, [.ref q10, .ref q11, .int (-1 : Int32), .int (-1 : Int32), .int 0, .int 0, .int 0, .int 0, .int (2 : Int32), .int 0])), (q10, .inl (cI, 7, .inl kRow1)), (q11, .inl (cI, 21, .inl (fun _ => 0))), (q12, .inr (4, [.ref q13, .ref q14, .int (-1 : Int32), .int (-1 : Int32), .int 0, .int 0, .int 0, .int 0, .int (2 : Int32), .int 0])), (q13, .inl (cI, 7, .inl kRow1)), (q14, .inl (cI, 21, .inl (fun _ => 0))), (q15, .inr (1, [.int 0, .int 0, .int 0, .int 0, .int 0, .int 0, .int 0]))]) C hin 0 2 gcl5 gft5 rfl (by decide) (Nat.le_of_ble_eq_true rfl) rfl rfl rfl rfl kq47 dX5_init_34 rfl ?_
  refine h_aload_n C 0 dX5_init_37 rfl rfl ?_
  refine h_new C gcl3 gft3 kq48 kq49 kq50 kF3 (Nat.le_of_ble_eq_true rfl) (Nat.le_of_ble_eq_true rfl) dX5_init_38 (fun q16 => ?_)
  refine h_ws (ws' := [(h0, .inr (5, [.ref q1, .ref q8, .ref q15, .null, .null, .int 0, .int 0, .int 0])), (q1, .inr (0, [.ref q2, .ref q5, .int (-1 : Int32), .int (-1 : Int32)])), (q2, .inr (4, [.ref q3, .ref q4, .int (-1 : Int32), .int (-1 : Int32), .int 0, .int 0, .int 0, .int 0, .int (2 : Int32), .int 0])), (q3, .inl (cI, 7, .inl kRow1)), (q4, .inl (cI, 21, .inl (fun _ => 0))), (q5, .inr (4, [.ref q6, .ref q7, .int (-1 : Int32), .int (-1 : Int32), .int 0, .int 0, .int 0, .int 0, .int (2 : Int32), .int 0])), (q6, .inl (cI, 7, .inl kRow1)), (q7, .inl (cI, 21, .inl (fun _ => 0))), (q8, .inr (0, [.ref q9, .ref q12, .int (-1 : Int32), .int (-1 : Int32)])), (q9, .inr (4, [.ref q10, .ref q11, .int (-1 : Int32), .int (-1 : Int32), .int 0, .int 0, .int 0, .int 0, .int (2 : Int32), .int 0])), (q10, .inl (cI, 7, .inl kRow1)), (q11, .inl (cI, 21, .inl (fun _ => 0))), (q12, .inr (4, [.ref q13, .ref q14, .int (-1 : Int32), .int (-1 : Int32), .int 0, .int 0, .int 0, .int 0, .int (2 : Int32), .int 0])), (q13, .inl (cI, 7, .inl kRow1)), (q14, .inl (cI, 21, .inl (fun _ => 0))), (q15, .inr (1, [.int 0, .int 0, .int 0, .int 0, .int 0, .int 0, .int 0])), (q16, .inr (3, [.null, .int 0]))]) rfl ?_
  refine h_dup C dX5_init_41 rfl ?_
  refine h_callIN (ws0 := [(h0, .inr (5, [.ref q1, .ref q8, .ref q15, .null, .null, .int 0, .int 0, .int 0])), (q1, .inr (0, [.ref q2, .ref q5, .int (-1 : Int32), .int (-1 : Int32)])), (q2, .inr (4, [.ref q3, .ref q4, .int (-1 : Int32), .int (-1 : Int32), .int 0, .int 0, .int 0, .int 0, .int (2 : Int32), .int 0])), (q3, .inl (cI, 7, .inl kRow1)), (q4, .inl (cI, 21, .inl (fun _ => 0))), (q5, .inr (4, [.ref q6, .ref q7, .int (-1 : Int32), .int (-1 : Int32), .int 0, .int 0, .int 0, .int 0, .int (2 : Int32), .int 0])), (q6, .inl (cI, 7, .inl kRow1)), (q7, .inl (cI, 21, .inl (fun _ => 0))), (q8, .inr (0, [.ref q9, .ref q12, .int (-1 : Int32), .int (-1 : Int32)])), (q9, .inr (4, [.ref q10, .ref q11, .int (-1 : Int32), .int (-1 : Int32), .int 0, .int 0, .int 0, .int 0, .int (2 : Int32), .int 0])), (q10, .inl (cI, 7, .inl kRow1)), (q11, .inl (cI, 21, .inl (fun _ => 0))), (q12, .inr (4, [.ref q13, .ref q14, .int (-1 : Int32), .int (-1 : Int32), .int 0, .int 0, .int 0, .int 0, .int (2 : Int32), .int 0])), (q13, .inl (cI, 7, .inl kRow1)), (q14, .inl (cI, 21, .inl (fun _ => 0))), (q15, .inr (1, [.int 0, .int 0, .int 0, .int 0, .int 0, .int 0, .int 0]))]) C (k_Sheet_init l D cI cJ q16) ⟨rfl, rfl⟩ kc5 (hR := ⟨Nat.le_of_ble_eq_true rfl, Nat.le_of_ble_eq_true rfl⟩) (Nat.le_of_ble_eq_true rfl) dX5_init_42 ⟨Nat.le_of_ble_eq_true rfl, Nat.le_of_ble_eq_true rfl⟩ rfl (fun w1 hw1 => ?_)
  obtain ⟨q17, rfl⟩ := hw1
  refine h_ws (ws' := [(h0, .inr (5, [.ref q1, .ref q8, .ref q15, .null, .null, .int 0, .int 0, .int 0])), (q1, .inr (0, [.ref q2, .ref q5, .int (-1 : Int32), .int (-1 : Int32)])), (q2, .inr (4, [.ref q3, .ref q4, .int (-1 : Int32), .int (-1 : Int32), .int 0, .int 0, .int 0, .int 0, .int (2 : Int32), .int 0])), (q3, .inl (cI, 7, .inl kRow1)), (q4, .inl (cI, 21, .inl (fun _ => 0))), (q5, .inr (4, [.ref q6, .ref q7, .int (-1 : Int32), .int (-1 : Int32), .int 0, .int 0, .int 0, .int 0, .int (2 : Int32), .int 0])), (q6, .inl (cI, 7, .inl kRow1)), (q7, .inl (cI, 21, .inl (fun _ => 0))), (q8, .inr (0, [.ref q9, .ref q12, .int (-1 : Int32), .int (-1 : Int32)])), (q9, .inr (4, [.ref q10, .ref q11, .int (-1 : Int32), .int (-1 : Int32), .int 0, .int 0, .int 0, .int 0, .int (2 : Int32), .int 0])), (q10, .inl (cI, 7, .inl kRow1)), (q11, .inl (cI, 21, .inl (fun _ => 0))), (q12, .inr (4, [.ref q13, .ref q14, .int (-1 : Int32), .int (-1 : Int32), .int 0, .int 0, .int 0, .int 0, .int (2 : Int32), .int 0])), (q13, .inl (cI, 7, .inl kRow1)), (q14, .inl (cI, 21, .inl (fun _ => 0))), (q15, .inr (1, [.int 0, .int 0, .int 0, .int 0, .int 0, .int 0, .int 0])), (q16, .inr (3, [.ref q17, .int 0])), (q17, .inl (cI, 640, .inl (fun _ => 0)))]) rfl ?_
  refine h_putF (ws' := [(h0, .inr (5, [.ref q1, .ref q8, .ref q15, .ref q16, .null, .int 0, .int 0, .int 0])), (q1, .inr (0, [.ref q2, .ref q5, .int (-1 : Int32), .int (-1 : Int32)])), (q2, .inr (4, [.ref q3, .ref q4, .int (-1 : Int32), .int (-1 : Int32), .int 0, .int 0, .int 0, .int 0, .int (2 : Int32), .int 0])), (q3, .inl (cI, 7, .inl kRow1)), (q4, .inl (cI, 21, .inl (fun _ => 0))), (q5, .inr (4, [.ref q6, .ref q7, .int (-1 : Int32), .int (-1 : Int32), .int 0, .int 0, .int 0, .int 0, .int (2 : Int32), .int 0])), (q6, .inl (cI, 7, .inl kRow1)), (q7, .inl (cI, 21, .inl (fun _ => 0))), (q8, .inr (0, [.ref q9, .ref q12, .int (-1 : Int32), .int (-1 : Int32)])), (q9, .inr (4, [.ref q10, .ref q11, .int (-1 : Int32), .int (-1 : Int32), .int 0, .int 0, .int 0, .int 0, .int (2 : Int32), .int 0])), (q10, .inl (cI, 7, .inl kRow1)), (q11, .inl (cI, 21, .inl (fun _ => 0))), (q12, .inr (4, [.ref q13, .ref q14, .int (-1 : Int32), .int (-1 : Int32), .int 0, .int 0, .int 0, .int 0, .int (2 : Int32), .int 0])), (q13, .inl (cI, 7, .inl kRow1)), (q14, .inl (cI, 21, .inl (fun _ => 0))), (q15, .inr (1, [.int 0, .int 0, .int 0, .int 0, .int 0, .int 0, .int 0])), (q16, .inr (3, [.ref q17, .int 0])), (q17, .inl (cI, 640, .inl (fun _ => 0)))]) C hin 0 3 gcl5 gft5 rfl (by decide) (Nat.le_of_ble_eq_true rfl) rfl rfl rfl rfl kq55 dX5_init_45 rfl ?_
  refine h_aload_n C 0 dX5_init_48 rfl rfl ?_
  refine h_new C gcl2 gft2 kq56 kq57 kq58 kF2 (Nat.le_of_ble_eq_true rfl) (Nat.le_of_ble_eq_true rfl) dX5_init_49 (fun q18 => ?_)
  refine h_ws (ws' := [(h0, .inr (5, [.ref q1, .ref q8, .ref q15, .ref q16, .null, .int 0, .int 0, .int 0])), (q1, .inr (0, [.ref q2, .ref q5, .int (-1 : Int32), .int (-1 : Int32)])), (q2, .inr (4, [.ref q3, .ref q4, .int (-1 : Int32), .int (-1 : Int32), .int 0, .int 0, .int 0, .int 0, .int (2 : Int32), .int 0])), (q3, .inl (cI, 7, .inl kRow1)), (q4, .inl (cI, 21, .inl (fun _ => 0))), (q5, .inr (4, [.ref q6, .ref q7, .int (-1 : Int32), .int (-1 : Int32), .int 0, .int 0, .int 0, .int 0, .int (2 : Int32), .int 0])), (q6, .inl (cI, 7, .inl kRow1)), (q7, .inl (cI, 21, .inl (fun _ => 0))), (q8, .inr (0, [.ref q9, .ref q12, .int (-1 : Int32), .int (-1 : Int32)])), (q9, .inr (4, [.ref q10, .ref q11, .int (-1 : Int32), .int (-1 : Int32), .int 0, .int 0, .int 0, .int 0, .int (2 : Int32), .int 0])), (q10, .inl (cI, 7, .inl kRow1)), (q11, .inl (cI, 21, .inl (fun _ => 0))), (q12, .inr (4, [.ref q13, .ref q14, .int (-1 : Int32), .int (-1 : Int32), .int 0, .int 0, .int 0, .int 0, .int (2 : Int32), .int 0])), (q13, .inl (cI, 7, .inl kRow1)), (q14, .inl (cI, 21, .inl (fun _ => 0))), (q15, .inr (1, [.int 0, .int 0, .int 0, .int 0, .int 0, .int 0, .int 0])), (q16, .inr (3, [.ref q17, .int 0])), (q17, .inl (cI, 640, .inl (fun _ => 0))), (q18, .inr (2, [.null, .null, .null]))]) rfl ?_
  refine h_dup C dX5_init_52 rfl ?_
  refine h_callIN (ws0 := [(h0, .inr (5, [.ref q1, .ref q8, .ref q15, .ref q16, .null, .int 0, .int 0, .int 0])), (q1, .inr (0, [.ref q2, .ref q5, .int (-1 : Int32), .int (-1 : Int32)])), (q2, .inr (4, [.ref q3, .ref q4, .int (-1 : Int32), .int (-1 : Int32), .int 0, .int 0, .int 0, .int 0, .int (2 : Int32), .int 0])), (q3, .inl (cI, 7, .inl kRow1)), (q4, .inl (cI, 21, .inl (fun _ => 0))), (q5, .inr (4, [.ref q6, .ref q7, .int (-1 : Int32), .int (-1 : Int32), .int 0, .int 0, .int 0, .int 0, .int (2 : Int32), .int 0])), (q6, .inl (cI, 7, .inl kRow1)), (q7, .inl (cI, 21, .inl (fun _ => 0))), (q8, .inr (0, [.ref q9, .ref q12, .int (-1 : Int32), .int (-1 : Int32)])), (q9, .inr (4, [.ref q10, .ref q11, .int (-1 : Int32), .int (-1 : Int32), .int 0, .int 0, .int 0, .int 0, .int (2 : Int32), .int 0])), (q10, .inl (cI, 7, .inl kRow1)), (q11, .inl (cI, 21, .inl (fun _ => 0))), (q12, .inr (4, [.ref q13, .ref q14, .int (-1 : Int32), .int (-1 : Int32), .int 0, .int 0, .int 0, .int 0, .int (2 : Int32), .int 0])), (q13, .inl (cI, 7, .inl kRow1)), (q14, .inl (cI, 21, .inl (fun _ => 0))), (q15, .inr (1, [.int 0, .int 0, .int 0, .int 0, .int 0, .int 0, .int 0])), (q16, .inr (3, [.ref q17, .int 0])), (q17, .inl (cI, 640, .inl (fun _ => 0)))]) C (k_Reader_init l D cI cJ q18) ⟨rfl, rfl⟩ kc6 (hR := ⟨Nat.le_of_ble_eq_true rfl, Nat.le_of_ble_eq_true rfl⟩) (Nat.le_of_ble_eq_true rfl) dX5_init_53 ⟨Nat.le_of_ble_eq_true rfl, Nat.le_of_ble_eq_true rfl⟩ rfl (fun w1 hw1 => ?_)
  obtain ⟨q19, q20, q21, q22, q23, q24, q25, q26, q27, rfl⟩ := hw1
  refine h_ws (ws' := [(h0, .inr (5, [.ref q1, .ref q8, .ref q15, .ref q16, .null, .int 0, .int 0, .int 0])), (q1, .inr (0, [.ref q2, .ref q5, .int (-1 : Int32), .int (-1 : Int32)])), (q2, .inr (4, [.ref q3, .ref q4, .int (-1 : Int32), .int (-1 : Int32), .int 0, .int 0, .int 0, .int 0, .int (2 : Int32), .int 0])), (q3, .inl (cI, 7, .inl kRow1)), (q4, .inl (cI, 21, .inl (fun _ => 0))), (q5, .inr (4, [.ref q6, .ref q7, .int (-1 : Int32), .int (-1 : Int32), .int 0, .int 0, .int 0, .int 0, .int (2 : Int32), .int 0])), (q6, .inl (cI, 7, .inl kRow1)), (q7, .inl (cI, 21, .inl (fun _ => 0))), (q8, .inr (0, [.ref q9, .ref q12, .int (-1 : Int32), .int (-1 : Int32)])), (q9, .inr (4, [.ref q10, .ref q11, .int (-1 : Int32), .int (-1 : Int32), .int 0, .int 0, .int 0, .int 0, .int (2 : Int32), .int 0])), (q10, .inl (cI, 7, .inl kRow1)), (q11, .inl (cI, 21, .inl (fun _ => 0))), (q12, .inr (4, [.ref q13, .ref q14, .int (-1 : Int32), .int (-1 : Int32), .int 0, .int 0, .int 0, .int 0, .int (2 : Int32), .int 0])), (q13, .inl (cI, 7, .inl kRow1)), (q14, .inl (cI, 21, .inl (fun _ => 0))), (q15, .inr (1, [.int 0, .int 0, .int 0, .int 0, .int 0, .int 0, .int 0])), (q16, .inr (3, [.ref q17, .int 0])), (q17, .inl (cI, 640, .inl (fun _ => 0))), (q18, .inr (2, [.ref q19, .ref q26, .ref q27])), (q19, .inr (0, [.ref q20, .ref q23, .int (-1 : Int32), .int (-1 : Int32)])), (q20, .inr (4, [.ref q21, .ref q22, .int (-1 : Int32), .int (-1 : Int32), .int 0, .int 0, .int 0, .int 0, .int (2 : Int32), .int 0])), (q21, .inl (cI, 7, .inl kRow1)), (q22, .inl (cI, 21, .inl (fun _ => 0))), (q23, .inr (4, [.ref q24, .ref q25, .int (-1 : Int32), .int (-1 : Int32), .int 0, .int 0, .int 0, .int 0, .int (2 : Int32), .int 0])), (q24, .inl (cI, 7, .inl kRow1)), (q25, .inl (cI, 21, .inl (fun _ => 0))), (q26, .inl (cI, 6, .inl (fun _ => 0))), (q27, .inl (cI, 6, .inl (fun _ => 0)))]) rfl ?_
  refine h_putF (ws' := [(h0, .inr (5, [.ref q1, .ref q8, .ref q15, .ref q16, .ref q18, .int 0, .int 0, .int 0])), (q1, .inr (0, [.ref q2, .ref q5, .int (-1 : Int32), .int (-1 : Int32)])), (q2, .inr (4, [.ref q3, .ref q4, .int (-1 : Int32), .int (-1 : Int32), .int 0, .int 0, .int 0, .int 0, .int (2 : Int32), .int 0])), (q3, .inl (cI, 7, .inl kRow1)), (q4, .inl (cI, 21, .inl (fun _ => 0))), (q5, .inr (4, [.ref q6, .ref q7, .int (-1 : Int32), .int (-1 : Int32), .int 0, .int 0, .int 0, .int 0, .int (2 : Int32), .int 0])), (q6, .inl (cI, 7, .inl kRow1)), (q7, .inl (cI, 21, .inl (fun _ => 0))), (q8, .inr (0, [.ref q9, .ref q12, .int (-1 : Int32), .int (-1 : Int32)])), (q9, .inr (4, [.ref q10, .ref q11, .int (-1 : Int32), .int (-1 : Int32), .int 0, .int 0, .int 0, .int 0, .int (2 : Int32), .int 0])), (q10, .inl (cI, 7, .inl kRow1)), (q11, .inl (cI, 21, .inl (fun _ => 0))), (q12, .inr (4, [.ref q13, .ref q14, .int (-1 : Int32), .int (-1 : Int32), .int 0, .int 0, .int 0, .int 0, .int (2 : Int32), .int 0])), (q13, .inl (cI, 7, .inl kRow1)), (q14, .inl (cI, 21, .inl (fun _ => 0))), (q15, .inr (1, [.int 0, .int 0, .int 0, .int 0, .int 0, .int 0, .int 0])), (q16, .inr (3, [.ref q17, .int 0])), (q17, .inl (cI, 640, .inl (fun _ => 0))), (q18, .inr (2, [.ref q19, .ref q26, .ref q27])), (q19, .inr (0, [.ref q20, .ref q23, .int (-1 : Int32), .int (-1 : Int32)])), (q20, .inr (4, [.ref q21, .ref q22, .int (-1 : Int32), .int (-1 : Int32), .int 0, .int 0, .int 0, .int 0, .int (2 : Int32), .int 0])), (q21, .inl (cI, 7, .inl kRow1)), (q22, .inl (cI, 21, .inl (fun _ => 0))), (q23, .inr (4, [.ref q24, .ref q25, .int (-1 : Int32), .int (-1 : Int32), .int 0, .int 0, .int 0, .int 0, .int (2 : Int32), .int 0])), (q24, .inl (cI, 7, .inl kRow1)), (q25, .inl (cI, 21, .inl (fun _ => 0))), (q26, .inl (cI, 6, .inl (fun _ => 0))), (q27, .inl (cI, 6, .inl (fun _ => 0)))]) C hin 0 4 gcl5 gft5 rfl (by decide) (Nat.le_of_ble_eq_true rfl) rfl rfl rfl rfl kq63 dX5_init_56 rfl ?_
  refine h_aload_n C 0 dX5_init_59 rfl rfl ?_
  refine h_iconst (v := (-1 : Int32)) C dX5_init_60 (by decide) ?_
  refine h_putI (ws' := [(h0, .inr (5, [.ref q1, .ref q8, .ref q15, .ref q16, .ref q18, .int 0, .int (-1 : Int32), .int 0])), (q1, .inr (0, [.ref q2, .ref q5, .int (-1 : Int32), .int (-1 : Int32)])), (q2, .inr (4, [.ref q3, .ref q4, .int (-1 : Int32), .int (-1 : Int32), .int 0, .int 0, .int 0, .int 0, .int (2 : Int32), .int 0])), (q3, .inl (cI, 7, .inl kRow1)), (q4, .inl (cI, 21, .inl (fun _ => 0))), (q5, .inr (4, [.ref q6, .ref q7, .int (-1 : Int32), .int (-1 : Int32), .int 0, .int 0, .int 0, .int 0, .int (2 : Int32), .int 0])), (q6, .inl (cI, 7, .inl kRow1)), (q7, .inl (cI, 21, .inl (fun _ => 0))), (q8, .inr (0, [.ref q9, .ref q12, .int (-1 : Int32), .int (-1 : Int32)])), (q9, .inr (4, [.ref q10, .ref q11, .int (-1 : Int32), .int (-1 : Int32), .int 0, .int 0, .int 0, .int 0, .int (2 : Int32), .int 0])), (q10, .inl (cI, 7, .inl kRow1)), (q11, .inl (cI, 21, .inl (fun _ => 0))), (q12, .inr (4, [.ref q13, .ref q14, .int (-1 : Int32), .int (-1 : Int32), .int 0, .int 0, .int 0, .int 0, .int (2 : Int32), .int 0])), (q13, .inl (cI, 7, .inl kRow1)), (q14, .inl (cI, 21, .inl (fun _ => 0))), (q15, .inr (1, [.int 0, .int 0, .int 0, .int 0, .int 0, .int 0, .int 0])), (q16, .inr (3, [.ref q17, .int 0])), (q17, .inl (cI, 640, .inl (fun _ => 0))), (q18, .inr (2, [.ref q19, .ref q26, .ref q27])), (q19, .inr (0, [.ref q20, .ref q23, .int (-1 : Int32), .int (-1 : Int32)])), (q20, .inr (4, [.ref q21, .ref q22, .int (-1 : Int32), .int (-1 : Int32), .int 0, .int 0, .int 0, .int 0, .int (2 : Int32), .int 0])), (q21, .inl (cI, 7, .inl kRow1)), (q22, .inl (cI, 21, .inl (fun _ => 0))), (q23, .inr (4, [.ref q24, .ref q25, .int (-1 : Int32), .int (-1 : Int32), .int 0, .int 0, .int 0, .int 0, .int (2 : Int32), .int 0])), (q24, .inl (cI, 7, .inl kRow1)), (q25, .inl (cI, 21, .inl (fun _ => 0))), (q26, .inl (cI, 6, .inl (fun _ => 0))), (q27, .inl (cI, 6, .inl (fun _ => 0)))]) C 0 6 gcl5 gft5 rfl (by decide) (Nat.le_of_ble_eq_true rfl) rfl rfl kq64 dX5_init_61 rfl ?_
  exact h_retv (Pw := fun w1 => ∃ q1 q2 q3 q4 q5 q6 q7 q8 q9 q10 q11 q12 q13 q14 q15 q16 q17 q18 q19 q20 q21 q22 q23 q24 q25 q26 q27 : Nat, w1 = [(h0, .inr (5, [.ref q1, .ref q8, .ref q15, .ref q16, .ref q18, .int 0, .int (-1 : Int32), .int 0])), (q1, .inr (0, [.ref q2, .ref q5, .int (-1 : Int32), .int (-1 : Int32)])), (q2, .inr (4, [.ref q3, .ref q4, .int (-1 : Int32), .int (-1 : Int32), .int 0, .int 0, .int 0, .int 0, .int (2 : Int32), .int 0])), (q3, .inl (cI, 7, .inl kRow1)), (q4, .inl (cI, 21, .inl (fun _ => 0))), (q5, .inr (4, [.ref q6, .ref q7, .int (-1 : Int32), .int (-1 : Int32), .int 0, .int 0, .int 0, .int 0, .int (2 : Int32), .int 0])), (q6, .inl (cI, 7, .inl kRow1)), (q7, .inl (cI, 21, .inl (fun _ => 0))), (q8, .inr (0, [.ref q9, .ref q12, .int (-1 : Int32), .int (-1 : Int32)])), (q9, .inr (4, [.ref q10, .ref q11, .int (-1 : Int32), .int (-1 : Int32), .int 0, .int 0, .int 0, .int 0, .int (2 : Int32), .int 0])), (q10, .inl (cI, 7, .inl kRow1)), (q11, .inl (cI, 21, .inl (fun _ => 0))), (q12, .inr (4, [.ref q13, .ref q14, .int (-1 : Int32), .int (-1 : Int32), .int 0, .int 0, .int 0, .int 0, .int (2 : Int32), .int 0])), (q13, .inl (cI, 7, .inl kRow1)), (q14, .inl (cI, 21, .inl (fun _ => 0))), (q15, .inr (1, [.int 0, .int 0, .int 0, .int 0, .int 0, .int 0, .int 0])), (q16, .inr (3, [.ref q17, .int 0])), (q17, .inl (cI, 640, .inl (fun _ => 0))), (q18, .inr (2, [.ref q19, .ref q26, .ref q27])), (q19, .inr (0, [.ref q20, .ref q23, .int (-1 : Int32), .int (-1 : Int32)])), (q20, .inr (4, [.ref q21, .ref q22, .int (-1 : Int32), .int (-1 : Int32), .int 0, .int 0, .int 0, .int 0, .int (2 : Int32), .int 0])), (q21, .inl (cI, 7, .inl kRow1)), (q22, .inl (cI, 21, .inl (fun _ => 0))), (q23, .inr (4, [.ref q24, .ref q25, .int (-1 : Int32), .int (-1 : Int32), .int 0, .int 0, .int 0, .int 0, .int (2 : Int32), .int 0])), (q24, .inl (cI, 7, .inl kRow1)), (q25, .inl (cI, 21, .inl (fun _ => 0))), (q26, .inl (cI, 6, .inl (fun _ => 0))), (q27, .inl (cI, 6, .inl (fun _ => 0)))]) C hr ⟨q1, q2, q3, q4, q5, q6, q7, q8, q9, q10, q11, q12, q13, q14, q15, q16, q17, q18, q19, q20, q21, q22, q23, q24, q25, q26, q27, rfl⟩ dX5_init_64
