/-! the start: the things are made, the world is the first one -/
def gInit : gSt := fun k => match k with
  | 1 => fun j => match j with | 2 => -1 | 3 => -1 | _ => 0
  | 8 => fun j => match j with | 2 => -1 | 3 => -1 | _ => 0
  | 19 => fun j => match j with | 2 => -1 | 3 => -1 | _ => 0
  | 2 => fun j => match j with | 2 => -1 | 3 => -1 | 8 => 2 | _ => 0
  | 5 => fun j => match j with | 2 => -1 | 3 => -1 | 8 => 2 | _ => 0
  | 9 => fun j => match j with | 2 => -1 | 3 => -1 | 8 => 2 | _ => 0
  | 12 => fun j => match j with | 2 => -1 | 3 => -1 | 8 => 2 | _ => 0
  | 20 => fun j => match j with | 2 => -1 | 3 => -1 | 8 => 2 | _ => 0
  | 23 => fun j => match j with | 2 => -1 | 3 => -1 | 8 => 2 | _ => 0
  | 3 => kRow1
  | 6 => kRow1
  | 10 => kRow1
  | 13 => kRow1
  | 21 => kRow1
  | 24 => kRow1
  | 0 => fun j => match j with | 6 => -1 | _ => 0
  | 29 => kRow2
  | _ => fun _ => 0
section S20
variable {p : Program} {l : Launch} {e : Env} {R : Room} {s : State} {m : MethodId} {args : Array Value} {below : List Frame} {meth : Method} {c : Code} {D : va_G} {cI cJ : ClassId} {A : Nat → Prop} {cc : ByteArray} {nL : Nat} {own : String} {cells slots : Nat} {Q : State → Prop} {ws ws' : va_W} {pc : Nat} {L L' : List (Nat × Value)} {st : List Value}
theorem h_astore_n (C : hC p s m args meth c D cI cJ A cc nL own) {q : Fin 4} {i : Nat} {x : Nat} (hdg : decode cc pc = .ok (.astore_n q, 1)) (hi : (q : Nat) = i) (hn : i < nL) (hl' : (i, Value.ref x) :: L.filter (fun q => !(q.1 == i) && !(q.1 + 1 == i && q.2.category == 2)) = L') (k : hG p l e R s m args below meth c D A nL cells slots Q ws (pc + 1) L' st) : hG p l e R s m args below meth c D A nL cells slots Q ws pc L (.ref x :: st) :=
  fun H locs ls hl hP hD hS => lv_astore_n C.1 C.2.1 hdg hi hl hn hl' (fun ls' hl2 => k H locs ls' hl2 hP hD hS)
theorem h_istore (C : hC p s m args meth c D cI cJ A cc nL own) {i : Nat} {x : Int32} (hdg : decode cc pc = .ok (.istore i, 2)) (hn : i < nL) (hl' : (i, Value.int x) :: L.filter (fun q => !(q.1 == i) && !(q.1 + 1 == i && q.2.category == 2)) = L') (k : hG p l e R s m args below meth c D A nL cells slots Q ws (pc + 2) L' st) : hG p l e R s m args below meth c D A nL cells slots Q ws pc L (.int x :: st) :=
  fun H locs ls hl hP hD hS => lv_istore C.1 C.2.1 hdg hl hn hl' (fun ls' hl2 => k H locs ls' hl2 hP hD hS)
theorem h_newJ (C : hC p s m args meth c D cI cJ A cc nL own) {n : Int32} (N : Nat) (harr : Cond.arrayClass .long ∈ gT) (hn : ¬ n < 0) (hN : n.toNatClampNeg = N) (hb4 : N * 8 ≤ 536870912) (hc : cells + 1 ≤ R.cells) (hs : slots + N ≤ R.slots) (hdg : decode cc pc = .ok (.newarray .long, 2)) (k : ∀ q : Nat, hG p l e R s m args below meth c D A nL (cells + 1) (slots + N) Q (ws ++ [(q, .inl (cJ, N, .inr (.inl (fun _ => (0 : Int32).toInt64))))]) (pc + 2) L (.ref q :: st)) : hG p l e R s m args below meth c D A nL cells slots Q ws pc L (.int n :: st) := by
  intro H locs ls hl hP hD hS
  refine va_newa (D := D) (atype := .long) (ty := .long) (a0 := (N, .inr (.inl (fun _ => (0 : Int32).toInt64)))) C.1 C.2.1 (C.2.2.2.2.1 _ harr) rfl C.2.2.2.2.2.1 hP hD hS C.2.2.2.2.2.2.1 (fun cA => by rw [show (0 : Int32).toInt64 = 0 by decide]; rfl) hn hN hb4 hc hs hdg (fun q cA H1 hK1 hP1 hD1 hS1 => ?_)
  have e1 : s.vm.findClass ("[" ++ (FieldType.long).toString) = some cJ := (C.2.2.2.2.2.1.2 1 (cJ, .long) rfl).2
  have e2 : s.vm.findClass ("[" ++ (FieldType.long).toString) = some cA := (hK1.2 2 (cA, .long) rfl).2
  obtain rfl : cJ = cA := Option.some.inj (e1.symm.trans e2)
  exact k q H1 locs ls hl hP1 hD1 hS1
theorem gArrI {args : Array Value} {s : State} (h : (Cond.arrayClass .int).before args s = true) : ∃ cI, ArrOfT s cI .int ∧ va_RA s cI .int := by
  obtain ⟨cA, kA, comp, h1, h2, h3⟩ := Cond.arrayClass_spec h
  exact ⟨cA, fun n z => ⟨fun k h => (by cases h), kA, h2, comp, h3⟩, h1⟩
theorem gArrJ {args : Array Value} {s : State} (h : (Cond.arrayClass .long).before args s = true) : ∃ cJ, ArrOfT s cJ .long ∧ va_RA s cJ .long := by
  obtain ⟨cA, kA, comp, h1, h2, h3⟩ := Cond.arrayClass_spec h
  exact ⟨cA, fun n z => ⟨fun k h => (by cases h), kA, h2, comp, h3⟩, h1⟩
end S20
theorem gK_start {args : Array Value} {s : State} (hts : ∀ w ∈ gT, w.before args s = true) : ∃ (D : va_G) (cI cJ : ClassId), va_K D vwCl [(cI, .int), (cJ, .long)] s := by
  obtain ⟨cI, a1, a2⟩ := gArrI (hts _ kArr)
  obtain ⟨cJ, b1, b2⟩ := gArrJ (hts _ (gT_in (by decide +kernel) (by decide +kernel)))
  obtain ⟨d0, i0, h0⟩ := u_known (n := 4) hts gin0 (hts _ (gT_in (by decide +kernel) (by decide +kernel)))
  obtain ⟨d1, i1, h1⟩ := u_known (n := 7) hts gin1 (hts _ (gT_in (by decide +kernel) (by decide +kernel)))
  obtain ⟨d2, i2, h2⟩ := u_known (n := 3) hts gin2 (hts _ (gT_in (by decide +kernel) (by decide +kernel)))
  obtain ⟨d3, i3, h3⟩ := u_known (n := 2) hts gin3 (hts _ (gT_in (by decide +kernel) (by decide +kernel)))
  obtain ⟨d4, i4, h4⟩ := u_known (n := 10) hts gin4 (hts _ (gT_in (by decide +kernel) (by decide +kernel)))
  obtain ⟨d5, i5, h5⟩ := u_known (n := 8) hts gin5 (hts _ (gT_in (by decide +kernel) (by decide +kernel)))
  obtain ⟨d6, i6, h6⟩ := u_known (n := 3) hts gin6 (hts _ (gT_in (by decide +kernel) (by decide +kernel)))
  refine ⟨(fun k => match k with | 0 => d0 | 1 => d1 | 2 => d2 | 3 => d3 | 4 => d4 | 5 => d5 | _ => d6, fun k => match k with | 0 => i0 | 1 => i1 | 2 => i2 | 3 => i3 | 4 => i4 | 5 => i5 | _ => i6), cI, cJ, fun k q hq => ?_, fun k q hq => ?_⟩
  · match k, hq with
    | 0, hq => cases hq; exact h0
    | 1, hq => cases hq; exact h1
    | 2, hq => cases hq; exact h2
    | 3, hq => cases hq; exact h3
    | 4, hq => cases hq; exact h4
    | 5, hq => cases hq; exact h5
    | 6, hq => cases hq; exact h6
  · match k, hq with
    | 0, hq => cases hq; exact ⟨a1, a2⟩
    | 1, hq => cases hq; exact ⟨b1, b2⟩
theorem gB_start {b : Nat} {s : State} (hts : ∀ w ∈ lw_tbl, w.before #[Value.ref b] s = true) (hgv : (Jvm.Cond.and given_1 narrow_1).before #[Value.ref b] s = true) : gB s := by
  have hfl := flat_of_before _ hgv
  refine ⟨fun w hw => va_Nw.of (gNest_tab w hw) (hts w ((show ∀ w ∈ gNest, w ∈ lw_tbl by decide +kernel) w hw)), fun q hq => ?_, fun q hq => ?_⟩
  · exact va_Nc.of (hfl _ ((show ∀ q ∈ gNcs, (Cond.not (.castable q.1 q.2)) ∈ flatC (Jvm.Cond.and given_1 narrow_1) by decide +kernel) q hq))
  · have h1 := hts _ ((show ∀ q ∈ gStr, (Cond.stringRef q.1 q.2.1 q.2.2) ∈ lw_tbl by decide +kernel) q hq)
    have h2 := hfl _ ((show ∀ q ∈ gStr, (Cond.exactly (.string q.1 q.2.1) "java/lang/String") ∈ flatC (Jvm.Cond.and given_1 narrow_1) by decide +kernel) q hq)
    obtain ⟨a, c, cA, kA, q1, -⟩ := Cond.exactly_spec (args := #[Value.ref b]) (first := s) (o := none) (s := s) (idx := []) (t := .string q.1 q.2.1) (cls := "java/lang/String") h2
    exact ⟨a, vk_R.of h1 q1⟩
theorem gZ_start {b : Nat} {s : State} (hts : ∀ w ∈ lw_tbl, w.before #[Value.ref b] s = true) (hgv : (Jvm.Cond.and given_1 narrow_1).before #[Value.ref b] s = true) : gZ (fun q : Nat => s.heap.size ≤ q) s s.heap := by
  have hfl := flat_of_before _ hgv
  refine ⟨vx_Zqof (hts _ (by decide +kernel)) (hts _ (by decide +kernel)) (hfl _ (by decide +kernel)) (fun a h => Nat.not_le.mpr h), vx_Zqof (hts _ (by decide +kernel)) (hts _ (by decide +kernel)) (hfl _ (by decide +kernel)) (fun a h => Nat.not_le.mpr h)⟩
theorem lww1 : Cond.classLink RL 8 RX5 ∈ gT := gT_in (by decide +kernel) (by decide +kernel)
theorem lww2 : Cond.classLink RL 81 RX6 ∈ gT := gT_in (by decide +kernel) (by decide +kernel)
theorem lww3 : Cond.instantiable RX5 8 ∈ gT := gT_in (by decide +kernel) (by decide +kernel)
theorem lww4 : Cond.instantiable RX6 3 ∈ gT := gT_in (by decide +kernel) (by decide +kernel)
theorem lww5 : Cond.initialized RX5 ∈ gT := gT_in (by decide +kernel) (by decide +kernel)
theorem lww6 : Cond.initialized RX6 ∈ gT := gT_in (by decide +kernel) (by decide +kernel)
theorem lww7 : Cond.arrayClass .long ∈ gT := gT_in (by decide +kernel) (by decide +kernel)
theorem lww8 : gWi RL 80 yX5_init cX5_init 1 := ⟨gT_in (by decide +kernel) (by decide +kernel), gT_in (by decide +kernel) (by decide +kernel), gT_in (by decide +kernel) (by decide +kernel), gT_in (by decide +kernel) (by decide +kernel), rfl, by decide +kernel⟩
theorem lww9 : gWi RL 83 yX6_init cX6_init 2 := ⟨gT_in (by decide +kernel) (by decide +kernel), gT_in (by decide +kernel) (by decide +kernel), gT_in (by decide +kernel) (by decide +kernel), gT_in (by decide +kernel) (by decide +kernel), rfl, by decide +kernel⟩
set_option maxHeartbeats 4000000 in
set_option maxRecDepth 100000 in
theorem gw_first (cI cJ : ClassId) (a0 a1 a2 a3 a4 a5 a6 a7 a8 a9 a10 a11 a12 a13 a14 a15 a16 a17 a18 a19 a20 a21 a22 a23 a24 a25 a26 a27 a28 a29 a30 a31 : Nat) : ([(a0, .inr (5, [.ref a1, .ref a8, .ref a15, .ref a16, .ref a18, .int 0, .int (-1 : Int32), .int 0])), (a1, .inr (0, [.ref a2, .ref a5, .int (-1 : Int32), .int (-1 : Int32)])), (a2, .inr (4, [.ref a3, .ref a4, .int (-1 : Int32), .int (-1 : Int32), .int 0, .int 0, .int 0, .int 0, .int (2 : Int32), .int 0])), (a3, .inl (cI, 7, .inl kRow1)), (a4, .inl (cI, 21, .inl (fun _ => 0))), (a5, .inr (4, [.ref a6, .ref a7, .int (-1 : Int32), .int (-1 : Int32), .int 0, .int 0, .int 0, .int 0, .int (2 : Int32), .int 0])), (a6, .inl (cI, 7, .inl kRow1)), (a7, .inl (cI, 21, .inl (fun _ => 0))), (a8, .inr (0, [.ref a9, .ref a12, .int (-1 : Int32), .int (-1 : Int32)])), (a9, .inr (4, [.ref a10, .ref a11, .int (-1 : Int32), .int (-1 : Int32), .int 0, .int 0, .int 0, .int 0, .int (2 : Int32), .int 0])), (a10, .inl (cI, 7, .inl kRow1)), (a11, .inl (cI, 21, .inl (fun _ => 0))), (a12, .inr (4, [.ref a13, .ref a14, .int (-1 : Int32), .int (-1 : Int32), .int 0, .int 0, .int 0, .int 0, .int (2 : Int32), .int 0])), (a13, .inl (cI, 7, .inl kRow1)), (a14, .inl (cI, 21, .inl (fun _ => 0))), (a15, .inr (1, [.int 0, .int 0, .int 0, .int 0, .int 0, .int 0, .int 0])), (a16, .inr (3, [.ref a17, .int 0])), (a17, .inl (cI, 640, .inl (fun _ => 0))), (a18, .inr (2, [.ref a19, .ref a26, .ref a27])), (a19, .inr (0, [.ref a20, .ref a23, .int (-1 : Int32), .int (-1 : Int32)])), (a20, .inr (4, [.ref a21, .ref a22, .int (-1 : Int32), .int (-1 : Int32), .int 0, .int 0, .int 0, .int 0, .int (2 : Int32), .int 0])), (a21, .inl (cI, 7, .inl kRow1)), (a22, .inl (cI, 21, .inl (fun _ => 0))), (a23, .inr (4, [.ref a24, .ref a25, .int (-1 : Int32), .int (-1 : Int32), .int 0, .int 0, .int 0, .int 0, .int (2 : Int32), .int 0])), (a24, .inl (cI, 7, .inl kRow1)), (a25, .inl (cI, 21, .inl (fun _ => 0))), (a26, .inl (cI, 6, .inl (fun _ => 0))), (a27, .inl (cI, 6, .inl (fun _ => 0))), (a28, .inr (6, [.ref a29, .ref a30, .int 0])), (a29, .inl (cI, 92, .inl kRow2)), (a30, .inl (cI, 92, .inl (fun _ => 0))), (a31, .inl (cJ, 1, .inr (.inl (fun _ => (0 : Int32).toInt64))))] : va_W) = gw cI cJ (fun k => [a0, a1, a2, a3, a4, a5, a6, a7, a8, a9, a10, a11, a12, a13, a14, a15, a16, a17, a18, a19, a20, a21, a22, a23, a24, a25, a26, a27, a28, a29, a30, a31].getD k 0) gInit := rfl
set_option maxHeartbeats 4000000 in
set_option maxRecDepth 100000 in
/-- from the entry to the loop's head, over any invariant that holds at first and that a step keeps -/
theorem start_of (Inv : Nat → gSt → Prop) (h0 : Inv 0 gInit) (hstep : ∀ (n : Nat) (σ : gSt) (op v1 v2 v3 v4 : Int32), n < 512 → Inv n σ → ∃ σ', F_step op v1 v2 v3 v4 σ = some ((1 : Int32), σ') ∧ Inv (n + 1) σ')
    {p : Program} {e : Env} {s : State} {m : MethodId} {below : List Frame} {meth : Method} {c : Code} (l : Launch) (hflags : l.flags = flags0) {b L : Nat} {xs : Nat → Int32} (hL : L ≤ 2560) (C0 : lw_At p s m meth c b L xs) : W p l e room_1 s m #[Value.ref b] below meth c s.heap [] 0 0 (lw_Z below #[Value.ref b] s) (entryFrame m ([Value.ref b] : List Value).toArray 7) := by
  obtain ⟨hx, hb, hr, hml, hown, hts, hX, hbl, hlocks, hgv⟩ := C0
  have hl : l.stackTraces = false := by
    unfold Launch.stackTraces
    rw [hflags]
    decide
  have hT : ∀ w ∈ gT, w.before #[Value.ref b] s = true := fun w hw => hts w (gT_lw hw)
  obtain ⟨D, cI, cJ, hK⟩ := gK_start hT
  have hB := gB_start hts hgv
  have hZ := gZ_start hts hgv
  have C : hC p s m #[Value.ref b] meth c D cI cJ (fun q : Nat => s.heap.size ≤ q) cL_law 7 RL := ⟨hx, hb, hml, hown, hT, hK, fun _ h => h, hB, hlocks⟩
  have key : hG p l e room_1 s m #[Value.ref b] below meth c D (fun q : Nat => s.heap.size ≤ q) 7 0 0 (lw_Z below #[Value.ref b] s) [] 0 [(0, .ref b)] [] := by
    refine h_new C gcl5 gft5 lww1 lww3 lww5 kF5 (Nat.le_of_ble_eq_true rfl) (Nat.le_of_ble_eq_true rfl) dL_law_0 (fun a0 => ?_)
    refine h_dup C dL_law_3 rfl ?_
    refine h_callI (ws0 := []) C (k_Game_init l D cI cJ a0) ⟨rfl, rfl⟩ lww8 (hR := ⟨Nat.le_of_ble_eq_true rfl, Nat.le_of_ble_eq_true rfl⟩) (Nat.le_of_ble_eq_true rfl) dL_law_4 ⟨Nat.le_of_ble_eq_true rfl, Nat.le_of_ble_eq_true rfl⟩ rfl (fun w1 hw1 => ?_)
    obtain ⟨a1, a2, a3, a4, a5, a6, a7, a8, a9, a10, a11, a12, a13, a14, a15, a16, a17, a18, a19, a20, a21, a22, a23, a24, a25, a26, a27, rfl⟩ := hw1
    refine h_astore_n (L' := [(1, .ref a0), (0, .ref b)]) C dL_law_7 rfl (by decide) rfl ?_
    refine h_new C gcl6 gft6 lww2 lww4 lww6 kF6 (Nat.le_of_ble_eq_true rfl) (Nat.le_of_ble_eq_true rfl) dL_law_8 (fun a28 => ?_)
    refine h_dup C dL_law_11 rfl ?_
    refine h_callI (ws0 := [(a0, .inr (5, [.ref a1, .ref a8, .ref a15, .ref a16, .ref a18, .int 0, .int (-1 : Int32), .int 0])), (a1, .inr (0, [.ref a2, .ref a5, .int (-1 : Int32), .int (-1 : Int32)])), (a2, .inr (4, [.ref a3, .ref a4, .int (-1 : Int32), .int (-1 : Int32), .int 0, .int 0, .int 0, .int 0, .int (2 : Int32), .int 0])), (a3, .inl (cI, 7, .inl kRow1)), (a4, .inl (cI, 21, .inl (fun _ => 0))), (a5, .inr (4, [.ref a6, .ref a7, .int (-1 : Int32), .int (-1 : Int32), .int 0, .int 0, .int 0, .int 0, .int (2 : Int32), .int 0])), (a6, .inl (cI, 7, .inl kRow1)), (a7, .inl (cI, 21, .inl (fun _ => 0))), (a8, .inr (0, [.ref a9, .ref a12, .int (-1 : Int32), .int (-1 : Int32)])), (a9, .inr (4, [.ref a10, .ref a11, .int (-1 : Int32), .int (-1 : Int32), .int 0, .int 0, .int 0, .int 0, .int (2 : Int32), .int 0])), (a10, .inl (cI, 7, .inl kRow1)), (a11, .inl (cI, 21, .inl (fun _ => 0))), (a12, .inr (4, [.ref a13, .ref a14, .int (-1 : Int32), .int (-1 : Int32), .int 0, .int 0, .int 0, .int 0, .int (2 : Int32), .int 0])), (a13, .inl (cI, 7, .inl kRow1)), (a14, .inl (cI, 21, .inl (fun _ => 0))), (a15, .inr (1, [.int 0, .int 0, .int 0, .int 0, .int 0, .int 0, .int 0])), (a16, .inr (3, [.ref a17, .int 0])), (a17, .inl (cI, 640, .inl (fun _ => 0))), (a18, .inr (2, [.ref a19, .ref a26, .ref a27])), (a19, .inr (0, [.ref a20, .ref a23, .int (-1 : Int32), .int (-1 : Int32)])), (a20, .inr (4, [.ref a21, .ref a22, .int (-1 : Int32), .int (-1 : Int32), .int 0, .int 0, .int 0, .int 0, .int (2 : Int32), .int 0])), (a21, .inl (cI, 7, .inl kRow1)), (a22, .inl (cI, 21, .inl (fun _ => 0))), (a23, .inr (4, [.ref a24, .ref a25, .int (-1 : Int32), .int (-1 : Int32), .int 0, .int 0, .int 0, .int 0, .int (2 : Int32), .int 0])), (a24, .inl (cI, 7, .inl kRow1)), (a25, .inl (cI, 21, .inl (fun _ => 0))), (a26, .inl (cI, 6, .inl (fun _ => 0))), (a27, .inl (cI, 6, .inl (fun _ => 0)))]) C (k_Model_init l D cI cJ a28) ⟨rfl, rfl⟩ lww9 (hR := ⟨Nat.le_of_ble_eq_true rfl, Nat.le_of_ble_eq_true rfl⟩) (Nat.le_of_ble_eq_true rfl) dL_law_12 ⟨Nat.le_of_ble_eq_true rfl, Nat.le_of_ble_eq_true rfl⟩ rfl (fun w1 hw1 => ?_)
    obtain ⟨a29, a30, rfl⟩ := hw1
    refine h_astore_n (L' := [(2, .ref a28), (1, .ref a0), (0, .ref b)]) C dL_law_15 rfl (by decide) rfl ?_
    refine h_iconst (v := (1 : Int32)) C dL_law_16 (by decide) ?_
    refine h_newJ C 1 lww7 (by decide) (by decide) (Nat.le_of_ble_eq_true rfl) (Nat.le_of_ble_eq_true rfl) (Nat.le_of_ble_eq_true rfl) dL_law_17 (fun a31 => ?_)
    refine h_astore_n (L' := [(3, .ref a31), (2, .ref a28), (1, .ref a0), (0, .ref b)]) C dL_law_19 rfl (by decide) rfl ?_
    refine h_iconst (v := (0 : Int32)) C dL_law_20 (by decide) ?_
    refine h_istore (L' := [(4, .int (0 : Int32)), (3, .ref a31), (2, .ref a28), (1, .ref a0), (0, .ref b)]) C dL_law_21 (by decide) rfl ?_
    refine h_ws (ws' := [(a0, .inr (5, [.ref a1, .ref a8, .ref a15, .ref a16, .ref a18, .int 0, .int (-1 : Int32), .int 0])), (a1, .inr (0, [.ref a2, .ref a5, .int (-1 : Int32), .int (-1 : Int32)])), (a2, .inr (4, [.ref a3, .ref a4, .int (-1 : Int32), .int (-1 : Int32), .int 0, .int 0, .int 0, .int 0, .int (2 : Int32), .int 0])), (a3, .inl (cI, 7, .inl kRow1)), (a4, .inl (cI, 21, .inl (fun _ => 0))), (a5, .inr (4, [.ref a6, .ref a7, .int (-1 : Int32), .int (-1 : Int32), .int 0, .int 0, .int 0, .int 0, .int (2 : Int32), .int 0])), (a6, .inl (cI, 7, .inl kRow1)), (a7, .inl (cI, 21, .inl (fun _ => 0))), (a8, .inr (0, [.ref a9, .ref a12, .int (-1 : Int32), .int (-1 : Int32)])), (a9, .inr (4, [.ref a10, .ref a11, .int (-1 : Int32), .int (-1 : Int32), .int 0, .int 0, .int 0, .int 0, .int (2 : Int32), .int 0])), (a10, .inl (cI, 7, .inl kRow1)), (a11, .inl (cI, 21, .inl (fun _ => 0))), (a12, .inr (4, [.ref a13, .ref a14, .int (-1 : Int32), .int (-1 : Int32), .int 0, .int 0, .int 0, .int 0, .int (2 : Int32), .int 0])), (a13, .inl (cI, 7, .inl kRow1)), (a14, .inl (cI, 21, .inl (fun _ => 0))), (a15, .inr (1, [.int 0, .int 0, .int 0, .int 0, .int 0, .int 0, .int 0])), (a16, .inr (3, [.ref a17, .int 0])), (a17, .inl (cI, 640, .inl (fun _ => 0))), (a18, .inr (2, [.ref a19, .ref a26, .ref a27])), (a19, .inr (0, [.ref a20, .ref a23, .int (-1 : Int32), .int (-1 : Int32)])), (a20, .inr (4, [.ref a21, .ref a22, .int (-1 : Int32), .int (-1 : Int32), .int 0, .int 0, .int 0, .int 0, .int (2 : Int32), .int 0])), (a21, .inl (cI, 7, .inl kRow1)), (a22, .inl (cI, 21, .inl (fun _ => 0))), (a23, .inr (4, [.ref a24, .ref a25, .int (-1 : Int32), .int (-1 : Int32), .int 0, .int 0, .int 0, .int 0, .int (2 : Int32), .int 0])), (a24, .inl (cI, 7, .inl kRow1)), (a25, .inl (cI, 21, .inl (fun _ => 0))), (a26, .inl (cI, 6, .inl (fun _ => 0))), (a27, .inl (cI, 6, .inl (fun _ => 0))), (a28, .inr (6, [.ref a29, .ref a30, .int 0])), (a29, .inl (cI, 92, .inl kRow2)), (a30, .inl (cI, 92, .inl (fun _ => 0))), (a31, .inl (cJ, 1, .inr (.inl (fun _ => (0 : Int32).toInt64))))]) rfl ?_
    refine h_ws (gw_first cI cJ a0 a1 a2 a3 a4 a5 a6 a7 a8 a9 a10 a11 a12 a13 a14 a15 a16 a17 a18 a19 a20 a21 a22 a23 a24 a25 a26 a27 a28 a29 a30 a31) ?_
    intro H locs ls hl9 hP hD hS
    generalize had : (fun k => [a0, a1, a2, a3, a4, a5, a6, a7, a8, a9, a10, a11, a12, a13, a14, a15, a16, a17, a18, a19, a20, a21, a22, a23, a24, a25, a26, a27, a28, a29, a30, a31].getD k 0) = ad at hP hD
    have hA : ∀ k, k < 32 → s.heap.size ≤ ad k := fun k hk => hD.2 k _ (gw_get hk)
    have hi : gInj ad := fun i j h1 h2 h3 => hD.1 i j _ _ (gw_get h1) (gw_get h2) h3
    have C9 : gC p s m #[Value.ref b] meth c D cI cJ ad (fun q : Nat => s.heap.size ≤ q) cL_law 7 RL := ⟨hx, hb, hml, hown, hT, hK, fun _ h => h, hA, hi, hB, hZ, hlocks⟩
    have e31 : ad 31 = a31 := by rw [← had]; rfl
    have e28 : ad 28 = a28 := by rw [← had]; rfl
    have e0 : ad 0 = a0 := by rw [← had]; rfl
    have hG9 := law_loop (e := e) (below := below) Inv hstep hl C9 hr hX hbl hL 513 0 gInit (by omega) (by omega) h0
    rw [e31, e28, e0] at hG9
    exact hG9 H locs ls hl9 hP hS
  have hl9 := lv_entry ([Value.ref b]) (n := 7) (Nat.le_of_ble_eq_true rfl)
  rw [lg_entry_eq]
  exact key s.heap [] _ hl9 (fun k q h => by cases h) ⟨(fun i j x y h => by cases h), (fun k q h => by cases h)⟩ va_S.rf
