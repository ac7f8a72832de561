/-! the start -/
section S20
variable {p : Program} {l : Launch} {e : Env} {R : Room} {s : State} {m : MethodId} {args : Array Value} {below : List Frame} {meth : Method} {c : Code} {D : va_G} {cI cJ : ClassId} {A : Nat → Prop} {cc : ByteArray} {nL : Nat} {own : String} {cells slots : Nat} {Q : State → Prop} {ws ws' : va_W} {pc : Nat} {L L' : List (Nat × Value)} {st : List Value}
theorem h_astore_n (C : hC p s m args meth c D cI cJ A cc nL own) {q : Fin 4} {i : Nat} {x : Nat} (hdg : decode cc pc = .ok (.astore_n q, 1)) (hi : (q : Nat) = i) (hn : i < nL) (hl' : (i, Value.ref x) :: L.filter (fun q => !(q.1 == i) && !(q.1 + 1 == i && q.2.category == 2)) = L') (k : hG p l e R s m args below meth c D A nL cells slots Q ws (pc + 1) L' st) : hG p l e R s m args below meth c D A nL cells slots Q ws pc L (.ref x :: st) :=
  fun H locs ls hl hP hD hS => lv_astore_n C.1 C.2.1 hdg hi hl hn hl' (fun ls' hl2 => k H locs ls' hl2 hP hD hS)
theorem gArrI {args : Array Value} {s : State} (h : (Cond.arrayClass .int).before args s = true) : ∃ cI, ArrOfT s cI .int ∧ va_RA s cI .int := by
  obtain ⟨cA, kA, comp, h1, h2, h3⟩ := Cond.arrayClass_spec h
  exact ⟨cA, fun n z => ⟨fun k h => (by cases h), kA, h2, comp, h3⟩, h1⟩
end S20
theorem gK_start {args : Array Value} {s : State} (hts : ∀ w ∈ gT, w.before args s = true) : ∃ (D : va_G) (cI cJ : ClassId), va_K D vwCl [(cI, .int)] s := by
  obtain ⟨cI, a1, a2⟩ := gArrI (hts _ kArr)
  obtain ⟨d0, i0, h0⟩ := u_known (n := 4) hts gin0 (hts _ (gT_in (by decide +kernel) (by decide +kernel)))
  obtain ⟨d1, i1, h1⟩ := u_known (n := 7) hts gin1 (hts _ (gT_in (by decide +kernel) (by decide +kernel)))
  obtain ⟨d2, i2, h2⟩ := u_known (n := 3) hts gin2 (hts _ (gT_in (by decide +kernel) (by decide +kernel)))
  obtain ⟨d3, i3, h3⟩ := u_known (n := 2) hts gin3 (hts _ (gT_in (by decide +kernel) (by decide +kernel)))
  obtain ⟨d4, i4, h4⟩ := u_known (n := 10) hts gin4 (hts _ (gT_in (by decide +kernel) (by decide +kernel)))
  obtain ⟨d5, i5, h5⟩ := u_known (n := 8) hts gin5 (hts _ (gT_in (by decide +kernel) (by decide +kernel)))
  refine ⟨(fun k => match k with | 0 => d0 | 1 => d1 | 2 => d2 | 3 => d3 | 4 => d4 | _ => d5, fun k => match k with | 0 => i0 | 1 => i1 | 2 => i2 | 3 => i3 | 4 => i4 | _ => i5), cI, cI, fun k q hq => ?_, fun k q hq => ?_⟩
  · match k, hq with
    | 0, hq => cases hq; exact h0
    | 1, hq => cases hq; exact h1
    | 2, hq => cases hq; exact h2
    | 3, hq => cases hq; exact h3
    | 4, hq => cases hq; exact h4
    | 5, hq => cases hq; exact h5
  · match k, hq with
    | 0, hq => cases hq; exact ⟨a1, a2⟩
theorem gB_start {b : Nat} {s : State} (hts : ∀ w ∈ lw_tbl, w.before #[Value.ref b] s = true) (hgv : (Jvm.Cond.and given_1 narrow_1).before #[Value.ref b] s = true) : gB s := by
  have hfl := flat_of_before _ hgv
  refine ⟨fun w hw => va_Nw.of (gNest_tab w hw) (hts w ((show ∀ w ∈ gNest, w ∈ lw_tbl by decide +kernel) w hw)), fun q hq => ?_, fun q hq => ?_⟩
  · exact va_Nc.of (hfl _ ((show ∀ q ∈ gNcs, (Cond.not (.castable q.1 q.2)) ∈ flatC (Jvm.Cond.and given_1 narrow_1) by decide +kernel) q hq))
  · have h1 := hts _ ((show ∀ q ∈ gStr, (Cond.stringRef q.1 q.2.1 q.2.2) ∈ lw_tbl by decide +kernel) q hq)
    have h2 := hfl _ ((show ∀ q ∈ gStr, (Cond.exactly (.string q.1 q.2.1) "java/lang/String") ∈ flatC (Jvm.Cond.and given_1 narrow_1) by decide +kernel) q hq)
    obtain ⟨a, c, cA, kA, q1, -⟩ := Cond.exactly_spec (args := #[Value.ref b]) (first := s) (o := none) (s := s) (idx := []) (t := .string q.1 q.2.1) (cls := "java/lang/String") h2
    exact ⟨a, vk_R.of h1 q1⟩
theorem gZ_start {b : Nat} {s : State} (hts : ∀ w ∈ lw_tbl, w.before #[Value.ref b] s = true) (hgv : (Jvm.Cond.and given_1 narrow_1).before #[Value.ref b] s = true) : gZ (fun q : Nat => s.heap.size ≤ q) s s.heap := by
  have hfl := flat_of_before _ hgv
  refine ⟨vx_Zqof (hts _ (by decide +kernel)) (hts _ (by decide +kernel)) (hfl _ (by decide +kernel)) (fun a h => Nat.not_le.mpr h), vx_Zqof (hts _ (by decide +kernel)) (hts _ (by decide +kernel)) (hfl _ (by decide +kernel)) (fun a h => Nat.not_le.mpr h)⟩
theorem lww1 : Cond.classLink RL 10 RX5 ∈ gT := gT_in (by decide +kernel) (by decide +kernel)
theorem lww3 : Cond.instantiable RX5 8 ∈ gT := gT_in (by decide +kernel) (by decide +kernel)
theorem lww5 : Cond.initialized RX5 ∈ gT := gT_in (by decide +kernel) (by decide +kernel)
theorem lww8 : gWi RL 98 yX5_init cX5_init 1 := ⟨gT_in (by decide +kernel) (by decide +kernel), gT_in (by decide +kernel) (by decide +kernel), gT_in (by decide +kernel) (by decide +kernel), gT_in (by decide +kernel) (by decide +kernel), rfl, by decide +kernel⟩
set_option maxHeartbeats 4000000 in
set_option maxRecDepth 100000 in
theorem gw_first (cI cJ : ClassId) (a0 a1 a2 a3 a4 a5 a6 a7 a8 a9 a10 a11 a12 a13 a14 a15 a16 a17 a18 a19 a20 a21 a22 a23 a24 a25 a26 a27 a28 : Nat) : ([(a0, .inr (5, [.ref a1, .ref a8, .ref a15, .ref a16, .ref a18, .int 0, .int (-1 : Int32), .int 0])), (a1, .inr (0, [.ref a2, .ref a5, .int (-1 : Int32), .int (-1 : Int32)])), (a2, .inr (4, [.ref a3, .ref a4, .int (-1 : Int32), .int (-1 : Int32), .int 0, .int 0, .int 0, .int 0, .int (2 : Int32), .int 0])), (a3, .inl (cI, 7, .inl kRow1)), (a4, .inl (cI, 21, .inl (fun _ => 0))), (a5, .inr (4, [.ref a6, .ref a7, .int (-1 : Int32), .int (-1 : Int32), .int 0, .int 0, .int 0, .int 0, .int (2 : Int32), .int 0])), (a6, .inl (cI, 7, .inl kRow1)), (a7, .inl (cI, 21, .inl (fun _ => 0))), (a8, .inr (0, [.ref a9, .ref a12, .int (-1 : Int32), .int (-1 : Int32)])), (a9, .inr (4, [.ref a10, .ref a11, .int (-1 : Int32), .int (-1 : Int32), .int 0, .int 0, .int 0, .int 0, .int (2 : Int32), .int 0])), (a10, .inl (cI, 7, .inl kRow1)), (a11, .inl (cI, 21, .inl (fun _ => 0))), (a12, .inr (4, [.ref a13, .ref a14, .int (-1 : Int32), .int (-1 : Int32), .int 0, .int 0, .int 0, .int 0, .int (2 : Int32), .int 0])), (a13, .inl (cI, 7, .inl kRow1)), (a14, .inl (cI, 21, .inl (fun _ => 0))), (a15, .inr (1, [.int 0, .int 0, .int 0, .int 0, .int 0, .int 0, .int 0])), (a16, .inr (3, [.ref a17, .int 0])), (a17, .inl (cI, 640, .inl (fun _ => 0))), (a18, .inr (2, [.ref a19, .ref a26, .ref a27])), (a19, .inr (0, [.ref a20, .ref a23, .int (-1 : Int32), .int (-1 : Int32)])), (a20, .inr (4, [.ref a21, .ref a22, .int (-1 : Int32), .int (-1 : Int32), .int 0, .int 0, .int 0, .int 0, .int (2 : Int32), .int 0])), (a21, .inl (cI, 7, .inl kRow1)), (a22, .inl (cI, 21, .inl (fun _ => 0))), (a23, .inr (4, [.ref a24, .ref a25, .int (-1 : Int32), .int (-1 : Int32), .int 0, .int 0, .int 0, .int 0, .int (2 : Int32), .int 0])), (a24, .inl (cI, 7, .inl kRow1)), (a25, .inl (cI, 21, .inl (fun _ => 0))), (a26, .inl (cI, 6, .inl (fun _ => 0))), (a27, .inl (cI, 6, .inl (fun _ => 0))), (a28, .inl (cI, 3, .inl (fun _ => 0)))] : va_W) = gw cI cJ (fun k => [a0, a1, a2, a3, a4, a5, a6, a7, a8, a9, a10, a11, a12, a13, a14, a15, a16, a17, a18, a19, a20, a21, a22, a23, a24, a25, a26, a27, a28].getD k 0) nS0 := rfl
set_option maxHeartbeats 8000000 in
set_option maxRecDepth 100000 in
theorem w_start {p : Program} {e : Env} {s : State} {m : MethodId} {below : List Frame} {meth : Method} {c : Code} (l : Launch) (hflags : l.flags = flags0) {b : Nat} {xs : Nat → Int32} (hxs : ∀ j, j < 170 → xs j = 21) (hx : p.tables.exec = Jvm.exec) (hb : c.code = code) (hr : meth.sig.returnType = ret) (hml : c.maxLocals = 17) (hown : s.vm.findClass RL = some m.cls) (hts : ∀ w ∈ lw_tbl, w.before #[Value.ref b] s = true) (hX : va_X b 170 xs s s.heap) (hbl : b < s.heap.size) (hlocks : meth.locks = false) (hgv : (Jvm.Cond.and given_1 narrow_1).before #[Value.ref b] s = true) : W p l e { frames := 40, cells := 8000, slots := 60000, locals := 2000 } s m #[Value.ref b] below meth c s.heap [] 0 0 (MQ below nQ9 #[Value.ref b] s 8000 60000 (fun q : Nat => s.heap.size ≤ q)) (entryFrame m ([Value.ref b] : List Value).toArray 17) := by
  have hl : l.stackTraces = false := by
    unfold Launch.stackTraces
    rw [hflags]
    decide
  have hT : ∀ w ∈ gT, w.before #[Value.ref b] s = true := fun w hw => hts w (gT_lw hw)
  obtain ⟨D, cI, cJ, hK⟩ := gK_start hT
  have hB := gB_start hts hgv
  have hZ := gZ_start hts hgv
  have C : hC p s m #[Value.ref b] meth c D cI cJ (fun q : Nat => s.heap.size ≤ q) cL_law 17 RL := ⟨hx, hb, hml, hown, hT, hK, fun _ h => h, hB, hlocks⟩
  have key : hG p l e { frames := 40, cells := 8000, slots := 60000, locals := 2000 } s m #[Value.ref b] below meth c D (fun q : Nat => s.heap.size ≤ q) 17 0 0 (MQ below nQ9 #[Value.ref b] s 8000 60000 (fun q : Nat => s.heap.size ≤ q)) [] 0 [(0, .ref b)] [] := by
    refine h_new C gcl5 gft5 lww1 lww3 lww5 kF5 (Nat.le_of_ble_eq_true rfl) (Nat.le_of_ble_eq_true rfl) dL_law_0 (fun a0 => ?_)
    refine h_dup C dL_law_3 rfl ?_
    refine h_callI (ws0 := []) C (k_Game_init l D cI cJ a0) ⟨rfl, rfl⟩ lww8 (hR := ⟨Nat.le_of_ble_eq_true rfl, Nat.le_of_ble_eq_true rfl⟩) (Nat.le_of_ble_eq_true rfl) dL_law_4 ⟨Nat.le_of_ble_eq_true rfl, Nat.le_of_ble_eq_true rfl⟩ rfl (fun w1 hw1 => ?_)
    obtain ⟨a1, a2, a3, a4, a5, a6, a7, a8, a9, a10, a11, a12, a13, a14, a15, a16, a17, a18, a19, a20, a21, a22, a23, a24, a25, a26, a27, rfl⟩ := hw1
    refine h_astore_n (L' := [(1, .ref a0), (0, .ref b)]) C dL_law_7 rfl (by decide) rfl ?_
    refine h_iconst (v := (3 : Int32)) C dL_law_8 (by decide) ?_
    refine h_newI C 3 kArr (by decide) (by decide) (Nat.le_of_ble_eq_true rfl) (Nat.le_of_ble_eq_true rfl) (Nat.le_of_ble_eq_true rfl) dL_law_9 (fun a28 => ?_)
    refine h_astore_n (L' := [(2, .ref a28), (1, .ref a0), (0, .ref b)]) C dL_law_11 rfl (by decide) rfl ?_
    refine h_ws (ws' := [(a0, .inr (5, [.ref a1, .ref a8, .ref a15, .ref a16, .ref a18, .int 0, .int (-1 : Int32), .int 0])), (a1, .inr (0, [.ref a2, .ref a5, .int (-1 : Int32), .int (-1 : Int32)])), (a2, .inr (4, [.ref a3, .ref a4, .int (-1 : Int32), .int (-1 : Int32), .int 0, .int 0, .int 0, .int 0, .int (2 : Int32), .int 0])), (a3, .inl (cI, 7, .inl kRow1)), (a4, .inl (cI, 21, .inl (fun _ => 0))), (a5, .inr (4, [.ref a6, .ref a7, .int (-1 : Int32), .int (-1 : Int32), .int 0, .int 0, .int 0, .int 0, .int (2 : Int32), .int 0])), (a6, .inl (cI, 7, .inl kRow1)), (a7, .inl (cI, 21, .inl (fun _ => 0))), (a8, .inr (0, [.ref a9, .ref a12, .int (-1 : Int32), .int (-1 : Int32)])), (a9, .inr (4, [.ref a10, .ref a11, .int (-1 : Int32), .int (-1 : Int32), .int 0, .int 0, .int 0, .int 0, .int (2 : Int32), .int 0])), (a10, .inl (cI, 7, .inl kRow1)), (a11, .inl (cI, 21, .inl (fun _ => 0))), (a12, .inr (4, [.ref a13, .ref a14, .int (-1 : Int32), .int (-1 : Int32), .int 0, .int 0, .int 0, .int 0, .int (2 : Int32), .int 0])), (a13, .inl (cI, 7, .inl kRow1)), (a14, .inl (cI, 21, .inl (fun _ => 0))), (a15, .inr (1, [.int 0, .int 0, .int 0, .int 0, .int 0, .int 0, .int 0])), (a16, .inr (3, [.ref a17, .int 0])), (a17, .inl (cI, 640, .inl (fun _ => 0))), (a18, .inr (2, [.ref a19, .ref a26, .ref a27])), (a19, .inr (0, [.ref a20, .ref a23, .int (-1 : Int32), .int (-1 : Int32)])), (a20, .inr (4, [.ref a21, .ref a22, .int (-1 : Int32), .int (-1 : Int32), .int 0, .int 0, .int 0, .int 0, .int (2 : Int32), .int 0])), (a21, .inl (cI, 7, .inl kRow1)), (a22, .inl (cI, 21, .inl (fun _ => 0))), (a23, .inr (4, [.ref a24, .ref a25, .int (-1 : Int32), .int (-1 : Int32), .int 0, .int 0, .int 0, .int 0, .int (2 : Int32), .int 0])), (a24, .inl (cI, 7, .inl kRow1)), (a25, .inl (cI, 21, .inl (fun _ => 0))), (a26, .inl (cI, 6, .inl (fun _ => 0))), (a27, .inl (cI, 6, .inl (fun _ => 0))), (a28, .inl (cI, 3, .inl (fun _ => 0)))]) rfl ?_
    refine h_ws (gw_first cI cJ a0 a1 a2 a3 a4 a5 a6 a7 a8 a9 a10 a11 a12 a13 a14 a15 a16 a17 a18 a19 a20 a21 a22 a23 a24 a25 a26 a27 a28) ?_
    intro H locs ls hl9 hP hD hS
    generalize had : (fun k => [a0, a1, a2, a3, a4, a5, a6, a7, a8, a9, a10, a11, a12, a13, a14, a15, a16, a17, a18, a19, a20, a21, a22, a23, a24, a25, a26, a27, a28].getD k 0) = ad at hP hD
    have hA : ∀ k, k < 29 → s.heap.size ≤ ad k := fun k hk => hD.2 k _ (gw_get hk)
    have hi : gInj ad := fun i j h1 h2 h3 => hD.1 i j _ _ (gw_get h1) (gw_get h2) h3
    have C9 : gC p s m #[Value.ref b] meth c D cI cJ ad (fun q : Nat => s.heap.size ≤ q) cL_law 17 RL := ⟨hx, hb, hml, hown, hT, hK, fun _ h => h, hA, hi, hB, hZ, hlocks⟩
    have hbA : ¬ (fun q : Nat => s.heap.size ≤ q) b := Nat.not_le.mpr hbl
    have hbk : ∀ k, k < 29 → b ≠ ad k := fun k hk h => by
      have := hA k hk
      omega
    have e28 : ad 28 = a28 := by rw [← had]; rfl
    have e0 : ad 0 = a0 := by rw [← had]; rfl
    have hG9 : gN p l e { frames := 40, cells := 8000, slots := 60000, locals := 2000 } s m #[Value.ref b] below meth c D cI cJ ad (fun q : Nat => s.heap.size ≤ q) 17 29 915 (MQ below nQ9 #[Value.ref b] s 8000 60000 (fun q : Nat => s.heap.size ≤ q)) 0 nS0 12 [(2, .ref (ad 28)), (1, .ref (ad 0)), (0, .ref b)] [] := by
      have C := C9
      refine n_aload_n C 1 dL_law_12 rfl rfl ?_
      refine n_iconst (v := (0 : Int32)) C dL_law_13 (by decide) ?_
      refine n_calls (As := [.ref (ad 0), .int (0 : Int32)]) (n := 2) C (w_isRefused_0 l hl D cI cJ ad) ⟨rfl, rfl⟩ lws_isRefused (hR := ⟨Nat.le_of_ble_eq_true rfl, Nat.le_of_ble_eq_true rfl⟩) rfl rfl (Nat.le_of_ble_eq_true rfl) dL_law_14 ⟨by show _ ≤ 8000; omega, by show _ ≤ 60000; omega⟩ ?_
      refine n_if_eq_f (tgt := 41) C dL_law_17 (by decide) (by decide) ?_
      refine n_aload_n C 1 dL_law_20 rfl rfl ?_
      refine n_iconst (v := (1 : Int32)) C dL_law_21 (by decide) ?_
      refine n_calls (As := [.ref (ad 0), .int (1 : Int32)]) (n := 2) C (w_isRefused_1 l hl D cI cJ ad) ⟨rfl, rfl⟩ lws_isRefused (hR := ⟨Nat.le_of_ble_eq_true rfl, Nat.le_of_ble_eq_true rfl⟩) rfl rfl (Nat.le_of_ble_eq_true rfl) dL_law_22 ⟨by show _ ≤ 8000; omega, by show _ ≤ 60000; omega⟩ ?_
      refine n_if_eq_f (tgt := 41) C dL_law_25 (by decide) (by decide) ?_
      refine n_aload_n C 1 dL_law_28 rfl rfl ?_
      refine n_aload_n C 0 dL_law_29 rfl rfl ?_
      refine n_iconst (v := (0 : Int32)) C dL_law_30 (by decide) ?_
      refine n_calls (As := [.ref (ad 0), .ref (ad 28), .int (0 : Int32)]) (n := 3) C (w_areSound l hl D cI cJ ad) ⟨rfl, rfl⟩ lws_areSound (hR := ⟨Nat.le_of_ble_eq_true rfl, Nat.le_of_ble_eq_true rfl⟩) rfl rfl (Nat.le_of_ble_eq_true rfl) dL_law_31 ⟨by show _ ≤ 8000; omega, by show _ ≤ 60000; omega⟩ ?_
      refine n_if_eq_f (tgt := 41) C dL_law_34 (by decide) (by decide) ?_
      refine n_iconst (v := (1 : Int32)) C dL_law_37 (by decide) ?_
      refine n_goto (tgt := 42) C dL_law_38 (by decide) ?_
      refine n_istore_n (L' := [(3, .int (1 : Int32)), (2, .ref (ad 28)), (1, .ref (ad 0)), (0, .ref b)]) C dL_law_42 rfl (by decide) rfl ?_
      refine n_iconst (v := (0 : Int32)) C dL_law_43 (by decide) ?_
      refine n_istore (L' := [(4, .int (0 : Int32)), (3, .int (1 : Int32)), (2, .ref (ad 28)), (1, .ref (ad 0)), (0, .ref b)]) C dL_law_44 (by decide) rfl ?_
      refine n_less (k1 := 72 + 0) (by omega) ?_
      exact n_wide (c1 := 110 + 42 * 0) (s1 := 1400 + 252 * 0) (by omega) (by omega) (w_loop l hl C9 hr hX hbl hbA hbk hxs 170 0 rfl)
    rw [e28, e0] at hG9
    exact hG9 H locs ls hl9 hP hS hS.1
  have hl9 := lv_entry ([Value.ref b]) (n := 17) (Nat.le_of_ble_eq_true rfl)
  rw [lg_entry_eq]
  exact key s.heap [] _ hl9 (fun k q h => by cases h) ⟨(fun i j x y h => by cases h), (fun k q h => by cases h)⟩ va_S.rf
