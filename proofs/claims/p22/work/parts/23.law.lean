/-! the law over a script of 170 times 21: no set is begun, each turn a challenge is refused, the world stays the first one -/
theorem lwd : Cond.constant RL 8 (2147483647 : Int32) ∈ gT := gT_in (by decide +kernel) (by decide +kernel)
set_option maxHeartbeats 4000000 in
set_option maxRecDepth 100000 in
theorem w_dice (l : Launch) (D : va_G) (cI cJ : ClassId) (ad : Nat → Nat) {b : Nat} {xs : Nat → Int32} (hbk : ∀ k, k < 29 → b ≠ ad k) (hxs : ∀ j, j < 170 → xs j = 21) (k : Nat) (hk : k < 170) : nMb b xs l D cI cJ ad yL_dice cL_dice 2 (some .int) { frames := 0, cells := 0, slots := 0, locals := 0 } [.ref b, .int (nI k)] nS0 (21 : Int32) 0 0 0 := by
  refine nStartB (Qc := fun sz => nQi D cI cJ ad nS0 (21 : Int32) 0 sz) (L0 := [(0, .ref b), (1, .int (nI k))]) RL (by decide) rfl rfl (Nat.le_of_ble_eq_true rfl) ?_
  intro p e s m args below meth c hX0 C hr
  have hbl : b < s.heap.size := by
    obtain ⟨scr, h, -⟩ := hX0
    exact (Array.getElem?_eq_some_iff.mp h).1
  have hbA : ¬ gA ad s.heap.size b := fun h => h.elim (fun ⟨j, h1, h2⟩ => hbk j h1 h2) (fun h1 => absurd h1 (Nat.not_le.mpr hbl))
  refine n_iload_n C 1 dL_dice_0 rfl rfl ?_
  refine n_aload_n C 0 dL_dice_1 rfl rfl ?_
  refine n_slen C hX0 hbl hbA dL_dice_2 ?_
  refine n_icmp_ge_f (tgt := 12) C dL_dice_3 (by decide) (nI_ge hk (by decide)) ?_
  refine n_aload_n C 0 dL_dice_6 rfl rfl ?_
  refine n_iload_n C 1 dL_dice_7 rfl rfl ?_
  refine n_sld (v := (21 : Int32)) C hX0 hbl hbA k ⟨nI_clamp (by omega), vp_in_nI hk (by decide)⟩ (hxs k hk) dL_dice_8 ?_
  refine n_goto (tgt := 32) C dL_dice_9 (by decide) ?_
  refine n_ldc (v := (2147483647 : Int32)) C lwd dL_dice_32 ?_
  refine n_iand C dL_dice_34 ?_
  refine n_eq (v := (21 : Int32)) (by decide) ?_
  exact n_reti C hr dL_dice_35 (Nat.le_of_ble_eq_true rfl) (Nat.le_of_ble_eq_true rfl) (Nat.le_of_ble_eq_true rfl)
theorem nrem50 : ∀ k, k < 170 → nI k - nI k / 50 * 50 = nI (k % 50) := by decide +kernel
theorem npos50 : ∀ k, k < 170 → ¬ k % 50 = 0 → (0 : Int32) < nI (k % 50) := by decide +kernel
def nQ9 : Array Value → State → Outcome → State → Prop := fun _ st o t => o = .returned (some (.int 1)) ∧ st.heap.size + 150 < t.heap.size
set_option maxHeartbeats 8000000 in
set_option maxRecDepth 100000 in
theorem w_loop {p : Program} {e : Env} {s : State} {m : MethodId} {below : List Frame} {meth : Method} {c : Code} {D : va_G} {cI cJ : ClassId} {ad : Nat → Nat} {b : Nat} {xs : Nat → Int32} (l : Launch) (hl : l.stackTraces = false) (C : gC p s m #[Value.ref b] meth c D cI cJ ad (fun q : Nat => s.heap.size ≤ q) cL_law 17 RL) (hr : meth.sig.returnType = some .boolean) (hX0 : va_X b 170 xs s s.heap) (hbl : b < s.heap.size) (hbA : ¬ (fun q : Nat => s.heap.size ≤ q) b) (hbk : ∀ k, k < 29 → b ≠ ad k) (hxs : ∀ j, j < 170 → xs j = 21) :
    ∀ f k : Nat, k + f = 170 → gN p l e { frames := 40, cells := 8000, slots := 60000, locals := 2000 } s m #[Value.ref b] below meth c D cI cJ ad (fun q : Nat => s.heap.size ≤ q) 17 (110 + 42 * k) (1400 + 252 * k) (MQ below nQ9 #[Value.ref b] s 8000 60000 (fun q : Nat => s.heap.size ≤ q)) (72 + k) nS0 46 [(4, .int (nI k)), (3, .int (1 : Int32)), (2, .ref (ad 28)), (1, .ref (ad 0)), (0, .ref b)] [] := by
  intro f
  induction f with
  | zero =>
    intro k hkf
    obtain rfl : k = 170 := by omega
    refine n_iload C 0 dL_law_46 rfl ?_
    refine n_sipush (v := (170 : Int32)) C dL_law_48 (by decide) ?_
    refine n_icmp_ge_t (tgt := 1251) C dL_law_51 (by decide) (by decide) ?_
    refine n_iload_n C 1 dL_law_1251 rfl rfl ?_
    intro H locs ls hls hP hS hN
    exact W.widen (show 110 + 42 * 170 ≤ 8000 by decide) (show 1400 + 252 * 170 ≤ 60000 by decide) (W.zret C.1 C.2.1 hr (gz_n (Or.inr rfl)) (fun t ht hW => ⟨rfl, by rw [ht]; omega⟩) hS.2.2 dL_law_1252 C.2.2.2.2.2.2.2.2.2.2.2)
  | succ f ih =>
    intro k hkf
    have hk : k < 170 := by omega
    refine n_iload C 0 dL_law_46 rfl ?_
    refine n_sipush (v := nI 170) C dL_law_48 (by decide) ?_
    refine n_icmp_ge_f (tgt := 1251) C dL_law_51 (by decide) (nI_ge hk (by decide)) ?_
    refine n_iload_n C 1 dL_law_54 rfl rfl ?_
    refine n_if_eq_f (tgt := 1251) C dL_law_55 (by decide) (by decide) ?_
    refine n_aload_n C 4 dL_law_58 rfl rfl ?_
    refine n_iload C 0 dL_law_59 rfl ?_
    refine n_callb (As := [.ref b, .int (nI k)]) (n := 2) C hX0 hbl hbA (w_dice l D cI cJ ad hbk hxs k hk) ⟨rfl, rfl⟩ lws_dice (hR := ⟨Nat.le_of_ble_eq_true rfl, Nat.le_of_ble_eq_true rfl⟩) rfl rfl (Nat.le_of_ble_eq_true rfl) dL_law_61 ⟨by show _ ≤ 8000; omega, by show _ ≤ 60000; omega⟩ ?_
    refine n_istore (L' := [(5, .int (21 : Int32)), (4, .int (nI k)), (3, .int (1 : Int32)), (2, .ref (ad 28)), (1, .ref (ad 0)), (0, .ref b)]) C dL_law_64 (by decide) rfl ?_
    refine n_iload C 0 dL_law_66 rfl ?_
    refine n_bipush (v := (24 : Int32)) C dL_law_68 (by decide) ?_
    refine n_irem C dL_law_70 (by decide) ?_
    refine n_eq (v := (21 : Int32)) (by decide) ?_
    refine n_istore (L' := [(6, .int (21 : Int32)), (5, .int (21 : Int32)), (4, .int (nI k)), (3, .int (1 : Int32)), (2, .ref (ad 28)), (1, .ref (ad 0)), (0, .ref b)]) C dL_law_71 (by decide) rfl ?_
    refine n_iload C 1 dL_law_73 rfl ?_
    refine n_bipush (v := (24 : Int32)) C dL_law_75 (by decide) ?_
    refine n_idiv C dL_law_77 (by decide) ?_
    refine n_eq (v := (0 : Int32)) (by decide) ?_
    refine n_istore (L' := [(7, .int (0 : Int32)), (6, .int (21 : Int32)), (5, .int (21 : Int32)), (4, .int (nI k)), (3, .int (1 : Int32)), (2, .ref (ad 28)), (1, .ref (ad 0)), (0, .ref b)]) C dL_law_78 (by decide) rfl ?_
    refine n_iload C 0 dL_law_80 rfl ?_
    refine n_iconst (v := (2 : Int32)) C dL_law_82 (by decide) ?_
    refine n_irem C dL_law_83 (by decide) ?_
    refine n_eq (v := (0 : Int32)) (by decide) ?_
    refine n_istore (L' := [(8, .int (0 : Int32)), (7, .int (0 : Int32)), (6, .int (21 : Int32)), (5, .int (21 : Int32)), (4, .int (nI k)), (3, .int (1 : Int32)), (2, .ref (ad 28)), (1, .ref (ad 0)), (0, .ref b)]) C dL_law_84 (by decide) rfl ?_
    refine n_aload_n C 7 dL_law_86 rfl rfl ?_
    refine n_iconst (v := (0 : Int32)) C dL_law_87 (by decide) ?_
    refine n_callv (As := [.int (0 : Int32)]) (n := 1) C (c_Game_points l hl D cI cJ ad (0 : Int32)) zf_points_0 ⟨rfl, rfl⟩ gcl5 rfl lwv_points (hR := ⟨Nat.le_of_ble_eq_true rfl, Nat.le_of_ble_eq_true rfl⟩) rfl rfl (Nat.le_of_ble_eq_true rfl) dL_law_88 ⟨by show _ ≤ 8000; omega, by show _ ≤ 60000; omega⟩ ?_
    refine n_istore (L' := [(9, .int (0 : Int32)), (8, .int (0 : Int32)), (7, .int (0 : Int32)), (6, .int (21 : Int32)), (5, .int (21 : Int32)), (4, .int (nI k)), (3, .int (1 : Int32)), (2, .ref (ad 28)), (1, .ref (ad 0)), (0, .ref b)]) C dL_law_91 (by decide) rfl ?_
    refine n_aload_n C 8 dL_law_93 rfl rfl ?_
    refine n_iconst (v := (1 : Int32)) C dL_law_94 (by decide) ?_
    refine n_callv (As := [.int (1 : Int32)]) (n := 1) C (c_Game_points l hl D cI cJ ad (1 : Int32)) zf_points_1 ⟨rfl, rfl⟩ gcl5 rfl lwv_points (hR := ⟨Nat.le_of_ble_eq_true rfl, Nat.le_of_ble_eq_true rfl⟩) rfl rfl (Nat.le_of_ble_eq_true rfl) dL_law_95 ⟨by show _ ≤ 8000; omega, by show _ ≤ 60000; omega⟩ ?_
    refine n_istore (L' := [(10, .int (0 : Int32)), (9, .int (0 : Int32)), (8, .int (0 : Int32)), (7, .int (0 : Int32)), (6, .int (21 : Int32)), (5, .int (21 : Int32)), (4, .int (nI k)), (3, .int (1 : Int32)), (2, .ref (ad 28)), (1, .ref (ad 0)), (0, .ref b)]) C dL_law_98 (by decide) rfl ?_
    refine n_aload_n C 9 dL_law_100 rfl rfl ?_
    refine n_iconst (v := (0 : Int32)) C dL_law_101 (by decide) ?_
    refine n_callv (As := [.int (0 : Int32)]) (n := 1) C (c_Game_about l hl D cI cJ ad (0 : Int32)) zf_about_0 ⟨rfl, rfl⟩ gcl5 rfl lwv_about (hR := ⟨Nat.le_of_ble_eq_true rfl, Nat.le_of_ble_eq_true rfl⟩) rfl rfl (Nat.le_of_ble_eq_true rfl) dL_law_102 ⟨by show _ ≤ 8000; omega, by show _ ≤ 60000; omega⟩ ?_
    refine n_if_ne_t (tgt := 126) C dL_law_105 (by decide) (by decide) ?_
    refine n_iload C 4 dL_law_108 rfl ?_
    refine n_bipush (v := (21 : Int32)) C dL_law_110 (by decide) ?_
    refine n_icmp_ge_t (tgt := 126) C dL_law_112 (by decide) (by decide) ?_
    refine n_aload_n C 9 dL_law_126 rfl rfl ?_
    refine n_iconst (v := (1 : Int32)) C dL_law_127 (by decide) ?_
    refine n_callv (As := [.int (1 : Int32)]) (n := 1) C (c_Game_about l hl D cI cJ ad (1 : Int32)) zf_about_1 ⟨rfl, rfl⟩ gcl5 rfl lwv_about (hR := ⟨Nat.le_of_ble_eq_true rfl, Nat.le_of_ble_eq_true rfl⟩) rfl rfl (Nat.le_of_ble_eq_true rfl) dL_law_128 ⟨by show _ ≤ 8000; omega, by show _ ≤ 60000; omega⟩ ?_
    refine n_iconst (v := (1 : Int32)) C dL_law_131 (by decide) ?_
    refine n_icmp_ne_f (tgt := 421) C dL_law_132 (by decide) (by decide) ?_
    refine n_iload C 4 dL_law_421 rfl ?_
    refine n_bipush (v := (13 : Int32)) C dL_law_423 (by decide) ?_
    refine n_icmp_ge_t (tgt := 525) C dL_law_425 (by decide) (by decide) ?_
    refine n_iload C 4 dL_law_525 rfl ?_
    refine n_bipush (v := (13 : Int32)) C dL_law_527 (by decide) ?_
    refine n_icmp_ne_f (tgt := 660) C dL_law_529 (by decide) (by decide) ?_
    refine n_iload C 4 dL_law_660 rfl ?_
    refine n_bipush (v := (17 : Int32)) C dL_law_662 (by decide) ?_
    refine n_icmp_ge_t (tgt := 751) C dL_law_664 (by decide) (by decide) ?_
    refine n_iload C 4 dL_law_751 rfl ?_
    refine n_bipush (v := (20 : Int32)) C dL_law_753 (by decide) ?_
    refine n_icmp_ge_t (tgt := 999) C dL_law_755 (by decide) (by decide) ?_
    refine n_aload_n C 9 dL_law_999 rfl rfl ?_
    refine n_iload C 2 dL_law_1000 rfl ?_
    refine n_iconst (v := (1 : Int32)) C dL_law_1002 (by decide) ?_
    refine n_callv (As := [.int (0 : Int32), .int (1 : Int32)]) (n := 2) C (c_Game_of l hl D cI cJ ad (0 : Int32) (1 : Int32)) zf_of_0_1 ⟨rfl, rfl⟩ gcl5 rfl lwv_of (hR := ⟨Nat.le_of_ble_eq_true rfl, Nat.le_of_ble_eq_true rfl⟩) rfl rfl (Nat.le_of_ble_eq_true rfl) dL_law_1003 ⟨by show _ ≤ 8000; omega, by show _ ≤ 60000; omega⟩ ?_
    refine n_istore (L' := [(11, .int (2 : Int32)), (10, .int (0 : Int32)), (9, .int (0 : Int32)), (8, .int (0 : Int32)), (7, .int (0 : Int32)), (6, .int (21 : Int32)), (5, .int (21 : Int32)), (4, .int (nI k)), (3, .int (1 : Int32)), (2, .ref (ad 28)), (1, .ref (ad 0)), (0, .ref b)]) C dL_law_1006 (by decide) rfl ?_
    refine n_aload_n C 10 dL_law_1008 rfl rfl ?_
    refine n_bipush (v := (10 : Int32)) C dL_law_1009 (by decide) ?_
    refine n_iload C 3 dL_law_1011 rfl ?_
    refine n_iconst (v := (0 : Int32)) C dL_law_1013 (by decide) ?_
    refine n_iconst (v := (0 : Int32)) C dL_law_1014 (by decide) ?_
    refine n_iconst (v := (0 : Int32)) C dL_law_1015 (by decide) ?_
    refine n_callh (As := [.ref (ad 0), .int (10 : Int32), .int (0 : Int32), .int (0 : Int32), .int (0 : Int32), .int (0 : Int32)]) (n := 6) (r := (-1673 : Int32)) C (a_challenge l hl D cI cJ ad nS0 (0 : Int32) (0 : Int32) (0 : Int32) (0 : Int32) zx_challenge_0 (by decide)) ⟨rfl, rfl⟩ lwh_act (hR := ⟨Nat.le_of_ble_eq_true rfl, Nat.le_of_ble_eq_true rfl⟩) rfl rfl (Nat.le_of_ble_eq_true rfl) dL_law_1016 ⟨by show _ ≤ 8000; omega, by show _ ≤ 60000; omega⟩ ?_
    refine n_istore (L' := [(12, .int (-1673 : Int32)), (11, .int (2 : Int32)), (10, .int (0 : Int32)), (9, .int (0 : Int32)), (8, .int (0 : Int32)), (7, .int (0 : Int32)), (6, .int (21 : Int32)), (5, .int (21 : Int32)), (4, .int (nI k)), (3, .int (1 : Int32)), (2, .ref (ad 28)), (1, .ref (ad 0)), (0, .ref b)]) C dL_law_1019 (by decide) rfl ?_
    refine n_iload C 0 dL_law_1021 rfl ?_
    refine n_sipush (v := (-1673 : Int32)) C dL_law_1023 (by decide) ?_
    refine n_icmp_eq_t (tgt := 1146) C dL_law_1026 (by decide) (by decide) ?_
    refine n_iconst (v := (1 : Int32)) C dL_law_1146 (by decide) ?_
    refine n_goto (tgt := 1151) C dL_law_1147 (by decide) ?_
    refine n_istore_n (L' := [(3, .int (1 : Int32)), (12, .int (-1673 : Int32)), (11, .int (2 : Int32)), (10, .int (0 : Int32)), (9, .int (0 : Int32)), (8, .int (0 : Int32)), (7, .int (0 : Int32)), (6, .int (21 : Int32)), (5, .int (21 : Int32)), (4, .int (nI k)), (2, .ref (ad 28)), (1, .ref (ad 0)), (0, .ref b)]) C dL_law_1151 rfl (by decide) rfl ?_
    refine n_iload_n C 0 dL_law_1152 rfl rfl ?_
    refine n_if_eq_f (tgt := 1204) C dL_law_1153 (by decide) (by decide) ?_
    refine n_iload C 1 dL_law_1156 rfl ?_
    refine n_sipush (v := (-1673 : Int32)) C dL_law_1158 (by decide) ?_
    refine n_icmp_eq_t (tgt := 1200) C dL_law_1161 (by decide) (by decide) ?_
    refine n_iconst (v := (1 : Int32)) C dL_law_1200 (by decide) ?_
    refine n_goto (tgt := 1205) C dL_law_1201 (by decide) ?_
    refine n_istore_n (L' := [(3, .int (1 : Int32)), (12, .int (-1673 : Int32)), (11, .int (2 : Int32)), (10, .int (0 : Int32)), (9, .int (0 : Int32)), (8, .int (0 : Int32)), (7, .int (0 : Int32)), (6, .int (21 : Int32)), (5, .int (21 : Int32)), (4, .int (nI k)), (2, .ref (ad 28)), (1, .ref (ad 0)), (0, .ref b)]) C dL_law_1205 rfl (by decide) rfl ?_
    refine n_iload_n C 0 dL_law_1206 rfl rfl ?_
    refine n_if_eq_f (tgt := 1243) C dL_law_1207 (by decide) (by decide) ?_
    refine n_aload_n C 11 dL_law_1210 rfl rfl ?_
    refine n_aload_n C 10 dL_law_1211 rfl rfl ?_
    refine n_iload C 6 dL_law_1212 rfl ?_
    refine n_calls (As := [.ref (ad 0), .ref (ad 28), .int (0 : Int32)]) (n := 3) C (w_areSound l hl D cI cJ ad) ⟨rfl, rfl⟩ lws_areSound (hR := ⟨Nat.le_of_ble_eq_true rfl, Nat.le_of_ble_eq_true rfl⟩) rfl rfl (Nat.le_of_ble_eq_true rfl) dL_law_1214 ⟨by show _ ≤ 8000; omega, by show _ ≤ 60000; omega⟩ ?_
    refine n_if_eq_f (tgt := 1243) C dL_law_1217 (by decide) (by decide) ?_
    have fin : gN p l e { frames := 40, cells := 8000, slots := 60000, locals := 2000 } s m #[Value.ref b] below meth c D cI cJ ad (fun q : Nat => s.heap.size ≤ q) 17 (110 + 42 * (k + 1)) (1400 + 252 * (k + 1)) (MQ below nQ9 #[Value.ref b] s 8000 60000 (fun q : Nat => s.heap.size ≤ q)) (72 + (k + 1)) nS0 1239 [(3, .int (1 : Int32)), (12, .int (-1673 : Int32)), (11, .int (2 : Int32)), (10, .int (0 : Int32)), (9, .int (0 : Int32)), (8, .int (0 : Int32)), (7, .int (0 : Int32)), (6, .int (21 : Int32)), (5, .int (21 : Int32)), (4, .int (nI k)), (2, .ref (ad 28)), (1, .ref (ad 0)), (0, .ref b)] [] := by
      refine n_iconst (v := (1 : Int32)) C dL_law_1239 (by decide) ?_
      refine n_goto (tgt := 1244) C dL_law_1240 (by decide) ?_
      refine n_istore_n (L' := [(3, .int (1 : Int32)), (12, .int (-1673 : Int32)), (11, .int (2 : Int32)), (10, .int (0 : Int32)), (9, .int (0 : Int32)), (8, .int (0 : Int32)), (7, .int (0 : Int32)), (6, .int (21 : Int32)), (5, .int (21 : Int32)), (4, .int (nI k)), (2, .ref (ad 28)), (1, .ref (ad 0)), (0, .ref b)]) C dL_law_1244 rfl (by decide) rfl ?_
      refine n_iinc (v := nI (k + 1)) (L' := [(4, .int (nI (k + 1))), (3, .int (1 : Int32)), (12, .int (-1673 : Int32)), (11, .int (2 : Int32)), (10, .int (0 : Int32)), (9, .int (0 : Int32)), (8, .int (0 : Int32)), (7, .int (0 : Int32)), (6, .int (21 : Int32)), (5, .int (21 : Int32)), (2, .ref (ad 28)), (1, .ref (ad 0)), (0, .ref b)]) C 9 dL_law_1245 rfl (by rw [show Int32.ofInt 1 = nI 1 from rfl, nI_add]) (by decide) rfl ?_
      refine n_goto (tgt := 46) C dL_law_1248 (by decide) ?_
      refine n_loc [0, 1, 10, 11, 12] rfl ?_
      exact ih (k + 1) (by omega)
    refine n_iload C 9 dL_law_1220 rfl ?_
    refine n_bipush (v := (50 : Int32)) C dL_law_1222 (by decide) ?_
    refine n_irem C dL_law_1224 (by decide) ?_
    refine n_eq (nrem50 k hk) ?_
    by_cases hz : k % 50 = 0
    · refine n_eq (v := (0 : Int32)) (by rw [hz]; rfl) ?_
      refine n_if_gt_f (tgt := 1239) C dL_law_1225 (by decide) (by decide) ?_
      refine n_aload_n C 11 dL_law_1228 rfl rfl ?_
      refine n_iload C 8 dL_law_1229 rfl ?_
      refine n_iconst (v := (3 : Int32)) C dL_law_1231 (by decide) ?_
      refine n_idiv C dL_law_1232 (by decide) ?_
      refine n_eq (v := (7 : Int32)) (by decide) ?_
      refine n_calls (As := [.ref (ad 0), .int (7 : Int32)]) (n := 2) C (w_isRefused_7 l hl D cI cJ ad) ⟨rfl, rfl⟩ lws_isRefused (hR := ⟨Nat.le_of_ble_eq_true rfl, Nat.le_of_ble_eq_true rfl⟩) rfl rfl (Nat.le_of_ble_eq_true rfl) dL_law_1233 ⟨by show _ ≤ 8000; omega, by show _ ≤ 60000; omega⟩ ?_
      refine n_if_eq_f (tgt := 1243) C dL_law_1236 (by decide) (by decide) ?_
      refine n_less (k1 := 72 + (k + 1)) (by omega) ?_
      exact n_wide (c1 := 110 + 42 * (k + 1)) (s1 := 1400 + 252 * (k + 1)) (by omega) (by omega) fin
    · refine n_if_gt_t (tgt := 1239) C dL_law_1225 (by decide) (npos50 k hk hz) ?_
      refine n_less (k1 := 72 + (k + 1)) (by omega) ?_
      exact n_wide (c1 := 110 + 42 * (k + 1)) (s1 := 1400 + 252 * (k + 1)) (by omega) (by omega) fin
