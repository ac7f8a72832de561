set_option maxHeartbeats 4000000 in
set_option maxRecDepth 100000 in
theorem w_all (l : Launch) (hl : l.stackTraces = false) (D : va_G) (cI cJ : ClassId) (ad : Nat → Nat) : nMl l D cI cJ ad yL_all cL_all 4 (some .long) { frames := 8, cells := 1, slots := 6, locals := 125 } [.ref (ad 0)] nS0 (-1628093155160432834 : Int64) 1 6 0 := by
  refine nStart (Qc := fun sz => nQl D cI cJ ad nS0 (-1628093155160432834 : Int64) 0 sz) (L0 := [(0, .ref (ad 0))]) RL (by decide) rfl rfl (Nat.le_of_ble_eq_true rfl) ?_
  intro p e s m args below meth c C hr
  refine n_lconst (v := (0 : Int64)) C dL_all_0 (by decide) ?_
  refine n_lstore_n (L' := [(1, .long (0 : Int64)), (0, .ref (ad 0))]) C dL_all_1 rfl (by decide) rfl ?_
  refine n_iconst (v := (0 : Int32)) C dL_all_2 (by decide) ?_
  refine n_istore_n (L' := [(3, .int (0 : Int32)), (1, .long (0 : Int64)), (0, .ref (ad 0))]) C dL_all_3 rfl (by decide) rfl ?_
  refine n_iload_n C 0 dL_all_4 rfl rfl ?_
  refine n_iconst (v := (5 : Int32)) C dL_all_5 (by decide) ?_
  refine n_icmp_ge_f (tgt := 28) C dL_all_6 (by decide) (by decide) ?_
  refine n_ldc2 (v := (31 : Int64)) C lq88 dL_all_9 ?_
  refine n_lload_n C 1 dL_all_12 rfl rfl ?_
  refine n_lmul C dL_all_13 ?_
  refine n_eqL (v := (0 : Int64)) (by decide) ?_
  refine n_aload_n C 2 dL_all_14 rfl rfl ?_
  refine n_iload_n C 0 dL_all_15 rfl rfl ?_
  refine n_callv (As := [.int (0 : Int32)]) (n := 1) C (c_Game_about l hl D cI cJ ad (0 : Int32)) zf_about_0 ⟨rfl, rfl⟩ gcl5 rfl lwv_about (hR := ⟨Nat.le_of_ble_eq_true rfl, Nat.le_of_ble_eq_true rfl⟩) rfl rfl (Nat.le_of_ble_eq_true rfl) dL_all_16 ⟨Nat.le_of_ble_eq_true rfl, Nat.le_of_ble_eq_true rfl⟩ ?_
  refine n_i2l (v := (0 : Int64)) C dL_all_19 (by decide) ?_
  refine n_ladd C dL_all_20 ?_
  refine n_eqL (v := (0 : Int64)) (by decide) ?_
  refine n_lstore_n (L' := [(1, .long (0 : Int64)), (3, .int (0 : Int32)), (0, .ref (ad 0))]) C dL_all_21 rfl (by decide) rfl ?_
  refine n_iinc (v := (1 : Int32)) (L' := [(3, .int (1 : Int32)), (1, .long (0 : Int64)), (0, .ref (ad 0))]) C 1 dL_all_22 rfl (by decide) (by decide) rfl ?_
  refine n_goto (tgt := 4) C dL_all_25 (by decide) ?_
  refine n_iload_n C 0 dL_all_4 rfl rfl ?_
  refine n_iconst (v := (5 : Int32)) C dL_all_5 (by decide) ?_
  refine n_icmp_ge_f (tgt := 28) C dL_all_6 (by decide) (by decide) ?_
  refine n_ldc2 (v := (31 : Int64)) C lq88 dL_all_9 ?_
  refine n_lload_n C 1 dL_all_12 rfl rfl ?_
  refine n_lmul C dL_all_13 ?_
  refine n_eqL (v := (0 : Int64)) (by decide) ?_
  refine n_aload_n C 2 dL_all_14 rfl rfl ?_
  refine n_iload_n C 0 dL_all_15 rfl rfl ?_
  refine n_callv (As := [.int (1 : Int32)]) (n := 1) C (c_Game_about l hl D cI cJ ad (1 : Int32)) zf_about_1 ⟨rfl, rfl⟩ gcl5 rfl lwv_about (hR := ⟨Nat.le_of_ble_eq_true rfl, Nat.le_of_ble_eq_true rfl⟩) rfl rfl (Nat.le_of_ble_eq_true rfl) dL_all_16 ⟨Nat.le_of_ble_eq_true rfl, Nat.le_of_ble_eq_true rfl⟩ ?_
  refine n_i2l (v := (0 : Int64)) C dL_all_19 (by decide) ?_
  refine n_ladd C dL_all_20 ?_
  refine n_eqL (v := (0 : Int64)) (by decide) ?_
  refine n_lstore_n (L' := [(1, .long (0 : Int64)), (3, .int (1 : Int32)), (0, .ref (ad 0))]) C dL_all_21 rfl (by decide) rfl ?_
  refine n_iinc (v := (2 : Int32)) (L' := [(3, .int (2 : Int32)), (1, .long (0 : Int64)), (0, .ref (ad 0))]) C 1 dL_all_22 rfl (by decide) (by decide) rfl ?_
  refine n_goto (tgt := 4) C dL_all_25 (by decide) ?_
  refine n_iload_n C 0 dL_all_4 rfl rfl ?_
  refine n_iconst (v := (5 : Int32)) C dL_all_5 (by decide) ?_
  refine n_icmp_ge_f (tgt := 28) C dL_all_6 (by decide) (by decide) ?_
  refine n_ldc2 (v := (31 : Int64)) C lq88 dL_all_9 ?_
  refine n_lload_n C 1 dL_all_12 rfl rfl ?_
  refine n_lmul C dL_all_13 ?_
  refine n_eqL (v := (0 : Int64)) (by decide) ?_
  refine n_aload_n C 2 dL_all_14 rfl rfl ?_
  refine n_iload_n C 0 dL_all_15 rfl rfl ?_
  refine n_callv (As := [.int (2 : Int32)]) (n := 1) C (c_Game_about l hl D cI cJ ad (2 : Int32)) zf_about_2 ⟨rfl, rfl⟩ gcl5 rfl lwv_about (hR := ⟨Nat.le_of_ble_eq_true rfl, Nat.le_of_ble_eq_true rfl⟩) rfl rfl (Nat.le_of_ble_eq_true rfl) dL_all_16 ⟨Nat.le_of_ble_eq_true rfl, Nat.le_of_ble_eq_true rfl⟩ ?_
  refine n_i2l (v := (-1 : Int64)) C dL_all_19 (by decide) ?_
  refine n_ladd C dL_all_20 ?_
  refine n_eqL (v := (-1 : Int64)) (by decide) ?_
  refine n_lstore_n (L' := [(1, .long (-1 : Int64)), (3, .int (2 : Int32)), (0, .ref (ad 0))]) C dL_all_21 rfl (by decide) rfl ?_
  refine n_iinc (v := (3 : Int32)) (L' := [(3, .int (3 : Int32)), (1, .long (-1 : Int64)), (0, .ref (ad 0))]) C 1 dL_all_22 rfl (by decide) (by decide) rfl ?_
  refine n_goto (tgt := 4) C dL_all_25 (by decide) ?_
  refine n_iload_n C 0 dL_all_4 rfl rfl ?_
  refine n_iconst (v := (5 : Int32)) C dL_all_5 (by decide) ?_
  refine n_icmp_ge_f (tgt := 28) C dL_all_6 (by decide) (by decide) ?_
  refine n_ldc2 (v := (31 : Int64)) C lq88 dL_all_9 ?_
  refine n_lload_n C 1 dL_all_12 rfl rfl ?_
  refine n_lmul C dL_all_13 ?_
  refine n_eqL (v := (-31 : Int64)) (by decide) ?_
  refine n_aload_n C 2 dL_all_14 rfl rfl ?_
  refine n_iload_n C 0 dL_all_15 rfl rfl ?_
  refine n_callv (As := [.int (3 : Int32)]) (n := 1) C (c_Game_about l hl D cI cJ ad (3 : Int32)) zf_about_3 ⟨rfl, rfl⟩ gcl5 rfl lwv_about (hR := ⟨Nat.le_of_ble_eq_true rfl, Nat.le_of_ble_eq_true rfl⟩) rfl rfl (Nat.le_of_ble_eq_true rfl) dL_all_16 ⟨Nat.le_of_ble_eq_true rfl, Nat.le_of_ble_eq_true rfl⟩ ?_
  refine n_i2l (v := (0 : Int64)) C dL_all_19 (by decide) ?_
  refine n_ladd C dL_all_20 ?_
  refine n_eqL (v := (-31 : Int64)) (by decide) ?_
  refine n_lstore_n (L' := [(1, .long (-31 : Int64)), (3, .int (3 : Int32)), (0, .ref (ad 0))]) C dL_all_21 rfl (by decide) rfl ?_
  refine n_iinc (v := (4 : Int32)) (L' := [(3, .int (4 : Int32)), (1, .long (-31 : Int64)), (0, .ref (ad 0))]) C 1 dL_all_22 rfl (by decide) (by decide) rfl ?_
  refine n_goto (tgt := 4) C dL_all_25 (by decide) ?_
  refine n_iload_n C 0 dL_all_4 rfl rfl ?_
  refine n_iconst (v := (5 : Int32)) C dL_all_5 (by decide) ?_
  refine n_icmp_ge_f (tgt := 28) C dL_all_6 (by decide) (by decide) ?_
  refine n_ldc2 (v := (31 : Int64)) C lq88 dL_all_9 ?_
  refine n_lload_n C 1 dL_all_12 rfl rfl ?_
  refine n_lmul C dL_all_13 ?_
  refine n_eqL (v := (-961 : Int64)) (by decide) ?_
  refine n_aload_n C 2 dL_all_14 rfl rfl ?_
  refine n_iload_n C 0 dL_all_15 rfl rfl ?_
  refine n_callv (As := [.int (4 : Int32)]) (n := 1) C (c_Game_about l hl D cI cJ ad (4 : Int32)) zf_about_4 ⟨rfl, rfl⟩ gcl5 rfl lwv_about (hR := ⟨Nat.le_of_ble_eq_true rfl, Nat.le_of_ble_eq_true rfl⟩) rfl rfl (Nat.le_of_ble_eq_true rfl) dL_all_16 ⟨Nat.le_of_ble_eq_true rfl, Nat.le_of_ble_eq_true rfl⟩ ?_
  refine n_i2l (v := (-1 : Int64)) C dL_all_19 (by decide) ?_
  refine n_ladd C dL_all_20 ?_
  refine n_eqL (v := (-962 : Int64)) (by decide) ?_
  refine n_lstore_n (L' := [(1, .long (-962 : Int64)), (3, .int (4 : Int32)), (0, .ref (ad 0))]) C dL_all_21 rfl (by decide) rfl ?_
  refine n_iinc (v := (5 : Int32)) (L' := [(3, .int (5 : Int32)), (1, .long (-962 : Int64)), (0, .ref (ad 0))]) C 1 dL_all_22 rfl (by decide) (by decide) rfl ?_
  refine n_goto (tgt := 4) C dL_all_25 (by decide) ?_
  refine n_iload_n C 0 dL_all_4 rfl rfl ?_
  refine n_iconst (v := (5 : Int32)) C dL_all_5 (by decide) ?_
  refine n_icmp_ge_t (tgt := 28) C dL_all_6 (by decide) (by decide) ?_
  refine n_iconst (v := (0 : Int32)) C dL_all_28 (by decide) ?_
  refine n_istore_n (L' := [(3, .int (0 : Int32)), (1, .long (-962 : Int64)), (0, .ref (ad 0))]) C dL_all_29 rfl (by decide) rfl ?_
  refine n_iload_n C 0 dL_all_30 rfl rfl ?_
  refine n_bipush (v := (12 : Int32)) C dL_all_31 (by decide) ?_
  refine n_icmp_ge_f (tgt := 64) C dL_all_33 (by decide) (by decide) ?_
  refine n_ldc2 (v := (31 : Int64)) C lq88 dL_all_36 ?_
  refine n_lload_n C 1 dL_all_39 rfl rfl ?_
  refine n_lmul C dL_all_40 ?_
  refine n_eqL (v := (-29822 : Int64)) (by decide) ?_
  refine n_aload_n C 2 dL_all_41 rfl rfl ?_
  refine n_iload_n C 0 dL_all_42 rfl rfl ?_
  refine n_bipush (v := (6 : Int32)) C dL_all_43 (by decide) ?_
  refine n_idiv C dL_all_45 (by decide) ?_
  refine n_eq (v := (0 : Int32)) (by decide) ?_
  refine n_iload_n C 0 dL_all_46 rfl rfl ?_
  refine n_bipush (v := (6 : Int32)) C dL_all_47 (by decide) ?_
  refine n_irem C dL_all_49 (by decide) ?_
  refine n_eq (v := (0 : Int32)) (by decide) ?_
  refine n_iconst (v := (1 : Int32)) C dL_all_50 (by decide) ?_
  refine n_iadd C dL_all_51 ?_
  refine n_eq (v := (1 : Int32)) (by decide) ?_
  refine n_callv (As := [.int (0 : Int32), .int (1 : Int32)]) (n := 2) C (c_Game_at l hl D cI cJ ad (0 : Int32) (1 : Int32)) zf_at_0_1 ⟨rfl, rfl⟩ gcl5 rfl lwv_at (hR := ⟨Nat.le_of_ble_eq_true rfl, Nat.le_of_ble_eq_true rfl⟩) rfl rfl (Nat.le_of_ble_eq_true rfl) dL_all_52 ⟨Nat.le_of_ble_eq_true rfl, Nat.le_of_ble_eq_true rfl⟩ ?_
  refine n_i2l (v := (-1 : Int64)) C dL_all_55 (by decide) ?_
  refine n_ladd C dL_all_56 ?_
  refine n_eqL (v := (-29823 : Int64)) (by decide) ?_
  refine n_lstore_n (L' := [(1, .long (-29823 : Int64)), (3, .int (0 : Int32)), (0, .ref (ad 0))]) C dL_all_57 rfl (by decide) rfl ?_
  refine n_iinc (v := (1 : Int32)) (L' := [(3, .int (1 : Int32)), (1, .long (-29823 : Int64)), (0, .ref (ad 0))]) C 1 dL_all_58 rfl (by decide) (by decide) rfl ?_
  refine n_goto (tgt := 30) C dL_all_61 (by decide) ?_
  refine n_iload_n C 0 dL_all_30 rfl rfl ?_
  refine n_bipush (v := (12 : Int32)) C dL_all_31 (by decide) ?_
  refine n_icmp_ge_f (tgt := 64) C dL_all_33 (by decide) (by decide) ?_
  refine n_ldc2 (v := (31 : Int64)) C lq88 dL_all_36 ?_
  refine n_lload_n C 1 dL_all_39 rfl rfl ?_
  refine n_lmul C dL_all_40 ?_
  refine n_eqL (v := (-924513 : Int64)) (by decide) ?_
  refine n_aload_n C 2 dL_all_41 rfl rfl ?_
  refine n_iload_n C 0 dL_all_42 rfl rfl ?_
  refine n_bipush (v := (6 : Int32)) C dL_all_43 (by decide) ?_
  refine n_idiv C dL_all_45 (by decide) ?_
  refine n_eq (v := (0 : Int32)) (by decide) ?_
  refine n_iload_n C 0 dL_all_46 rfl rfl ?_
  refine n_bipush (v := (6 : Int32)) C dL_all_47 (by decide) ?_
  refine n_irem C dL_all_49 (by decide) ?_
  refine n_eq (v := (1 : Int32)) (by decide) ?_
  refine n_iconst (v := (1 : Int32)) C dL_all_50 (by decide) ?_
  refine n_iadd C dL_all_51 ?_
  refine n_eq (v := (2 : Int32)) (by decide) ?_
  refine n_callv (As := [.int (0 : Int32), .int (2 : Int32)]) (n := 2) C (c_Game_at l hl D cI cJ ad (0 : Int32) (2 : Int32)) zf_at_0_2 ⟨rfl, rfl⟩ gcl5 rfl lwv_at (hR := ⟨Nat.le_of_ble_eq_true rfl, Nat.le_of_ble_eq_true rfl⟩) rfl rfl (Nat.le_of_ble_eq_true rfl) dL_all_52 ⟨Nat.le_of_ble_eq_true rfl, Nat.le_of_ble_eq_true rfl⟩ ?_
  refine n_i2l (v := (-1 : Int64)) C dL_all_55 (by decide) ?_
  refine n_ladd C dL_all_56 ?_
  refine n_eqL (v := (-924514 : Int64)) (by decide) ?_
  refine n_lstore_n (L' := [(1, .long (-924514 : Int64)), (3, .int (1 : Int32)), (0, .ref (ad 0))]) C dL_all_57 rfl (by decide) rfl ?_
  refine n_iinc (v := (2 : Int32)) (L' := [(3, .int (2 : Int32)), (1, .long (-924514 : Int64)), (0, .ref (ad 0))]) C 1 dL_all_58 rfl (by decide) (by decide) rfl ?_
  refine n_goto (tgt := 30) C dL_all_61 (by decide) ?_
  refine n_iload_n C 0 dL_all_30 rfl rfl ?_
  refine n_bipush (v := (12 : Int32)) C dL_all_31 (by decide) ?_
  refine n_icmp_ge_f (tgt := 64) C dL_all_33 (by decide) (by decide) ?_
  refine n_ldc2 (v := (31 : Int64)) C lq88 dL_all_36 ?_
  refine n_lload_n C 1 dL_all_39 rfl rfl ?_
  refine n_lmul C dL_all_40 ?_
  refine n_eqL (v := (-28659934 : Int64)) (by decide) ?_
  refine n_aload_n C 2 dL_all_41 rfl rfl ?_
  refine n_iload_n C 0 dL_all_42 rfl rfl ?_
  refine n_bipush (v := (6 : Int32)) C dL_all_43 (by decide) ?_
  refine n_idiv C dL_all_45 (by decide) ?_
  refine n_eq (v := (0 : Int32)) (by decide) ?_
  refine n_iload_n C 0 dL_all_46 rfl rfl ?_
  refine n_bipush (v := (6 : Int32)) C dL_all_47 (by decide) ?_
  refine n_irem C dL_all_49 (by decide) ?_
  refine n_eq (v := (2 : Int32)) (by decide) ?_
  refine n_iconst (v := (1 : Int32)) C dL_all_50 (by decide) ?_
  refine n_iadd C dL_all_51 ?_
  refine n_eq (v := (3 : Int32)) (by decide) ?_
  refine n_callv (As := [.int (0 : Int32), .int (3 : Int32)]) (n := 2) C (c_Game_at l hl D cI cJ ad (0 : Int32) (3 : Int32)) zf_at_0_3 ⟨rfl, rfl⟩ gcl5 rfl lwv_at (hR := ⟨Nat.le_of_ble_eq_true rfl, Nat.le_of_ble_eq_true rfl⟩) rfl rfl (Nat.le_of_ble_eq_true rfl) dL_all_52 ⟨Nat.le_of_ble_eq_true rfl, Nat.le_of_ble_eq_true rfl⟩ ?_
  refine n_i2l (v := (-1 : Int64)) C dL_all_55 (by decide) ?_
  refine n_ladd C dL_all_56 ?_
  refine n_eqL (v := (-28659935 : Int64)) (by decide) ?_
  refine n_lstore_n (L' := [(1, .long (-28659935 : Int64)), (3, .int (2 : Int32)), (0, .ref (ad 0))]) C dL_all_57 rfl (by decide) rfl ?_
  refine n_iinc (v := (3 : Int32)) (L' := [(3, .int (3 : Int32)), (1, .long (-28659935 : Int64)), (0, .ref (ad 0))]) C 1 dL_all_58 rfl (by decide) (by decide) rfl ?_
  refine n_goto (tgt := 30) C dL_all_61 (by decide) ?_
  refine n_iload_n C 0 dL_all_30 rfl rfl ?_
  refine n_bipush (v := (12 : Int32)) C dL_all_31 (by decide) ?_
  refine n_icmp_ge_f (tgt := 64) C dL_all_33 (by decide) (by decide) ?_
  refine n_ldc2 (v := (31 : Int64)) C lq88 dL_all_36 ?_
  refine n_lload_n C 1 dL_all_39 rfl rfl ?_
  refine n_lmul C dL_all_40 ?_
  refine n_eqL (v := (-888457985 : Int64)) (by decide) ?_
  refine n_aload_n C 2 dL_all_41 rfl rfl ?_
  refine n_iload_n C 0 dL_all_42 rfl rfl ?_
  refine n_bipush (v := (6 : Int32)) C dL_all_43 (by decide) ?_
  refine n_idiv C dL_all_45 (by decide) ?_
  refine n_eq (v := (0 : Int32)) (by decide) ?_
  refine n_iload_n C 0 dL_all_46 rfl rfl ?_
  refine n_bipush (v := (6 : Int32)) C dL_all_47 (by decide) ?_
  refine n_irem C dL_all_49 (by decide) ?_
  refine n_eq (v := (3 : Int32)) (by decide) ?_
  refine n_iconst (v := (1 : Int32)) C dL_all_50 (by decide) ?_
  refine n_iadd C dL_all_51 ?_
  refine n_eq (v := (4 : Int32)) (by decide) ?_
  refine n_callv (As := [.int (0 : Int32), .int (4 : Int32)]) (n := 2) C (c_Game_at l hl D cI cJ ad (0 : Int32) (4 : Int32)) zf_at_0_4 ⟨rfl, rfl⟩ gcl5 rfl lwv_at (hR := ⟨Nat.le_of_ble_eq_true rfl, Nat.le_of_ble_eq_true rfl⟩) rfl rfl (Nat.le_of_ble_eq_true rfl) dL_all_52 ⟨Nat.le_of_ble_eq_true rfl, Nat.le_of_ble_eq_true rfl⟩ ?_
  refine n_i2l (v := (-1 : Int64)) C dL_all_55 (by decide) ?_
  refine n_ladd C dL_all_56 ?_
  refine n_eqL (v := (-888457986 : Int64)) (by decide) ?_
  refine n_lstore_n (L' := [(1, .long (-888457986 : Int64)), (3, .int (3 : Int32)), (0, .ref (ad 0))]) C dL_all_57 rfl (by decide) rfl ?_
  refine n_iinc (v := (4 : Int32)) (L' := [(3, .int (4 : Int32)), (1, .long (-888457986 : Int64)), (0, .ref (ad 0))]) C 1 dL_all_58 rfl (by decide) (by decide) rfl ?_
  refine n_goto (tgt := 30) C dL_all_61 (by decide) ?_
  refine n_iload_n C 0 dL_all_30 rfl rfl ?_
  refine n_bipush (v := (12 : Int32)) C dL_all_31 (by decide) ?_
  refine n_icmp_ge_f (tgt := 64) C dL_all_33 (by decide) (by decide) ?_
  refine n_ldc2 (v := (31 : Int64)) C lq88 dL_all_36 ?_
  refine n_lload_n C 1 dL_all_39 rfl rfl ?_
  refine n_lmul C dL_all_40 ?_
  refine n_eqL (v := (-27542197566 : Int64)) (by decide) ?_
  refine n_aload_n C 2 dL_all_41 rfl rfl ?_
  refine n_iload_n C 0 dL_all_42 rfl rfl ?_
  refine n_bipush (v := (6 : Int32)) C dL_all_43 (by decide) ?_
  refine n_idiv C dL_all_45 (by decide) ?_
  refine n_eq (v := (0 : Int32)) (by decide) ?_
  refine n_iload_n C 0 dL_all_46 rfl rfl ?_
  refine n_bipush (v := (6 : Int32)) C dL_all_47 (by decide) ?_
  refine n_irem C dL_all_49 (by decide) ?_
  refine n_eq (v := (4 : Int32)) (by decide) ?_
  refine n_iconst (v := (1 : Int32)) C dL_all_50 (by decide) ?_
  refine n_iadd C dL_all_51 ?_
  refine n_eq (v := (5 : Int32)) (by decide) ?_
  refine n_callv (As := [.int (0 : Int32), .int (5 : Int32)]) (n := 2) C (c_Game_at l hl D cI cJ ad (0 : Int32) (5 : Int32)) zf_at_0_5 ⟨rfl, rfl⟩ gcl5 rfl lwv_at (hR := ⟨Nat.le_of_ble_eq_true rfl, Nat.le_of_ble_eq_true rfl⟩) rfl rfl (Nat.le_of_ble_eq_true rfl) dL_all_52 ⟨Nat.le_of_ble_eq_true rfl, Nat.le_of_ble_eq_true rfl⟩ ?_
  refine n_i2l (v := (-1 : Int64)) C dL_all_55 (by decide) ?_
  refine n_ladd C dL_all_56 ?_
  refine n_eqL (v := (-27542197567 : Int64)) (by decide) ?_
  refine n_lstore_n (L' := [(1, .long (-27542197567 : Int64)), (3, .int (4 : Int32)), (0, .ref (ad 0))]) C dL_all_57 rfl (by decide) rfl ?_
  refine n_iinc (v := (5 : Int32)) (L' := [(3, .int (5 : Int32)), (1, .long (-27542197567 : Int64)), (0, .ref (ad 0))]) C 1 dL_all_58 rfl (by decide) (by decide) rfl ?_
  refine n_goto (tgt := 30) C dL_all_61 (by decide) ?_
  refine n_iload_n C 0 dL_all_30 rfl rfl ?_
  refine n_bipush (v := (12 : Int32)) C dL_all_31 (by decide) ?_
  refine n_icmp_ge_f (tgt := 64) C dL_all_33 (by decide) (by decide) ?_
  refine n_ldc2 (v := (31 : Int64)) C lq88 dL_all_36 ?_
  refine n_lload_n C 1 dL_all_39 rfl rfl ?_
  refine n_lmul C dL_all_40 ?_
  refine n_eqL (v := (-853808124577 : Int64)) (by decide) ?_
  refine n_aload_n C 2 dL_all_41 rfl rfl ?_
  refine n_iload_n C 0 dL_all_42 rfl rfl ?_
  refine n_bipush (v := (6 : Int32)) C dL_all_43 (by decide) ?_
  refine n_idiv C dL_all_45 (by decide) ?_
  refine n_eq (v := (0 : Int32)) (by decide) ?_
  refine n_iload_n C 0 dL_all_46 rfl rfl ?_
  refine n_bipush (v := (6 : Int32)) C dL_all_47 (by decide) ?_
  refine n_irem C dL_all_49 (by decide) ?_
  refine n_eq (v := (5 : Int32)) (by decide) ?_
  refine n_iconst (v := (1 : Int32)) C dL_all_50 (by decide) ?_
  refine n_iadd C dL_all_51 ?_
  refine n_eq (v := (6 : Int32)) (by decide) ?_
  refine n_callv (As := [.int (0 : Int32), .int (6 : Int32)]) (n := 2) C (c_Game_at l hl D cI cJ ad (0 : Int32) (6 : Int32)) zf_at_0_6 ⟨rfl, rfl⟩ gcl5 rfl lwv_at (hR := ⟨Nat.le_of_ble_eq_true rfl, Nat.le_of_ble_eq_true rfl⟩) rfl rfl (Nat.le_of_ble_eq_true rfl) dL_all_52 ⟨Nat.le_of_ble_eq_true rfl, Nat.le_of_ble_eq_true rfl⟩ ?_
  refine n_i2l (v := (-1 : Int64)) C dL_all_55 (by decide) ?_
  refine n_ladd C dL_all_56 ?_
  refine n_eqL (v := (-853808124578 : Int64)) (by decide) ?_
  refine n_lstore_n (L' := [(1, .long (-853808124578 : Int64)), (3, .int (5 : Int32)), (0, .ref (ad 0))]) C dL_all_57 rfl (by decide) rfl ?_
  refine n_iinc (v := (6 : Int32)) (L' := [(3, .int (6 : Int32)), (1, .long (-853808124578 : Int64)), (0, .ref (ad 0))]) C 1 dL_all_58 rfl (by decide) (by decide) rfl ?_
  refine n_goto (tgt := 30) C dL_all_61 (by decide) ?_
  refine n_iload_n C 0 dL_all_30 rfl rfl ?_
  refine n_bipush (v := (12 : Int32)) C dL_all_31 (by decide) ?_
  refine n_icmp_ge_f (tgt := 64) C dL_all_33 (by decide) (by decide) ?_
  refine n_ldc2 (v := (31 : Int64)) C lq88 dL_all_36 ?_
  refine n_lload_n C 1 dL_all_39 rfl rfl ?_
  refine n_lmul C dL_all_40 ?_
  refine n_eqL (v := (-26468051861918 : Int64)) (by decide) ?_
  refine n_aload_n C 2 dL_all_41 rfl rfl ?_
  refine n_iload_n C 0 dL_all_42 rfl rfl ?_
  refine n_bipush (v := (6 : Int32)) C dL_all_43 (by decide) ?_
  refine n_idiv C dL_all_45 (by decide) ?_
  refine n_eq (v := (1 : Int32)) (by decide) ?_
  refine n_iload_n C 0 dL_all_46 rfl rfl ?_
  refine n_bipush (v := (6 : Int32)) C dL_all_47 (by decide) ?_
  refine n_irem C dL_all_49 (by decide) ?_
  refine n_eq (v := (0 : Int32)) (by decide) ?_
  refine n_iconst (v := (1 : Int32)) C dL_all_50 (by decide) ?_
  refine n_iadd C dL_all_51 ?_
  refine n_eq (v := (1 : Int32)) (by decide) ?_
  refine n_callv (As := [.int (1 : Int32), .int (1 : Int32)]) (n := 2) C (c_Game_at l hl D cI cJ ad (1 : Int32) (1 : Int32)) zf_at_1_1 ⟨rfl, rfl⟩ gcl5 rfl lwv_at (hR := ⟨Nat.le_of_ble_eq_true rfl, Nat.le_of_ble_eq_true rfl⟩) rfl rfl (Nat.le_of_ble_eq_true rfl) dL_all_52 ⟨Nat.le_of_ble_eq_true rfl, Nat.le_of_ble_eq_true rfl⟩ ?_
  refine n_i2l (v := (-1 : Int64)) C dL_all_55 (by decide) ?_
  refine n_ladd C dL_all_56 ?_
  refine n_eqL (v := (-26468051861919 : Int64)) (by decide) ?_
  refine n_lstore_n (L' := [(1, .long (-26468051861919 : Int64)), (3, .int (6 : Int32)), (0, .ref (ad 0))]) C dL_all_57 rfl (by decide) rfl ?_
  refine n_iinc (v := (7 : Int32)) (L' := [(3, .int (7 : Int32)), (1, .long (-26468051861919 : Int64)), (0, .ref (ad 0))]) C 1 dL_all_58 rfl (by decide) (by decide) rfl ?_
  refine n_goto (tgt := 30) C dL_all_61 (by decide) ?_
  refine n_iload_n C 0 dL_all_30 rfl rfl ?_
  refine n_bipush (v := (12 : Int32)) C dL_all_31 (by decide) ?_
  refine n_icmp_ge_f (tgt := 64) C dL_all_33 (by decide) (by decide) ?_
  refine n_ldc2 (v := (31 : Int64)) C lq88 dL_all_36 ?_
  refine n_lload_n C 1 dL_all_39 rfl rfl ?_
  refine n_lmul C dL_all_40 ?_
  refine n_eqL (v := (-820509607719489 : Int64)) (by decide) ?_
  refine n_aload_n C 2 dL_all_41 rfl rfl ?_
  refine n_iload_n C 0 dL_all_42 rfl rfl ?_
  refine n_bipush (v := (6 : Int32)) C dL_all_43 (by decide) ?_
  refine n_idiv C dL_all_45 (by decide) ?_
  refine n_eq (v := (1 : Int32)) (by decide) ?_
  refine n_iload_n C 0 dL_all_46 rfl rfl ?_
  refine n_bipush (v := (6 : Int32)) C dL_all_47 (by decide) ?_
  refine n_irem C dL_all_49 (by decide) ?_
  refine n_eq (v := (1 : Int32)) (by decide) ?_
  refine n_iconst (v := (1 : Int32)) C dL_all_50 (by decide) ?_
  refine n_iadd C dL_all_51 ?_
  refine n_eq (v := (2 : Int32)) (by decide) ?_
  refine n_callv (As := [.int (1 : Int32), .int (2 : Int32)]) (n := 2) C (c_Game_at l hl D cI cJ ad (1 : Int32) (2 : Int32)) zf_at_1_2 ⟨rfl, rfl⟩ gcl5 rfl lwv_at (hR := ⟨Nat.le_of_ble_eq_true rfl, Nat.le_of_ble_eq_true rfl⟩) rfl rfl (Nat.le_of_ble_eq_true rfl) dL_all_52 ⟨Nat.le_of_ble_eq_true rfl, Nat.le_of_ble_eq_true rfl⟩ ?_
  refine n_i2l (v := (-1 : Int64)) C dL_all_55 (by decide) ?_
  refine n_ladd C dL_all_56 ?_
  refine n_eqL (v := (-820509607719490 : Int64)) (by decide) ?_
  refine n_lstore_n (L' := [(1, .long (-820509607719490 : Int64)), (3, .int (7 : Int32)), (0, .ref (ad 0))]) C dL_all_57 rfl (by decide) rfl ?_
  refine n_iinc (v := (8 : Int32)) (L' := [(3, .int (8 : Int32)), (1, .long (-820509607719490 : Int64)), (0, .ref (ad 0))]) C 1 dL_all_58 rfl (by decide) (by decide) rfl ?_
  refine n_goto (tgt := 30) C dL_all_61 (by decide) ?_
  refine n_iload_n C 0 dL_all_30 rfl rfl ?_
  refine n_bipush (v := (12 : Int32)) C dL_all_31 (by decide) ?_
  refine n_icmp_ge_f (tgt := 64) C dL_all_33 (by decide) (by decide) ?_
  refine n_ldc2 (v := (31 : Int64)) C lq88 dL_all_36 ?_
  refine n_lload_n C 1 dL_all_39 rfl rfl ?_
  refine n_lmul C dL_all_40 ?_
  refine n_eqL (v := (-25435797839304190 : Int64)) (by decide) ?_
  refine n_aload_n C 2 dL_all_41 rfl rfl ?_
  refine n_iload_n C 0 dL_all_42 rfl rfl ?_
  refine n_bipush (v := (6 : Int32)) C dL_all_43 (by decide) ?_
  refine n_idiv C dL_all_45 (by decide) ?_
  refine n_eq (v := (1 : Int32)) (by decide) ?_
  refine n_iload_n C 0 dL_all_46 rfl rfl ?_
  refine n_bipush (v := (6 : Int32)) C dL_all_47 (by decide) ?_
  refine n_irem C dL_all_49 (by decide) ?_
  refine n_eq (v := (2 : Int32)) (by decide) ?_
  refine n_iconst (v := (1 : Int32)) C dL_all_50 (by decide) ?_
  refine n_iadd C dL_all_51 ?_
  refine n_eq (v := (3 : Int32)) (by decide) ?_
  refine n_callv (As := [.int (1 : Int32), .int (3 : Int32)]) (n := 2) C (c_Game_at l hl D cI cJ ad (1 : Int32) (3 : Int32)) zf_at_1_3 ⟨rfl, rfl⟩ gcl5 rfl lwv_at (hR := ⟨Nat.le_of_ble_eq_true rfl, Nat.le_of_ble_eq_true rfl⟩) rfl rfl (Nat.le_of_ble_eq_true rfl) dL_all_52 ⟨Nat.le_of_ble_eq_true rfl, Nat.le_of_ble_eq_true rfl⟩ ?_
  refine n_i2l (v := (-1 : Int64)) C dL_all_55 (by decide) ?_
  refine n_ladd C dL_all_56 ?_
  refine n_eqL (v := (-25435797839304191 : Int64)) (by decide) ?_
  refine n_lstore_n (L' := [(1, .long (-25435797839304191 : Int64)), (3, .int (8 : Int32)), (0, .ref (ad 0))]) C dL_all_57 rfl (by decide) rfl ?_
  refine n_iinc (v := (9 : Int32)) (L' := [(3, .int (9 : Int32)), (1, .long (-25435797839304191 : Int64)), (0, .ref (ad 0))]) C 1 dL_all_58 rfl (by decide) (by decide) rfl ?_
  refine n_goto (tgt := 30) C dL_all_61 (by decide) ?_
  refine n_iload_n C 0 dL_all_30 rfl rfl ?_
  refine n_bipush (v := (12 : Int32)) C dL_all_31 (by decide) ?_
  refine n_icmp_ge_f (tgt := 64) C dL_all_33 (by decide) (by decide) ?_
  refine n_ldc2 (v := (31 : Int64)) C lq88 dL_all_36 ?_
  refine n_lload_n C 1 dL_all_39 rfl rfl ?_
  refine n_lmul C dL_all_40 ?_
  refine n_eqL (v := (-788509733018429921 : Int64)) (by decide) ?_
  refine n_aload_n C 2 dL_all_41 rfl rfl ?_
  refine n_iload_n C 0 dL_all_42 rfl rfl ?_
  refine n_bipush (v := (6 : Int32)) C dL_all_43 (by decide) ?_
  refine n_idiv C dL_all_45 (by decide) ?_
  refine n_eq (v := (1 : Int32)) (by decide) ?_
  refine n_iload_n C 0 dL_all_46 rfl rfl ?_
  refine n_bipush (v := (6 : Int32)) C dL_all_47 (by decide) ?_
  refine n_irem C dL_all_49 (by decide) ?_
  refine n_eq (v := (3 : Int32)) (by decide) ?_
  refine n_iconst (v := (1 : Int32)) C dL_all_50 (by decide) ?_
  refine n_iadd C dL_all_51 ?_
  refine n_eq (v := (4 : Int32)) (by decide) ?_
  refine n_callv (As := [.int (1 : Int32), .int (4 : Int32)]) (n := 2) C (c_Game_at l hl D cI cJ ad (1 : Int32) (4 : Int32)) zf_at_1_4 ⟨rfl, rfl⟩ gcl5 rfl lwv_at (hR := ⟨Nat.le_of_ble_eq_true rfl, Nat.le_of_ble_eq_true rfl⟩) rfl rfl (Nat.le_of_ble_eq_true rfl) dL_all_52 ⟨Nat.le_of_ble_eq_true rfl, Nat.le_of_ble_eq_true rfl⟩ ?_
  refine n_i2l (v := (-1 : Int64)) C dL_all_55 (by decide) ?_
  refine n_ladd C dL_all_56 ?_
  refine n_eqL (v := (-788509733018429922 : Int64)) (by decide) ?_
  refine n_lstore_n (L' := [(1, .long (-788509733018429922 : Int64)), (3, .int (9 : Int32)), (0, .ref (ad 0))]) C dL_all_57 rfl (by decide) rfl ?_
  refine n_iinc (v := (10 : Int32)) (L' := [(3, .int (10 : Int32)), (1, .long (-788509733018429922 : Int64)), (0, .ref (ad 0))]) C 1 dL_all_58 rfl (by decide) (by decide) rfl ?_
  refine n_goto (tgt := 30) C dL_all_61 (by decide) ?_
  refine n_iload_n C 0 dL_all_30 rfl rfl ?_
  refine n_bipush (v := (12 : Int32)) C dL_all_31 (by decide) ?_
  refine n_icmp_ge_f (tgt := 64) C dL_all_33 (by decide) (by decide) ?_
  refine n_ldc2 (v := (31 : Int64)) C lq88 dL_all_36 ?_
  refine n_lload_n C 1 dL_all_39 rfl rfl ?_
  refine n_lmul C dL_all_40 ?_
  refine n_eqL (v := (-5997057649861775966 : Int64)) (by decide) ?_
  refine n_aload_n C 2 dL_all_41 rfl rfl ?_
  refine n_iload_n C 0 dL_all_42 rfl rfl ?_
  refine n_bipush (v := (6 : Int32)) C dL_all_43 (by decide) ?_
  refine n_idiv C dL_all_45 (by decide) ?_
  refine n_eq (v := (1 : Int32)) (by decide) ?_
  refine n_iload_n C 0 dL_all_46 rfl rfl ?_
  refine n_bipush (v := (6 : Int32)) C dL_all_47 (by decide) ?_
  refine n_irem C dL_all_49 (by decide) ?_
  refine n_eq (v := (4 : Int32)) (by decide) ?_
  refine n_iconst (v := (1 : Int32)) C dL_all_50 (by decide) ?_
  refine n_iadd C dL_all_51 ?_
  refine n_eq (v := (5 : Int32)) (by decide) ?_
  refine n_callv (As := [.int (1 : Int32), .int (5 : Int32)]) (n := 2) C (c_Game_at l hl D cI cJ ad (1 : Int32) (5 : Int32)) zf_at_1_5 ⟨rfl, rfl⟩ gcl5 rfl lwv_at (hR := ⟨Nat.le_of_ble_eq_true rfl, Nat.le_of_ble_eq_true rfl⟩) rfl rfl (Nat.le_of_ble_eq_true rfl) dL_all_52 ⟨Nat.le_of_ble_eq_true rfl, Nat.le_of_ble_eq_true rfl⟩ ?_
  refine n_i2l (v := (-1 : Int64)) C dL_all_55 (by decide) ?_
  refine n_ladd C dL_all_56 ?_
  refine n_eqL (v := (-5997057649861775967 : Int64)) (by decide) ?_
  refine n_lstore_n (L' := [(1, .long (-5997057649861775967 : Int64)), (3, .int (10 : Int32)), (0, .ref (ad 0))]) C dL_all_57 rfl (by decide) rfl ?_
  refine n_iinc (v := (11 : Int32)) (L' := [(3, .int (11 : Int32)), (1, .long (-5997057649861775967 : Int64)), (0, .ref (ad 0))]) C 1 dL_all_58 rfl (by decide) (by decide) rfl ?_
  refine n_goto (tgt := 30) C dL_all_61 (by decide) ?_
  refine n_iload_n C 0 dL_all_30 rfl rfl ?_
  refine n_bipush (v := (12 : Int32)) C dL_all_31 (by decide) ?_
  refine n_icmp_ge_f (tgt := 64) C dL_all_33 (by decide) (by decide) ?_
  refine n_ldc2 (v := (31 : Int64)) C lq88 dL_all_36 ?_
  refine n_lload_n C 1 dL_all_39 rfl rfl ?_
  refine n_lmul C dL_all_40 ?_
  refine n_eqL (v := (-1441346408619538817 : Int64)) (by decide) ?_
  refine n_aload_n C 2 dL_all_41 rfl rfl ?_
  refine n_iload_n C 0 dL_all_42 rfl rfl ?_
  refine n_bipush (v := (6 : Int32)) C dL_all_43 (by decide) ?_
  refine n_idiv C dL_all_45 (by decide) ?_
  refine n_eq (v := (1 : Int32)) (by decide) ?_
  refine n_iload_n C 0 dL_all_46 rfl rfl ?_
  refine n_bipush (v := (6 : Int32)) C dL_all_47 (by decide) ?_
  refine n_irem C dL_all_49 (by decide) ?_
  refine n_eq (v := (5 : Int32)) (by decide) ?_
  refine n_iconst (v := (1 : Int32)) C dL_all_50 (by decide) ?_
  refine n_iadd C dL_all_51 ?_
  refine n_eq (v := (6 : Int32)) (by decide) ?_
  refine n_callv (As := [.int (1 : Int32), .int (6 : Int32)]) (n := 2) C (c_Game_at l hl D cI cJ ad (1 : Int32) (6 : Int32)) zf_at_1_6 ⟨rfl, rfl⟩ gcl5 rfl lwv_at (hR := ⟨Nat.le_of_ble_eq_true rfl, Nat.le_of_ble_eq_true rfl⟩) rfl rfl (Nat.le_of_ble_eq_true rfl) dL_all_52 ⟨Nat.le_of_ble_eq_true rfl, Nat.le_of_ble_eq_true rfl⟩ ?_
  refine n_i2l (v := (-1 : Int64)) C dL_all_55 (by decide) ?_
  refine n_ladd C dL_all_56 ?_
  refine n_eqL (v := (-1441346408619538818 : Int64)) (by decide) ?_
  refine n_lstore_n (L' := [(1, .long (-1441346408619538818 : Int64)), (3, .int (11 : Int32)), (0, .ref (ad 0))]) C dL_all_57 rfl (by decide) rfl ?_
  refine n_iinc (v := (12 : Int32)) (L' := [(3, .int (12 : Int32)), (1, .long (-1441346408619538818 : Int64)), (0, .ref (ad 0))]) C 1 dL_all_58 rfl (by decide) (by decide) rfl ?_
  refine n_goto (tgt := 30) C dL_all_61 (by decide) ?_
  refine n_iload_n C 0 dL_all_30 rfl rfl ?_
  refine n_bipush (v := (12 : Int32)) C dL_all_31 (by decide) ?_
  refine n_icmp_ge_t (tgt := 64) C dL_all_33 (by decide) (by decide) ?_
  refine n_iconst (v := (0 : Int32)) C dL_all_64 (by decide) ?_
  refine n_istore_n (L' := [(3, .int (0 : Int32)), (1, .long (-1441346408619538818 : Int64)), (0, .ref (ad 0))]) C dL_all_65 rfl (by decide) rfl ?_
  refine n_iload_n C 0 dL_all_66 rfl rfl ?_
  refine n_iconst (v := (2 : Int32)) C dL_all_67 (by decide) ?_
  refine n_icmp_ge_f (tgt := 121) C dL_all_68 (by decide) (by decide) ?_
  refine n_ldc2 (v := (31 : Int64)) C lq88 dL_all_71 ?_
  refine n_lload_n C 1 dL_all_74 rfl rfl ?_
  refine n_lmul C dL_all_75 ?_
  refine n_eqL (v := (-7788250519786600126 : Int64)) (by decide) ?_
  refine n_aload_n C 2 dL_all_76 rfl rfl ?_
  refine n_iload_n C 0 dL_all_77 rfl rfl ?_
  refine n_callv (As := [.int (0 : Int32)]) (n := 1) C (c_Game_points l hl D cI cJ ad (0 : Int32)) zf_points_0 ⟨rfl, rfl⟩ gcl5 rfl lwv_points (hR := ⟨Nat.le_of_ble_eq_true rfl, Nat.le_of_ble_eq_true rfl⟩) rfl rfl (Nat.le_of_ble_eq_true rfl) dL_all_78 ⟨Nat.le_of_ble_eq_true rfl, Nat.le_of_ble_eq_true rfl⟩ ?_
  refine n_i2l (v := (0 : Int64)) C dL_all_81 (by decide) ?_
  refine n_ladd C dL_all_82 ?_
  refine n_eqL (v := (-7788250519786600126 : Int64)) (by decide) ?_
  refine n_ldc2 (v := (7 : Int64)) C lq89 dL_all_83 ?_
  refine n_aload_n C 2 dL_all_86 rfl rfl ?_
  refine n_iload_n C 0 dL_all_87 rfl rfl ?_
  refine n_callv (As := [.int (0 : Int32)]) (n := 1) C (c_Game_sets l hl D cI cJ ad (0 : Int32)) zf_sets_0 ⟨rfl, rfl⟩ gcl5 rfl lwv_sets (hR := ⟨Nat.le_of_ble_eq_true rfl, Nat.le_of_ble_eq_true rfl⟩) rfl rfl (Nat.le_of_ble_eq_true rfl) dL_all_88 ⟨Nat.le_of_ble_eq_true rfl, Nat.le_of_ble_eq_true rfl⟩ ?_
  refine n_i2l (v := (0 : Int64)) C dL_all_91 (by decide) ?_
  refine n_lmul C dL_all_92 ?_
  refine n_eqL (v := (0 : Int64)) (by decide) ?_
  refine n_ladd C dL_all_93 ?_
  refine n_eqL (v := (-7788250519786600126 : Int64)) (by decide) ?_
  refine n_ldc2 (v := (3 : Int64)) C lq90 dL_all_94 ?_
  refine n_aload_n C 2 dL_all_97 rfl rfl ?_
  refine n_iload_n C 0 dL_all_98 rfl rfl ?_
  refine n_iconst (v := (0 : Int32)) C dL_all_99 (by decide) ?_
  refine n_callv (As := [.int (0 : Int32), .int (0 : Int32)]) (n := 2) C (c_Game_of l hl D cI cJ ad (0 : Int32) (0 : Int32)) zf_of_0_0 ⟨rfl, rfl⟩ gcl5 rfl lwv_of (hR := ⟨Nat.le_of_ble_eq_true rfl, Nat.le_of_ble_eq_true rfl⟩) rfl rfl (Nat.le_of_ble_eq_true rfl) dL_all_100 ⟨Nat.le_of_ble_eq_true rfl, Nat.le_of_ble_eq_true rfl⟩ ?_
  refine n_i2l (v := (0 : Int64)) C dL_all_103 (by decide) ?_
  refine n_lmul C dL_all_104 ?_
  refine n_eqL (v := (0 : Int64)) (by decide) ?_
  refine n_ladd C dL_all_105 ?_
  refine n_eqL (v := (-7788250519786600126 : Int64)) (by decide) ?_
  refine n_aload_n C 2 dL_all_106 rfl rfl ?_
  refine n_iload_n C 0 dL_all_107 rfl rfl ?_
  refine n_iconst (v := (1 : Int32)) C dL_all_108 (by decide) ?_
  refine n_callv (As := [.int (0 : Int32), .int (1 : Int32)]) (n := 2) C (c_Game_of l hl D cI cJ ad (0 : Int32) (1 : Int32)) zf_of_0_1 ⟨rfl, rfl⟩ gcl5 rfl lwv_of (hR := ⟨Nat.le_of_ble_eq_true rfl, Nat.le_of_ble_eq_true rfl⟩) rfl rfl (Nat.le_of_ble_eq_true rfl) dL_all_109 ⟨Nat.le_of_ble_eq_true rfl, Nat.le_of_ble_eq_true rfl⟩ ?_
  refine n_i2l (v := (2 : Int64)) C dL_all_112 (by decide) ?_
  refine n_ladd C dL_all_113 ?_
  refine n_eqL (v := (-7788250519786600124 : Int64)) (by decide) ?_
  refine n_lstore_n (L' := [(1, .long (-7788250519786600124 : Int64)), (3, .int (0 : Int32)), (0, .ref (ad 0))]) C dL_all_114 rfl (by decide) rfl ?_
  refine n_iinc (v := (1 : Int32)) (L' := [(3, .int (1 : Int32)), (1, .long (-7788250519786600124 : Int64)), (0, .ref (ad 0))]) C 1 dL_all_115 rfl (by decide) (by decide) rfl ?_
  refine n_goto (tgt := 66) C dL_all_118 (by decide) ?_
  refine n_iload_n C 0 dL_all_66 rfl rfl ?_
  refine n_iconst (v := (2 : Int32)) C dL_all_67 (by decide) ?_
  refine n_icmp_ge_f (tgt := 121) C dL_all_68 (by decide) (by decide) ?_
  refine n_ldc2 (v := (31 : Int64)) C lq88 dL_all_71 ?_
  refine n_lload_n C 1 dL_all_74 rfl rfl ?_
  refine n_lmul C dL_all_75 ?_
  refine n_eqL (v := (-1628093155160432836 : Int64)) (by decide) ?_
  refine n_aload_n C 2 dL_all_76 rfl rfl ?_
  refine n_iload_n C 0 dL_all_77 rfl rfl ?_
  refine n_callv (As := [.int (1 : Int32)]) (n := 1) C (c_Game_points l hl D cI cJ ad (1 : Int32)) zf_points_1 ⟨rfl, rfl⟩ gcl5 rfl lwv_points (hR := ⟨Nat.le_of_ble_eq_true rfl, Nat.le_of_ble_eq_true rfl⟩) rfl rfl (Nat.le_of_ble_eq_true rfl) dL_all_78 ⟨Nat.le_of_ble_eq_true rfl, Nat.le_of_ble_eq_true rfl⟩ ?_
  refine n_i2l (v := (0 : Int64)) C dL_all_81 (by decide) ?_
  refine n_ladd C dL_all_82 ?_
  refine n_eqL (v := (-1628093155160432836 : Int64)) (by decide) ?_
  refine n_ldc2 (v := (7 : Int64)) C lq89 dL_all_83 ?_
  refine n_aload_n C 2 dL_all_86 rfl rfl ?_
  refine n_iload_n C 0 dL_all_87 rfl rfl ?_
  refine n_callv (As := [.int (1 : Int32)]) (n := 1) C (c_Game_sets l hl D cI cJ ad (1 : Int32)) zf_sets_1 ⟨rfl, rfl⟩ gcl5 rfl lwv_sets (hR := ⟨Nat.le_of_ble_eq_true rfl, Nat.le_of_ble_eq_true rfl⟩) rfl rfl (Nat.le_of_ble_eq_true rfl) dL_all_88 ⟨Nat.le_of_ble_eq_true rfl, Nat.le_of_ble_eq_true rfl⟩ ?_
  refine n_i2l (v := (0 : Int64)) C dL_all_91 (by decide) ?_
  refine n_lmul C dL_all_92 ?_
  refine n_eqL (v := (0 : Int64)) (by decide) ?_
  refine n_ladd C dL_all_93 ?_
  refine n_eqL (v := (-1628093155160432836 : Int64)) (by decide) ?_
  refine n_ldc2 (v := (3 : Int64)) C lq90 dL_all_94 ?_
  refine n_aload_n C 2 dL_all_97 rfl rfl ?_
  refine n_iload_n C 0 dL_all_98 rfl rfl ?_
  refine n_iconst (v := (0 : Int32)) C dL_all_99 (by decide) ?_
  refine n_callv (As := [.int (1 : Int32), .int (0 : Int32)]) (n := 2) C (c_Game_of l hl D cI cJ ad (1 : Int32) (0 : Int32)) zf_of_1_0 ⟨rfl, rfl⟩ gcl5 rfl lwv_of (hR := ⟨Nat.le_of_ble_eq_true rfl, Nat.le_of_ble_eq_true rfl⟩) rfl rfl (Nat.le_of_ble_eq_true rfl) dL_all_100 ⟨Nat.le_of_ble_eq_true rfl, Nat.le_of_ble_eq_true rfl⟩ ?_
  refine n_i2l (v := (0 : Int64)) C dL_all_103 (by decide) ?_
  refine n_lmul C dL_all_104 ?_
  refine n_eqL (v := (0 : Int64)) (by decide) ?_
  refine n_ladd C dL_all_105 ?_
  refine n_eqL (v := (-1628093155160432836 : Int64)) (by decide) ?_
  refine n_aload_n C 2 dL_all_106 rfl rfl ?_
  refine n_iload_n C 0 dL_all_107 rfl rfl ?_
  refine n_iconst (v := (1 : Int32)) C dL_all_108 (by decide) ?_
  refine n_callv (As := [.int (1 : Int32), .int (1 : Int32)]) (n := 2) C (c_Game_of l hl D cI cJ ad (1 : Int32) (1 : Int32)) zf_of_1_1 ⟨rfl, rfl⟩ gcl5 rfl lwv_of (hR := ⟨Nat.le_of_ble_eq_true rfl, Nat.le_of_ble_eq_true rfl⟩) rfl rfl (Nat.le_of_ble_eq_true rfl) dL_all_109 ⟨Nat.le_of_ble_eq_true rfl, Nat.le_of_ble_eq_true rfl⟩ ?_
  refine n_i2l (v := (2 : Int64)) C dL_all_112 (by decide) ?_
  refine n_ladd C dL_all_113 ?_
  refine n_eqL (v := (-1628093155160432834 : Int64)) (by decide) ?_
  refine n_lstore_n (L' := [(1, .long (-1628093155160432834 : Int64)), (3, .int (1 : Int32)), (0, .ref (ad 0))]) C dL_all_114 rfl (by decide) rfl ?_
  refine n_iinc (v := (2 : Int32)) (L' := [(3, .int (2 : Int32)), (1, .long (-1628093155160432834 : Int64)), (0, .ref (ad 0))]) C 1 dL_all_115 rfl (by decide) (by decide) rfl ?_
  refine n_goto (tgt := 66) C dL_all_118 (by decide) ?_
  refine n_iload_n C 0 dL_all_66 rfl rfl ?_
  refine n_iconst (v := (2 : Int32)) C dL_all_67 (by decide) ?_
  refine n_icmp_ge_t (tgt := 121) C dL_all_68 (by decide) (by decide) ?_
  refine n_lload_n C 1 dL_all_121 rfl rfl ?_
  exact n_retl C hr dL_all_122 (Nat.le_of_ble_eq_true rfl) (Nat.le_of_ble_eq_true rfl) (Nat.le_of_ble_eq_true rfl)
