set_option maxHeartbeats 4000000 in
set_option maxRecDepth 100000 in
theorem w_areSound (l : Launch) (hl : l.stackTraces = false) (D : va_G) (cI cJ : ClassId) (ad : Nat → Nat) : nMi l D cI cJ ad yL_areSound cL_areSound 15 (some .boolean) { frames := 8, cells := 1, slots := 6, locals := 180 } [.ref (ad 0), .ref (ad 28), .int (0 : Int32)] nS0 (1 : Int32) 1 6 0 := by
  refine nStart (Qc := fun sz => nQi D cI cJ ad nS0 (1 : Int32) 0 sz) (L0 := [(0, .ref (ad 0)), (1, .ref (ad 28)), (2, .int (0 : Int32))]) RL (by decide) rfl rfl (Nat.le_of_ble_eq_true rfl) ?_
  intro p e s m args below meth c C hr
  refine n_aload_n C 0 dL_areSound_0 rfl rfl ?_
  refine n_iconst (v := (0 : Int32)) C dL_areSound_1 (by decide) ?_
  refine n_callv (As := [.int (0 : Int32)]) (n := 1) C (c_Game_about l hl D cI cJ ad (0 : Int32)) zf_about_0 ⟨rfl, rfl⟩ gcl5 rfl lwv_about (hR := ⟨Nat.le_of_ble_eq_true rfl, Nat.le_of_ble_eq_true rfl⟩) rfl rfl (Nat.le_of_ble_eq_true rfl) dL_areSound_2 ⟨Nat.le_of_ble_eq_true rfl, Nat.le_of_ble_eq_true rfl⟩ ?_
  refine n_iconst (v := (1 : Int32)) C dL_areSound_5 (by decide) ?_
  refine n_icmp_ne_f (tgt := 13) C dL_areSound_6 (by decide) (by decide) ?_
  refine n_iconst (v := (0 : Int32)) C dL_areSound_13 (by decide) ?_
  refine n_istore_n (L' := [(3, .int (0 : Int32)), (0, .ref (ad 0)), (1, .ref (ad 28)), (2, .int (0 : Int32))]) C dL_areSound_14 rfl (by decide) rfl ?_
  refine n_aload_n C 1 dL_areSound_15 rfl rfl ?_
  refine n_iconst (v := (2 : Int32)) C dL_areSound_16 (by decide) ?_
  refine n_callv (As := [.int (2 : Int32)]) (n := 1) C (c_Game_about l hl D cI cJ ad (2 : Int32)) zf_about_2 ⟨rfl, rfl⟩ gcl5 rfl lwv_about (hR := ⟨Nat.le_of_ble_eq_true rfl, Nat.le_of_ble_eq_true rfl⟩) rfl rfl (Nat.le_of_ble_eq_true rfl) dL_areSound_17 ⟨Nat.le_of_ble_eq_true rfl, Nat.le_of_ble_eq_true rfl⟩ ?_
  refine n_istore (L' := [(4, .int (-1 : Int32)), (3, .int (0 : Int32)), (0, .ref (ad 0)), (1, .ref (ad 28)), (2, .int (0 : Int32))]) C dL_areSound_20 (by decide) rfl ?_
  refine n_aload_n C 2 dL_areSound_22 rfl rfl ?_
  refine n_iconst (v := (3 : Int32)) C dL_areSound_23 (by decide) ?_
  refine n_callv (As := [.int (3 : Int32)]) (n := 1) C (c_Game_about l hl D cI cJ ad (3 : Int32)) zf_about_3 ⟨rfl, rfl⟩ gcl5 rfl lwv_about (hR := ⟨Nat.le_of_ble_eq_true rfl, Nat.le_of_ble_eq_true rfl⟩) rfl rfl (Nat.le_of_ble_eq_true rfl) dL_areSound_24 ⟨Nat.le_of_ble_eq_true rfl, Nat.le_of_ble_eq_true rfl⟩ ?_
  refine n_istore (L' := [(5, .int (0 : Int32)), (4, .int (-1 : Int32)), (3, .int (0 : Int32)), (0, .ref (ad 0)), (1, .ref (ad 28)), (2, .int (0 : Int32))]) C dL_areSound_27 (by decide) rfl ?_
  refine n_aload_n C 3 dL_areSound_29 rfl rfl ?_
  refine n_iconst (v := (4 : Int32)) C dL_areSound_30 (by decide) ?_
  refine n_callv (As := [.int (4 : Int32)]) (n := 1) C (c_Game_about l hl D cI cJ ad (4 : Int32)) zf_about_4 ⟨rfl, rfl⟩ gcl5 rfl lwv_about (hR := ⟨Nat.le_of_ble_eq_true rfl, Nat.le_of_ble_eq_true rfl⟩) rfl rfl (Nat.le_of_ble_eq_true rfl) dL_areSound_31 ⟨Nat.le_of_ble_eq_true rfl, Nat.le_of_ble_eq_true rfl⟩ ?_
  refine n_istore (L' := [(6, .int (-1 : Int32)), (5, .int (0 : Int32)), (4, .int (-1 : Int32)), (3, .int (0 : Int32)), (0, .ref (ad 0)), (1, .ref (ad 28)), (2, .int (0 : Int32))]) C dL_areSound_34 (by decide) rfl ?_
  refine n_iload C 2 dL_areSound_36 rfl ?_
  refine n_iconst (v := (-1 : Int32)) C dL_areSound_38 (by decide) ?_
  refine n_icmp_ne_t (tgt := 46) C dL_areSound_39 (by decide) (by decide) ?_
  refine n_iconst (v := (1 : Int32)) C dL_areSound_42 (by decide) ?_
  refine n_goto (tgt := 47) C dL_areSound_43 (by decide) ?_
  refine n_iload_n C 3 dL_areSound_47 rfl rfl ?_
  refine n_if_ne_t (tgt := 55) C dL_areSound_48 (by decide) (by decide) ?_
  refine n_iconst (v := (1 : Int32)) C dL_areSound_51 (by decide) ?_
  refine n_goto (tgt := 56) C dL_areSound_52 (by decide) ?_
  refine n_icmp_ne_t (tgt := 121) C dL_areSound_56 (by decide) (by decide) ?_
  refine n_iload C 2 dL_areSound_59 rfl ?_
  refine n_iconst (v := (-1 : Int32)) C dL_areSound_61 (by decide) ?_
  refine n_icmp_lt_f (tgt := 121) C dL_areSound_62 (by decide) (by decide) ?_
  refine n_iload C 2 dL_areSound_65 rfl ?_
  refine n_iconst (v := (2 : Int32)) C dL_areSound_67 (by decide) ?_
  refine n_icmp_ge_f (tgt := 121) C dL_areSound_68 (by decide) (by decide) ?_
  refine n_iload C 1 dL_areSound_71 rfl ?_
  refine n_if_lt_f (tgt := 121) C dL_areSound_73 (by decide) (by decide) ?_
  refine n_iload C 1 dL_areSound_76 rfl ?_
  refine n_bipush (v := (10 : Int32)) C dL_areSound_78 (by decide) ?_
  refine n_icmp_ge_f (tgt := 121) C dL_areSound_80 (by decide) (by decide) ?_
  refine n_aload_n C 4 dL_areSound_83 rfl rfl ?_
  refine n_iconst (v := (1 : Int32)) C dL_areSound_84 (by decide) ?_
  refine n_callv (As := [.int (1 : Int32)]) (n := 1) C (c_Game_about l hl D cI cJ ad (1 : Int32)) zf_about_1 ⟨rfl, rfl⟩ gcl5 rfl lwv_about (hR := ⟨Nat.le_of_ble_eq_true rfl, Nat.le_of_ble_eq_true rfl⟩) rfl rfl (Nat.le_of_ble_eq_true rfl) dL_areSound_85 ⟨Nat.le_of_ble_eq_true rfl, Nat.le_of_ble_eq_true rfl⟩ ?_
  refine n_iconst (v := (1 : Int32)) C dL_areSound_88 (by decide) ?_
  refine n_icmp_ne_f (tgt := 111) C dL_areSound_89 (by decide) (by decide) ?_
  refine n_iload C 0 dL_areSound_111 rfl ?_
  refine n_iconst (v := (-1 : Int32)) C dL_areSound_113 (by decide) ?_
  refine n_icmp_ne_t (tgt := 121) C dL_areSound_114 (by decide) (by decide) ?_
  refine n_iconst (v := (1 : Int32)) C dL_areSound_117 (by decide) ?_
  refine n_goto (tgt := 122) C dL_areSound_118 (by decide) ?_
  refine n_istore (L' := [(7, .int (1 : Int32)), (6, .int (-1 : Int32)), (5, .int (0 : Int32)), (4, .int (-1 : Int32)), (3, .int (0 : Int32)), (0, .ref (ad 0)), (1, .ref (ad 28)), (2, .int (0 : Int32))]) C dL_areSound_122 (by decide) rfl ?_
  refine n_iconst (v := (0 : Int32)) C dL_areSound_124 (by decide) ?_
  refine n_istore (L' := [(8, .int (0 : Int32)), (7, .int (1 : Int32)), (6, .int (-1 : Int32)), (5, .int (0 : Int32)), (4, .int (-1 : Int32)), (3, .int (0 : Int32)), (0, .ref (ad 0)), (1, .ref (ad 28)), (2, .int (0 : Int32))]) C dL_areSound_125 (by decide) rfl ?_
  refine n_iconst (v := (0 : Int32)) C dL_areSound_127 (by decide) ?_
  refine n_istore (L' := [(9, .int (0 : Int32)), (8, .int (0 : Int32)), (7, .int (1 : Int32)), (6, .int (-1 : Int32)), (5, .int (0 : Int32)), (4, .int (-1 : Int32)), (3, .int (0 : Int32)), (0, .ref (ad 0)), (1, .ref (ad 28)), (2, .int (0 : Int32))]) C dL_areSound_128 (by decide) rfl ?_
  refine n_iconst (v := (0 : Int32)) C dL_areSound_130 (by decide) ?_
  refine n_istore (L' := [(10, .int (0 : Int32)), (9, .int (0 : Int32)), (8, .int (0 : Int32)), (7, .int (1 : Int32)), (6, .int (-1 : Int32)), (5, .int (0 : Int32)), (4, .int (-1 : Int32)), (3, .int (0 : Int32)), (0, .ref (ad 0)), (1, .ref (ad 28)), (2, .int (0 : Int32))]) C dL_areSound_131 (by decide) rfl ?_
  refine n_iload C 0 dL_areSound_133 rfl ?_
  refine n_iconst (v := (2 : Int32)) C dL_areSound_135 (by decide) ?_
  refine n_icmp_ge_f (tgt := 437) C dL_areSound_136 (by decide) (by decide) ?_
  refine n_iload C 3 dL_areSound_139 rfl ?_
  refine n_if_eq_f (tgt := 437) C dL_areSound_141 (by decide) (by decide) ?_
  refine n_iconst (v := (0 : Int32)) C dL_areSound_144 (by decide) ?_
  refine n_istore (L' := [(11, .int (0 : Int32)), (10, .int (0 : Int32)), (9, .int (0 : Int32)), (8, .int (0 : Int32)), (7, .int (1 : Int32)), (6, .int (-1 : Int32)), (5, .int (0 : Int32)), (4, .int (-1 : Int32)), (3, .int (0 : Int32)), (0, .ref (ad 0)), (1, .ref (ad 28)), (2, .int (0 : Int32))]) C dL_areSound_145 (by decide) rfl ?_
  refine n_iconst (v := (0 : Int32)) C dL_areSound_147 (by decide) ?_
  refine n_istore (L' := [(12, .int (0 : Int32)), (11, .int (0 : Int32)), (10, .int (0 : Int32)), (9, .int (0 : Int32)), (8, .int (0 : Int32)), (7, .int (1 : Int32)), (6, .int (-1 : Int32)), (5, .int (0 : Int32)), (4, .int (-1 : Int32)), (3, .int (0 : Int32)), (0, .ref (ad 0)), (1, .ref (ad 28)), (2, .int (0 : Int32))]) C dL_areSound_148 (by decide) rfl ?_
  refine n_iconst (v := (1 : Int32)) C dL_areSound_150 (by decide) ?_
  refine n_istore (L' := [(13, .int (1 : Int32)), (12, .int (0 : Int32)), (11, .int (0 : Int32)), (10, .int (0 : Int32)), (9, .int (0 : Int32)), (8, .int (0 : Int32)), (7, .int (1 : Int32)), (6, .int (-1 : Int32)), (5, .int (0 : Int32)), (4, .int (-1 : Int32)), (3, .int (0 : Int32)), (0, .ref (ad 0)), (1, .ref (ad 28)), (2, .int (0 : Int32))]) C dL_areSound_151 (by decide) rfl ?_
  refine n_iload C 0 dL_areSound_153 rfl ?_
  refine n_bipush (v := (7 : Int32)) C dL_areSound_155 (by decide) ?_
  refine n_icmp_ge_f (tgt := 264) C dL_areSound_157 (by decide) (by decide) ?_
  refine n_iload C 6 dL_areSound_160 rfl ?_
  refine n_if_eq_f (tgt := 264) C dL_areSound_162 (by decide) (by decide) ?_
  refine n_aload_n C 11 dL_areSound_165 rfl rfl ?_
  refine n_iload C 3 dL_areSound_166 rfl ?_
  refine n_iload C 0 dL_areSound_168 rfl ?_
  refine n_callv (As := [.int (0 : Int32), .int (1 : Int32)]) (n := 2) C (c_Game_at l hl D cI cJ ad (0 : Int32) (1 : Int32)) zf_at_0_1 ⟨rfl, rfl⟩ gcl5 rfl lwv_at (hR := ⟨Nat.le_of_ble_eq_true rfl, Nat.le_of_ble_eq_true rfl⟩) rfl rfl (Nat.le_of_ble_eq_true rfl) dL_areSound_170 ⟨Nat.le_of_ble_eq_true rfl, Nat.le_of_ble_eq_true rfl⟩ ?_
  refine n_istore (L' := [(14, .int (-1 : Int32)), (13, .int (1 : Int32)), (12, .int (0 : Int32)), (11, .int (0 : Int32)), (10, .int (0 : Int32)), (9, .int (0 : Int32)), (8, .int (0 : Int32)), (7, .int (1 : Int32)), (6, .int (-1 : Int32)), (5, .int (0 : Int32)), (4, .int (-1 : Int32)), (3, .int (0 : Int32)), (0, .ref (ad 0)), (1, .ref (ad 28)), (2, .int (0 : Int32))]) C dL_areSound_173 (by decide) rfl ?_
  refine n_iload C 0 dL_areSound_175 rfl ?_
  refine n_iconst (v := (-1 : Int32)) C dL_areSound_177 (by decide) ?_
  refine n_icmp_lt_f (tgt := 237) C dL_areSound_178 (by decide) (by decide) ?_
  refine n_iload C 0 dL_areSound_181 rfl ?_
  refine n_if_eq_f (tgt := 237) C dL_areSound_183 (by decide) (by decide) ?_
  refine n_iload C 0 dL_areSound_186 rfl ?_
  refine n_bipush (v := (21 : Int32)) C dL_areSound_188 (by decide) ?_
  refine n_icmp_ge_f (tgt := 237) C dL_areSound_190 (by decide) (by decide) ?_
  refine n_aload_n C 12 dL_areSound_193 rfl rfl ?_
  refine n_iload C 4 dL_areSound_194 rfl ?_
  refine n_iload C 1 dL_areSound_196 rfl ?_
  refine n_callv (As := [.int (0 : Int32), .int (1 : Int32)]) (n := 2) C (c_Game_atAnew l hl D cI cJ ad (0 : Int32) (1 : Int32)) zf_atAnew_0_1 ⟨rfl, rfl⟩ gcl5 rfl lwv_atAnew (hR := ⟨Nat.le_of_ble_eq_true rfl, Nat.le_of_ble_eq_true rfl⟩) rfl rfl (Nat.le_of_ble_eq_true rfl) dL_areSound_198 ⟨Nat.le_of_ble_eq_true rfl, Nat.le_of_ble_eq_true rfl⟩ ?_
  refine n_iload_n C 11 dL_areSound_201 rfl rfl ?_
  refine n_if_eq_t (tgt := 210) C dL_areSound_202 (by decide) (by decide) ?_
  refine n_iconst (v := (-1 : Int32)) C dL_areSound_210 (by decide) ?_
  refine n_icmp_ne_t (tgt := 237) C dL_areSound_211 (by decide) (by decide) ?_
  refine n_iload_n C 11 dL_areSound_214 rfl rfl ?_
  refine n_if_eq_t (tgt := 233) C dL_areSound_215 (by decide) (by decide) ?_
  refine n_iconst (v := (1 : Int32)) C dL_areSound_233 (by decide) ?_
  refine n_goto (tgt := 238) C dL_areSound_234 (by decide) ?_
  refine n_istore (L' := [(7, .int (1 : Int32)), (14, .int (-1 : Int32)), (13, .int (1 : Int32)), (12, .int (0 : Int32)), (11, .int (0 : Int32)), (10, .int (0 : Int32)), (9, .int (0 : Int32)), (8, .int (0 : Int32)), (6, .int (-1 : Int32)), (5, .int (0 : Int32)), (4, .int (-1 : Int32)), (3, .int (0 : Int32)), (0, .ref (ad 0)), (1, .ref (ad 28)), (2, .int (0 : Int32))]) C dL_areSound_238 (by decide) rfl ?_
  refine n_iload C 4 dL_areSound_240 rfl ?_
  refine n_iload C 1 dL_areSound_242 rfl ?_
  refine n_if_le_t (tgt := 254) C dL_areSound_244 (by decide) (by decide) ?_
  refine n_iconst (v := (0 : Int32)) C dL_areSound_254 (by decide) ?_
  refine n_ior C dL_areSound_255 ?_
  refine n_eq (v := (0 : Int32)) (by decide) ?_
  refine n_istore (L' := [(11, .int (0 : Int32)), (7, .int (1 : Int32)), (14, .int (-1 : Int32)), (13, .int (1 : Int32)), (12, .int (0 : Int32)), (10, .int (0 : Int32)), (9, .int (0 : Int32)), (8, .int (0 : Int32)), (6, .int (-1 : Int32)), (5, .int (0 : Int32)), (4, .int (-1 : Int32)), (3, .int (0 : Int32)), (0, .ref (ad 0)), (1, .ref (ad 28)), (2, .int (0 : Int32))]) C dL_areSound_256 (by decide) rfl ?_
  refine n_iinc (v := (2 : Int32)) (L' := [(13, .int (2 : Int32)), (11, .int (0 : Int32)), (7, .int (1 : Int32)), (14, .int (-1 : Int32)), (12, .int (0 : Int32)), (10, .int (0 : Int32)), (9, .int (0 : Int32)), (8, .int (0 : Int32)), (6, .int (-1 : Int32)), (5, .int (0 : Int32)), (4, .int (-1 : Int32)), (3, .int (0 : Int32)), (0, .ref (ad 0)), (1, .ref (ad 28)), (2, .int (0 : Int32))]) C 3 dL_areSound_258 rfl (by decide) (by decide) rfl ?_
  refine n_goto (tgt := 153) C dL_areSound_261 (by decide) ?_
  refine n_iload C 0 dL_areSound_153 rfl ?_
  refine n_bipush (v := (7 : Int32)) C dL_areSound_155 (by decide) ?_
  refine n_icmp_ge_f (tgt := 264) C dL_areSound_157 (by decide) (by decide) ?_
  refine n_iload C 2 dL_areSound_160 rfl ?_
  refine n_if_eq_f (tgt := 264) C dL_areSound_162 (by decide) (by decide) ?_
  refine n_aload_n C 12 dL_areSound_165 rfl rfl ?_
  refine n_iload C 5 dL_areSound_166 rfl ?_
  refine n_iload C 0 dL_areSound_168 rfl ?_
  refine n_callv (As := [.int (0 : Int32), .int (2 : Int32)]) (n := 2) C (c_Game_at l hl D cI cJ ad (0 : Int32) (2 : Int32)) zf_at_0_2 ⟨rfl, rfl⟩ gcl5 rfl lwv_at (hR := ⟨Nat.le_of_ble_eq_true rfl, Nat.le_of_ble_eq_true rfl⟩) rfl rfl (Nat.le_of_ble_eq_true rfl) dL_areSound_170 ⟨Nat.le_of_ble_eq_true rfl, Nat.le_of_ble_eq_true rfl⟩ ?_
  refine n_istore (L' := [(14, .int (-1 : Int32)), (13, .int (2 : Int32)), (11, .int (0 : Int32)), (7, .int (1 : Int32)), (12, .int (0 : Int32)), (10, .int (0 : Int32)), (9, .int (0 : Int32)), (8, .int (0 : Int32)), (6, .int (-1 : Int32)), (5, .int (0 : Int32)), (4, .int (-1 : Int32)), (3, .int (0 : Int32)), (0, .ref (ad 0)), (1, .ref (ad 28)), (2, .int (0 : Int32))]) C dL_areSound_173 (by decide) rfl ?_
  refine n_iload C 0 dL_areSound_175 rfl ?_
  refine n_iconst (v := (-1 : Int32)) C dL_areSound_177 (by decide) ?_
  refine n_icmp_lt_f (tgt := 237) C dL_areSound_178 (by decide) (by decide) ?_
  refine n_iload C 0 dL_areSound_181 rfl ?_
  refine n_if_eq_f (tgt := 237) C dL_areSound_183 (by decide) (by decide) ?_
  refine n_iload C 0 dL_areSound_186 rfl ?_
  refine n_bipush (v := (21 : Int32)) C dL_areSound_188 (by decide) ?_
  refine n_icmp_ge_f (tgt := 237) C dL_areSound_190 (by decide) (by decide) ?_
  refine n_aload_n C 12 dL_areSound_193 rfl rfl ?_
  refine n_iload C 5 dL_areSound_194 rfl ?_
  refine n_iload C 1 dL_areSound_196 rfl ?_
  refine n_callv (As := [.int (0 : Int32), .int (2 : Int32)]) (n := 2) C (c_Game_atAnew l hl D cI cJ ad (0 : Int32) (2 : Int32)) zf_atAnew_0_2 ⟨rfl, rfl⟩ gcl5 rfl lwv_atAnew (hR := ⟨Nat.le_of_ble_eq_true rfl, Nat.le_of_ble_eq_true rfl⟩) rfl rfl (Nat.le_of_ble_eq_true rfl) dL_areSound_198 ⟨Nat.le_of_ble_eq_true rfl, Nat.le_of_ble_eq_true rfl⟩ ?_
  refine n_iload_n C 11 dL_areSound_201 rfl rfl ?_
  refine n_if_eq_t (tgt := 210) C dL_areSound_202 (by decide) (by decide) ?_
  refine n_iconst (v := (-1 : Int32)) C dL_areSound_210 (by decide) ?_
  refine n_icmp_ne_t (tgt := 237) C dL_areSound_211 (by decide) (by decide) ?_
  refine n_iload_n C 11 dL_areSound_214 rfl rfl ?_
  refine n_if_eq_t (tgt := 233) C dL_areSound_215 (by decide) (by decide) ?_
  refine n_iconst (v := (1 : Int32)) C dL_areSound_233 (by decide) ?_
  refine n_goto (tgt := 238) C dL_areSound_234 (by decide) ?_
  refine n_istore (L' := [(7, .int (1 : Int32)), (14, .int (-1 : Int32)), (13, .int (2 : Int32)), (11, .int (0 : Int32)), (12, .int (0 : Int32)), (10, .int (0 : Int32)), (9, .int (0 : Int32)), (8, .int (0 : Int32)), (6, .int (-1 : Int32)), (5, .int (0 : Int32)), (4, .int (-1 : Int32)), (3, .int (0 : Int32)), (0, .ref (ad 0)), (1, .ref (ad 28)), (2, .int (0 : Int32))]) C dL_areSound_238 (by decide) rfl ?_
  refine n_iload C 3 dL_areSound_240 rfl ?_
  refine n_iload C 1 dL_areSound_242 rfl ?_
  refine n_if_le_t (tgt := 254) C dL_areSound_244 (by decide) (by decide) ?_
  refine n_iconst (v := (0 : Int32)) C dL_areSound_254 (by decide) ?_
  refine n_ior C dL_areSound_255 ?_
  refine n_eq (v := (0 : Int32)) (by decide) ?_
  refine n_istore (L' := [(11, .int (0 : Int32)), (7, .int (1 : Int32)), (14, .int (-1 : Int32)), (13, .int (2 : Int32)), (12, .int (0 : Int32)), (10, .int (0 : Int32)), (9, .int (0 : Int32)), (8, .int (0 : Int32)), (6, .int (-1 : Int32)), (5, .int (0 : Int32)), (4, .int (-1 : Int32)), (3, .int (0 : Int32)), (0, .ref (ad 0)), (1, .ref (ad 28)), (2, .int (0 : Int32))]) C dL_areSound_256 (by decide) rfl ?_
  refine n_iinc (v := (3 : Int32)) (L' := [(13, .int (3 : Int32)), (11, .int (0 : Int32)), (7, .int (1 : Int32)), (14, .int (-1 : Int32)), (12, .int (0 : Int32)), (10, .int (0 : Int32)), (9, .int (0 : Int32)), (8, .int (0 : Int32)), (6, .int (-1 : Int32)), (5, .int (0 : Int32)), (4, .int (-1 : Int32)), (3, .int (0 : Int32)), (0, .ref (ad 0)), (1, .ref (ad 28)), (2, .int (0 : Int32))]) C 3 dL_areSound_258 rfl (by decide) (by decide) rfl ?_
  refine n_goto (tgt := 153) C dL_areSound_261 (by decide) ?_
  refine n_iload C 0 dL_areSound_153 rfl ?_
  refine n_bipush (v := (7 : Int32)) C dL_areSound_155 (by decide) ?_
  refine n_icmp_ge_f (tgt := 264) C dL_areSound_157 (by decide) (by decide) ?_
  refine n_iload C 2 dL_areSound_160 rfl ?_
  refine n_if_eq_f (tgt := 264) C dL_areSound_162 (by decide) (by decide) ?_
  refine n_aload_n C 12 dL_areSound_165 rfl rfl ?_
  refine n_iload C 5 dL_areSound_166 rfl ?_
  refine n_iload C 0 dL_areSound_168 rfl ?_
  refine n_callv (As := [.int (0 : Int32), .int (3 : Int32)]) (n := 2) C (c_Game_at l hl D cI cJ ad (0 : Int32) (3 : Int32)) zf_at_0_3 ⟨rfl, rfl⟩ gcl5 rfl lwv_at (hR := ⟨Nat.le_of_ble_eq_true rfl, Nat.le_of_ble_eq_true rfl⟩) rfl rfl (Nat.le_of_ble_eq_true rfl) dL_areSound_170 ⟨Nat.le_of_ble_eq_true rfl, Nat.le_of_ble_eq_true rfl⟩ ?_
  refine n_istore (L' := [(14, .int (-1 : Int32)), (13, .int (3 : Int32)), (11, .int (0 : Int32)), (7, .int (1 : Int32)), (12, .int (0 : Int32)), (10, .int (0 : Int32)), (9, .int (0 : Int32)), (8, .int (0 : Int32)), (6, .int (-1 : Int32)), (5, .int (0 : Int32)), (4, .int (-1 : Int32)), (3, .int (0 : Int32)), (0, .ref (ad 0)), (1, .ref (ad 28)), (2, .int (0 : Int32))]) C dL_areSound_173 (by decide) rfl ?_
  refine n_iload C 0 dL_areSound_175 rfl ?_
  refine n_iconst (v := (-1 : Int32)) C dL_areSound_177 (by decide) ?_
  refine n_icmp_lt_f (tgt := 237) C dL_areSound_178 (by decide) (by decide) ?_
  refine n_iload C 0 dL_areSound_181 rfl ?_
  refine n_if_eq_f (tgt := 237) C dL_areSound_183 (by decide) (by decide) ?_
  refine n_iload C 0 dL_areSound_186 rfl ?_
  refine n_bipush (v := (21 : Int32)) C dL_areSound_188 (by decide) ?_
  refine n_icmp_ge_f (tgt := 237) C dL_areSound_190 (by decide) (by decide) ?_
  refine n_aload_n C 12 dL_areSound_193 rfl rfl ?_
  refine n_iload C 5 dL_areSound_194 rfl ?_
  refine n_iload C 1 dL_areSound_196 rfl ?_
  refine n_callv (As := [.int (0 : Int32), .int (3 : Int32)]) (n := 2) C (c_Game_atAnew l hl D cI cJ ad (0 : Int32) (3 : Int32)) zf_atAnew_0_3 ⟨rfl, rfl⟩ gcl5 rfl lwv_atAnew (hR := ⟨Nat.le_of_ble_eq_true rfl, Nat.le_of_ble_eq_true rfl⟩) rfl rfl (Nat.le_of_ble_eq_true rfl) dL_areSound_198 ⟨Nat.le_of_ble_eq_true rfl, Nat.le_of_ble_eq_true rfl⟩ ?_
  refine n_iload_n C 11 dL_areSound_201 rfl rfl ?_
  refine n_if_eq_t (tgt := 210) C dL_areSound_202 (by decide) (by decide) ?_
  refine n_iconst (v := (-1 : Int32)) C dL_areSound_210 (by decide) ?_
  refine n_icmp_ne_t (tgt := 237) C dL_areSound_211 (by decide) (by decide) ?_
  refine n_iload_n C 11 dL_areSound_214 rfl rfl ?_
  refine n_if_eq_t (tgt := 233) C dL_areSound_215 (by decide) (by decide) ?_
  refine n_iconst (v := (1 : Int32)) C dL_areSound_233 (by decide) ?_
  refine n_goto (tgt := 238) C dL_areSound_234 (by decide) ?_
  refine n_istore (L' := [(7, .int (1 : Int32)), (14, .int (-1 : Int32)), (13, .int (3 : Int32)), (11, .int (0 : Int32)), (12, .int (0 : Int32)), (10, .int (0 : Int32)), (9, .int (0 : Int32)), (8, .int (0 : Int32)), (6, .int (-1 : Int32)), (5, .int (0 : Int32)), (4, .int (-1 : Int32)), (3, .int (0 : Int32)), (0, .ref (ad 0)), (1, .ref (ad 28)), (2, .int (0 : Int32))]) C dL_areSound_238 (by decide) rfl ?_
  refine n_iload C 3 dL_areSound_240 rfl ?_
  refine n_iload C 1 dL_areSound_242 rfl ?_
  refine n_if_le_t (tgt := 254) C dL_areSound_244 (by decide) (by decide) ?_
  refine n_iconst (v := (0 : Int32)) C dL_areSound_254 (by decide) ?_
  refine n_ior C dL_areSound_255 ?_
  refine n_eq (v := (0 : Int32)) (by decide) ?_
  refine n_istore (L' := [(11, .int (0 : Int32)), (7, .int (1 : Int32)), (14, .int (-1 : Int32)), (13, .int (3 : Int32)), (12, .int (0 : Int32)), (10, .int (0 : Int32)), (9, .int (0 : Int32)), (8, .int (0 : Int32)), (6, .int (-1 : Int32)), (5, .int (0 : Int32)), (4, .int (-1 : Int32)), (3, .int (0 : Int32)), (0, .ref (ad 0)), (1, .ref (ad 28)), (2, .int (0 : Int32))]) C dL_areSound_256 (by decide) rfl ?_
  refine n_iinc (v := (4 : Int32)) (L' := [(13, .int (4 : Int32)), (11, .int (0 : Int32)), (7, .int (1 : Int32)), (14, .int (-1 : Int32)), (12, .int (0 : Int32)), (10, .int (0 : Int32)), (9, .int (0 : Int32)), (8, .int (0 : Int32)), (6, .int (-1 : Int32)), (5, .int (0 : Int32)), (4, .int (-1 : Int32)), (3, .int (0 : Int32)), (0, .ref (ad 0)), (1, .ref (ad 28)), (2, .int (0 : Int32))]) C 3 dL_areSound_258 rfl (by decide) (by decide) rfl ?_
  refine n_goto (tgt := 153) C dL_areSound_261 (by decide) ?_
  refine n_iload C 0 dL_areSound_153 rfl ?_
  refine n_bipush (v := (7 : Int32)) C dL_areSound_155 (by decide) ?_
  refine n_icmp_ge_f (tgt := 264) C dL_areSound_157 (by decide) (by decide) ?_
  refine n_iload C 2 dL_areSound_160 rfl ?_
  refine n_if_eq_f (tgt := 264) C dL_areSound_162 (by decide) (by decide) ?_
  refine n_aload_n C 12 dL_areSound_165 rfl rfl ?_
  refine n_iload C 5 dL_areSound_166 rfl ?_
  refine n_iload C 0 dL_areSound_168 rfl ?_
  refine n_callv (As := [.int (0 : Int32), .int (4 : Int32)]) (n := 2) C (c_Game_at l hl D cI cJ ad (0 : Int32) (4 : Int32)) zf_at_0_4 ⟨rfl, rfl⟩ gcl5 rfl lwv_at (hR := ⟨Nat.le_of_ble_eq_true rfl, Nat.le_of_ble_eq_true rfl⟩) rfl rfl (Nat.le_of_ble_eq_true rfl) dL_areSound_170 ⟨Nat.le_of_ble_eq_true rfl, Nat.le_of_ble_eq_true rfl⟩ ?_
  refine n_istore (L' := [(14, .int (-1 : Int32)), (13, .int (4 : Int32)), (11, .int (0 : Int32)), (7, .int (1 : Int32)), (12, .int (0 : Int32)), (10, .int (0 : Int32)), (9, .int (0 : Int32)), (8, .int (0 : Int32)), (6, .int (-1 : Int32)), (5, .int (0 : Int32)), (4, .int (-1 : Int32)), (3, .int (0 : Int32)), (0, .ref (ad 0)), (1, .ref (ad 28)), (2, .int (0 : Int32))]) C dL_areSound_173 (by decide) rfl ?_
  refine n_iload C 0 dL_areSound_175 rfl ?_
  refine n_iconst (v := (-1 : Int32)) C dL_areSound_177 (by decide) ?_
  refine n_icmp_lt_f (tgt := 237) C dL_areSound_178 (by decide) (by decide) ?_
  refine n_iload C 0 dL_areSound_181 rfl ?_
  refine n_if_eq_f (tgt := 237) C dL_areSound_183 (by decide) (by decide) ?_
  refine n_iload C 0 dL_areSound_186 rfl ?_
  refine n_bipush (v := (21 : Int32)) C dL_areSound_188 (by decide) ?_
  refine n_icmp_ge_f (tgt := 237) C dL_areSound_190 (by decide) (by decide) ?_
  refine n_aload_n C 12 dL_areSound_193 rfl rfl ?_
  refine n_iload C 5 dL_areSound_194 rfl ?_
  refine n_iload C 1 dL_areSound_196 rfl ?_
  refine n_callv (As := [.int (0 : Int32), .int (4 : Int32)]) (n := 2) C (c_Game_atAnew l hl D cI cJ ad (0 : Int32) (4 : Int32)) zf_atAnew_0_4 ⟨rfl, rfl⟩ gcl5 rfl lwv_atAnew (hR := ⟨Nat.le_of_ble_eq_true rfl, Nat.le_of_ble_eq_true rfl⟩) rfl rfl (Nat.le_of_ble_eq_true rfl) dL_areSound_198 ⟨Nat.le_of_ble_eq_true rfl, Nat.le_of_ble_eq_true rfl⟩ ?_
  refine n_iload_n C 11 dL_areSound_201 rfl rfl ?_
  refine n_if_eq_t (tgt := 210) C dL_areSound_202 (by decide) (by decide) ?_
  refine n_iconst (v := (-1 : Int32)) C dL_areSound_210 (by decide) ?_
  refine n_icmp_ne_t (tgt := 237) C dL_areSound_211 (by decide) (by decide) ?_
  refine n_iload_n C 11 dL_areSound_214 rfl rfl ?_
  refine n_if_eq_t (tgt := 233) C dL_areSound_215 (by decide) (by decide) ?_
  refine n_iconst (v := (1 : Int32)) C dL_areSound_233 (by decide) ?_
  refine n_goto (tgt := 238) C dL_areSound_234 (by decide) ?_
  refine n_istore (L' := [(7, .int (1 : Int32)), (14, .int (-1 : Int32)), (13, .int (4 : Int32)), (11, .int (0 : Int32)), (12, .int (0 : Int32)), (10, .int (0 : Int32)), (9, .int (0 : Int32)), (8, .int (0 : Int32)), (6, .int (-1 : Int32)), (5, .int (0 : Int32)), (4, .int (-1 : Int32)), (3, .int (0 : Int32)), (0, .ref (ad 0)), (1, .ref (ad 28)), (2, .int (0 : Int32))]) C dL_areSound_238 (by decide) rfl ?_
  refine n_iload C 3 dL_areSound_240 rfl ?_
  refine n_iload C 1 dL_areSound_242 rfl ?_
  refine n_if_le_t (tgt := 254) C dL_areSound_244 (by decide) (by decide) ?_
  refine n_iconst (v := (0 : Int32)) C dL_areSound_254 (by decide) ?_
  refine n_ior C dL_areSound_255 ?_
  refine n_eq (v := (0 : Int32)) (by decide) ?_
  refine n_istore (L' := [(11, .int (0 : Int32)), (7, .int (1 : Int32)), (14, .int (-1 : Int32)), (13, .int (4 : Int32)), (12, .int (0 : Int32)), (10, .int (0 : Int32)), (9, .int (0 : Int32)), (8, .int (0 : Int32)), (6, .int (-1 : Int32)), (5, .int (0 : Int32)), (4, .int (-1 : Int32)), (3, .int (0 : Int32)), (0, .ref (ad 0)), (1, .ref (ad 28)), (2, .int (0 : Int32))]) C dL_areSound_256 (by decide) rfl ?_
  refine n_iinc (v := (5 : Int32)) (L' := [(13, .int (5 : Int32)), (11, .int (0 : Int32)), (7, .int (1 : Int32)), (14, .int (-1 : Int32)), (12, .int (0 : Int32)), (10, .int (0 : Int32)), (9, .int (0 : Int32)), (8, .int (0 : Int32)), (6, .int (-1 : Int32)), (5, .int (0 : Int32)), (4, .int (-1 : Int32)), (3, .int (0 : Int32)), (0, .ref (ad 0)), (1, .ref (ad 28)), (2, .int (0 : Int32))]) C 3 dL_areSound_258 rfl (by decide) (by decide) rfl ?_
  refine n_goto (tgt := 153) C dL_areSound_261 (by decide) ?_
  refine n_iload C 0 dL_areSound_153 rfl ?_
  refine n_bipush (v := (7 : Int32)) C dL_areSound_155 (by decide) ?_
  refine n_icmp_ge_f (tgt := 264) C dL_areSound_157 (by decide) (by decide) ?_
  refine n_iload C 2 dL_areSound_160 rfl ?_
  refine n_if_eq_f (tgt := 264) C dL_areSound_162 (by decide) (by decide) ?_
  refine n_aload_n C 12 dL_areSound_165 rfl rfl ?_
  refine n_iload C 5 dL_areSound_166 rfl ?_
  refine n_iload C 0 dL_areSound_168 rfl ?_
  refine n_callv (As := [.int (0 : Int32), .int (5 : Int32)]) (n := 2) C (c_Game_at l hl D cI cJ ad (0 : Int32) (5 : Int32)) zf_at_0_5 ⟨rfl, rfl⟩ gcl5 rfl lwv_at (hR := ⟨Nat.le_of_ble_eq_true rfl, Nat.le_of_ble_eq_true rfl⟩) rfl rfl (Nat.le_of_ble_eq_true rfl) dL_areSound_170 ⟨Nat.le_of_ble_eq_true rfl, Nat.le_of_ble_eq_true rfl⟩ ?_
  refine n_istore (L' := [(14, .int (-1 : Int32)), (13, .int (5 : Int32)), (11, .int (0 : Int32)), (7, .int (1 : Int32)), (12, .int (0 : Int32)), (10, .int (0 : Int32)), (9, .int (0 : Int32)), (8, .int (0 : Int32)), (6, .int (-1 : Int32)), (5, .int (0 : Int32)), (4, .int (-1 : Int32)), (3, .int (0 : Int32)), (0, .ref (ad 0)), (1, .ref (ad 28)), (2, .int (0 : Int32))]) C dL_areSound_173 (by decide) rfl ?_
  refine n_iload C 0 dL_areSound_175 rfl ?_
  refine n_iconst (v := (-1 : Int32)) C dL_areSound_177 (by decide) ?_
  refine n_icmp_lt_f (tgt := 237) C dL_areSound_178 (by decide) (by decide) ?_
  refine n_iload C 0 dL_areSound_181 rfl ?_
  refine n_if_eq_f (tgt := 237) C dL_areSound_183 (by decide) (by decide) ?_
  refine n_iload C 0 dL_areSound_186 rfl ?_
  refine n_bipush (v := (21 : Int32)) C dL_areSound_188 (by decide) ?_
  refine n_icmp_ge_f (tgt := 237) C dL_areSound_190 (by decide) (by decide) ?_
  refine n_aload_n C 12 dL_areSound_193 rfl rfl ?_
  refine n_iload C 5 dL_areSound_194 rfl ?_
  refine n_iload C 1 dL_areSound_196 rfl ?_
  refine n_callv (As := [.int (0 : Int32), .int (5 : Int32)]) (n := 2) C (c_Game_atAnew l hl D cI cJ ad (0 : Int32) (5 : Int32)) zf_atAnew_0_5 ⟨rfl, rfl⟩ gcl5 rfl lwv_atAnew (hR := ⟨Nat.le_of_ble_eq_true rfl, Nat.le_of_ble_eq_true rfl⟩) rfl rfl (Nat.le_of_ble_eq_true rfl) dL_areSound_198 ⟨Nat.le_of_ble_eq_true rfl, Nat.le_of_ble_eq_true rfl⟩ ?_
  refine n_iload_n C 11 dL_areSound_201 rfl rfl ?_
  refine n_if_eq_t (tgt := 210) C dL_areSound_202 (by decide) (by decide) ?_
  refine n_iconst (v := (-1 : Int32)) C dL_areSound_210 (by decide) ?_
  refine n_icmp_ne_t (tgt := 237) C dL_areSound_211 (by decide) (by decide) ?_
  refine n_iload_n C 11 dL_areSound_214 rfl rfl ?_
  refine n_if_eq_t (tgt := 233) C dL_areSound_215 (by decide) (by decide) ?_
  refine n_iconst (v := (1 : Int32)) C dL_areSound_233 (by decide) ?_
  refine n_goto (tgt := 238) C dL_areSound_234 (by decide) ?_
  refine n_istore (L' := [(7, .int (1 : Int32)), (14, .int (-1 : Int32)), (13, .int (5 : Int32)), (11, .int (0 : Int32)), (12, .int (0 : Int32)), (10, .int (0 : Int32)), (9, .int (0 : Int32)), (8, .int (0 : Int32)), (6, .int (-1 : Int32)), (5, .int (0 : Int32)), (4, .int (-1 : Int32)), (3, .int (0 : Int32)), (0, .ref (ad 0)), (1, .ref (ad 28)), (2, .int (0 : Int32))]) C dL_areSound_238 (by decide) rfl ?_
  refine n_iload C 3 dL_areSound_240 rfl ?_
  refine n_iload C 1 dL_areSound_242 rfl ?_
  refine n_if_le_t (tgt := 254) C dL_areSound_244 (by decide) (by decide) ?_
  refine n_iconst (v := (0 : Int32)) C dL_areSound_254 (by decide) ?_
  refine n_ior C dL_areSound_255 ?_
  refine n_eq (v := (0 : Int32)) (by decide) ?_
  refine n_istore (L' := [(11, .int (0 : Int32)), (7, .int (1 : Int32)), (14, .int (-1 : Int32)), (13, .int (5 : Int32)), (12, .int (0 : Int32)), (10, .int (0 : Int32)), (9, .int (0 : Int32)), (8, .int (0 : Int32)), (6, .int (-1 : Int32)), (5, .int (0 : Int32)), (4, .int (-1 : Int32)), (3, .int (0 : Int32)), (0, .ref (ad 0)), (1, .ref (ad 28)), (2, .int (0 : Int32))]) C dL_areSound_256 (by decide) rfl ?_
  refine n_iinc (v := (6 : Int32)) (L' := [(13, .int (6 : Int32)), (11, .int (0 : Int32)), (7, .int (1 : Int32)), (14, .int (-1 : Int32)), (12, .int (0 : Int32)), (10, .int (0 : Int32)), (9, .int (0 : Int32)), (8, .int (0 : Int32)), (6, .int (-1 : Int32)), (5, .int (0 : Int32)), (4, .int (-1 : Int32)), (3, .int (0 : Int32)), (0, .ref (ad 0)), (1, .ref (ad 28)), (2, .int (0 : Int32))]) C 3 dL_areSound_258 rfl (by decide) (by decide) rfl ?_
  refine n_goto (tgt := 153) C dL_areSound_261 (by decide) ?_
  refine n_iload C 0 dL_areSound_153 rfl ?_
  refine n_bipush (v := (7 : Int32)) C dL_areSound_155 (by decide) ?_
  refine n_icmp_ge_f (tgt := 264) C dL_areSound_157 (by decide) (by decide) ?_
  refine n_iload C 2 dL_areSound_160 rfl ?_
  refine n_if_eq_f (tgt := 264) C dL_areSound_162 (by decide) (by decide) ?_
  refine n_aload_n C 12 dL_areSound_165 rfl rfl ?_
  refine n_iload C 5 dL_areSound_166 rfl ?_
  refine n_iload C 0 dL_areSound_168 rfl ?_
  refine n_callv (As := [.int (0 : Int32), .int (6 : Int32)]) (n := 2) C (c_Game_at l hl D cI cJ ad (0 : Int32) (6 : Int32)) zf_at_0_6 ⟨rfl, rfl⟩ gcl5 rfl lwv_at (hR := ⟨Nat.le_of_ble_eq_true rfl, Nat.le_of_ble_eq_true rfl⟩) rfl rfl (Nat.le_of_ble_eq_true rfl) dL_areSound_170 ⟨Nat.le_of_ble_eq_true rfl, Nat.le_of_ble_eq_true rfl⟩ ?_
  refine n_istore (L' := [(14, .int (-1 : Int32)), (13, .int (6 : Int32)), (11, .int (0 : Int32)), (7, .int (1 : Int32)), (12, .int (0 : Int32)), (10, .int (0 : Int32)), (9, .int (0 : Int32)), (8, .int (0 : Int32)), (6, .int (-1 : Int32)), (5, .int (0 : Int32)), (4, .int (-1 : Int32)), (3, .int (0 : Int32)), (0, .ref (ad 0)), (1, .ref (ad 28)), (2, .int (0 : Int32))]) C dL_areSound_173 (by decide) rfl ?_
  refine n_iload C 0 dL_areSound_175 rfl ?_
  refine n_iconst (v := (-1 : Int32)) C dL_areSound_177 (by decide) ?_
  refine n_icmp_lt_f (tgt := 237) C dL_areSound_178 (by decide) (by decide) ?_
  refine n_iload C 0 dL_areSound_181 rfl ?_
  refine n_if_eq_f (tgt := 237) C dL_areSound_183 (by decide) (by decide) ?_
  refine n_iload C 0 dL_areSound_186 rfl ?_
  refine n_bipush (v := (21 : Int32)) C dL_areSound_188 (by decide) ?_
  refine n_icmp_ge_f (tgt := 237) C dL_areSound_190 (by decide) (by decide) ?_
  refine n_aload_n C 12 dL_areSound_193 rfl rfl ?_
  refine n_iload C 5 dL_areSound_194 rfl ?_
  refine n_iload C 1 dL_areSound_196 rfl ?_
  refine n_callv (As := [.int (0 : Int32), .int (6 : Int32)]) (n := 2) C (c_Game_atAnew l hl D cI cJ ad (0 : Int32) (6 : Int32)) zf_atAnew_0_6 ⟨rfl, rfl⟩ gcl5 rfl lwv_atAnew (hR := ⟨Nat.le_of_ble_eq_true rfl, Nat.le_of_ble_eq_true rfl⟩) rfl rfl (Nat.le_of_ble_eq_true rfl) dL_areSound_198 ⟨Nat.le_of_ble_eq_true rfl, Nat.le_of_ble_eq_true rfl⟩ ?_
  refine n_iload_n C 11 dL_areSound_201 rfl rfl ?_
  refine n_if_eq_t (tgt := 210) C dL_areSound_202 (by decide) (by decide) ?_
  refine n_iconst (v := (-1 : Int32)) C dL_areSound_210 (by decide) ?_
  refine n_icmp_ne_t (tgt := 237) C dL_areSound_211 (by decide) (by decide) ?_
  refine n_iload_n C 11 dL_areSound_214 rfl rfl ?_
  refine n_if_eq_t (tgt := 233) C dL_areSound_215 (by decide) (by decide) ?_
  refine n_iconst (v := (1 : Int32)) C dL_areSound_233 (by decide) ?_
  refine n_goto (tgt := 238) C dL_areSound_234 (by decide) ?_
  refine n_istore (L' := [(7, .int (1 : Int32)), (14, .int (-1 : Int32)), (13, .int (6 : Int32)), (11, .int (0 : Int32)), (12, .int (0 : Int32)), (10, .int (0 : Int32)), (9, .int (0 : Int32)), (8, .int (0 : Int32)), (6, .int (-1 : Int32)), (5, .int (0 : Int32)), (4, .int (-1 : Int32)), (3, .int (0 : Int32)), (0, .ref (ad 0)), (1, .ref (ad 28)), (2, .int (0 : Int32))]) C dL_areSound_238 (by decide) rfl ?_
  refine n_iload C 3 dL_areSound_240 rfl ?_
  refine n_iload C 1 dL_areSound_242 rfl ?_
  refine n_if_le_t (tgt := 254) C dL_areSound_244 (by decide) (by decide) ?_
  refine n_iconst (v := (0 : Int32)) C dL_areSound_254 (by decide) ?_
  refine n_ior C dL_areSound_255 ?_
  refine n_eq (v := (0 : Int32)) (by decide) ?_
  refine n_istore (L' := [(11, .int (0 : Int32)), (7, .int (1 : Int32)), (14, .int (-1 : Int32)), (13, .int (6 : Int32)), (12, .int (0 : Int32)), (10, .int (0 : Int32)), (9, .int (0 : Int32)), (8, .int (0 : Int32)), (6, .int (-1 : Int32)), (5, .int (0 : Int32)), (4, .int (-1 : Int32)), (3, .int (0 : Int32)), (0, .ref (ad 0)), (1, .ref (ad 28)), (2, .int (0 : Int32))]) C dL_areSound_256 (by decide) rfl ?_
  refine n_iinc (v := (7 : Int32)) (L' := [(13, .int (7 : Int32)), (11, .int (0 : Int32)), (7, .int (1 : Int32)), (14, .int (-1 : Int32)), (12, .int (0 : Int32)), (10, .int (0 : Int32)), (9, .int (0 : Int32)), (8, .int (0 : Int32)), (6, .int (-1 : Int32)), (5, .int (0 : Int32)), (4, .int (-1 : Int32)), (3, .int (0 : Int32)), (0, .ref (ad 0)), (1, .ref (ad 28)), (2, .int (0 : Int32))]) C 3 dL_areSound_258 rfl (by decide) (by decide) rfl ?_
  refine n_goto (tgt := 153) C dL_areSound_261 (by decide) ?_
  refine n_iload C 0 dL_areSound_153 rfl ?_
  refine n_bipush (v := (7 : Int32)) C dL_areSound_155 (by decide) ?_
  refine n_icmp_ge_t (tgt := 264) C dL_areSound_157 (by decide) (by decide) ?_
  refine n_iload C 7 dL_areSound_264 rfl ?_
  refine n_aload_n C 12 dL_areSound_266 rfl rfl ?_
  refine n_iload C 5 dL_areSound_267 rfl ?_
  refine n_callv (As := [.int (0 : Int32)]) (n := 1) C (c_Game_points l hl D cI cJ ad (0 : Int32)) zf_points_0 ⟨rfl, rfl⟩ gcl5 rfl lwv_points (hR := ⟨Nat.le_of_ble_eq_true rfl, Nat.le_of_ble_eq_true rfl⟩) rfl rfl (Nat.le_of_ble_eq_true rfl) dL_areSound_269 ⟨Nat.le_of_ble_eq_true rfl, Nat.le_of_ble_eq_true rfl⟩ ?_
  refine n_iadd C dL_areSound_272 ?_
  refine n_eq (v := (0 : Int32)) (by decide) ?_
  refine n_istore (L' := [(8, .int (0 : Int32)), (13, .int (7 : Int32)), (11, .int (0 : Int32)), (7, .int (1 : Int32)), (14, .int (-1 : Int32)), (12, .int (0 : Int32)), (10, .int (0 : Int32)), (9, .int (0 : Int32)), (6, .int (-1 : Int32)), (5, .int (0 : Int32)), (4, .int (-1 : Int32)), (3, .int (0 : Int32)), (0, .ref (ad 0)), (1, .ref (ad 28)), (2, .int (0 : Int32))]) C dL_areSound_273 (by decide) rfl ?_
  refine n_iload C 3 dL_areSound_275 rfl ?_
  refine n_if_eq_f (tgt := 378) C dL_areSound_277 (by decide) (by decide) ?_
  refine n_aload_n C 12 dL_areSound_280 rfl rfl ?_
  refine n_iload C 6 dL_areSound_281 rfl ?_
  refine n_callv (As := [.int (0 : Int32)]) (n := 1) C (c_Game_points l hl D cI cJ ad (0 : Int32)) zf_points_0 ⟨rfl, rfl⟩ gcl5 rfl lwv_points (hR := ⟨Nat.le_of_ble_eq_true rfl, Nat.le_of_ble_eq_true rfl⟩) rfl rfl (Nat.le_of_ble_eq_true rfl) dL_areSound_283 ⟨Nat.le_of_ble_eq_true rfl, Nat.le_of_ble_eq_true rfl⟩ ?_
  refine n_if_lt_f (tgt := 378) C dL_areSound_286 (by decide) (by decide) ?_
  refine n_iload_n C 14 dL_areSound_289 rfl rfl ?_
  refine n_iconst (v := (2 : Int32)) C dL_areSound_290 (by decide) ?_
  refine n_irem C dL_areSound_291 (by decide) ?_
  refine n_eq (v := (0 : Int32)) (by decide) ?_
  refine n_iload C 6 dL_areSound_292 rfl ?_
  refine n_icmp_eq_t (tgt := 312) C dL_areSound_294 (by decide) (by decide) ?_
  refine n_aload_n C 12 dL_areSound_312 rfl rfl ?_
  refine n_iload C 6 dL_areSound_313 rfl ?_
  refine n_callv (As := [.int (0 : Int32)]) (n := 1) C (c_Game_sets l hl D cI cJ ad (0 : Int32)) zf_sets_0 ⟨rfl, rfl⟩ gcl5 rfl lwv_sets (hR := ⟨Nat.le_of_ble_eq_true rfl, Nat.le_of_ble_eq_true rfl⟩) rfl rfl (Nat.le_of_ble_eq_true rfl) dL_areSound_315 ⟨Nat.le_of_ble_eq_true rfl, Nat.le_of_ble_eq_true rfl⟩ ?_
  refine n_if_lt_f (tgt := 378) C dL_areSound_318 (by decide) (by decide) ?_
  refine n_aload_n C 12 dL_areSound_321 rfl rfl ?_
  refine n_iload C 6 dL_areSound_322 rfl ?_
  refine n_callv (As := [.int (0 : Int32)]) (n := 1) C (c_Game_sets l hl D cI cJ ad (0 : Int32)) zf_sets_0 ⟨rfl, rfl⟩ gcl5 rfl lwv_sets (hR := ⟨Nat.le_of_ble_eq_true rfl, Nat.le_of_ble_eq_true rfl⟩) rfl rfl (Nat.le_of_ble_eq_true rfl) dL_areSound_324 ⟨Nat.le_of_ble_eq_true rfl, Nat.le_of_ble_eq_true rfl⟩ ?_
  refine n_iconst (v := (3 : Int32)) C dL_areSound_327 (by decide) ?_
  refine n_icmp_gt_f (tgt := 378) C dL_areSound_328 (by decide) (by decide) ?_
  refine n_aload_n C 12 dL_areSound_331 rfl rfl ?_
  refine n_iload C 6 dL_areSound_332 rfl ?_
  refine n_iconst (v := (0 : Int32)) C dL_areSound_334 (by decide) ?_
  refine n_callv (As := [.int (0 : Int32), .int (0 : Int32)]) (n := 2) C (c_Game_of l hl D cI cJ ad (0 : Int32) (0 : Int32)) zf_of_0_0 ⟨rfl, rfl⟩ gcl5 rfl lwv_of (hR := ⟨Nat.le_of_ble_eq_true rfl, Nat.le_of_ble_eq_true rfl⟩) rfl rfl (Nat.le_of_ble_eq_true rfl) dL_areSound_335 ⟨Nat.le_of_ble_eq_true rfl, Nat.le_of_ble_eq_true rfl⟩ ?_
  refine n_if_lt_f (tgt := 378) C dL_areSound_338 (by decide) (by decide) ?_
  refine n_aload_n C 12 dL_areSound_341 rfl rfl ?_
  refine n_iload C 6 dL_areSound_342 rfl ?_
  refine n_iconst (v := (0 : Int32)) C dL_areSound_344 (by decide) ?_
  refine n_callv (As := [.int (0 : Int32), .int (0 : Int32)]) (n := 2) C (c_Game_of l hl D cI cJ ad (0 : Int32) (0 : Int32)) zf_of_0_0 ⟨rfl, rfl⟩ gcl5 rfl lwv_of (hR := ⟨Nat.le_of_ble_eq_true rfl, Nat.le_of_ble_eq_true rfl⟩) rfl rfl (Nat.le_of_ble_eq_true rfl) dL_areSound_345 ⟨Nat.le_of_ble_eq_true rfl, Nat.le_of_ble_eq_true rfl⟩ ?_
  refine n_bipush (v := (6 : Int32)) C dL_areSound_348 (by decide) ?_
  refine n_icmp_gt_f (tgt := 378) C dL_areSound_350 (by decide) (by decide) ?_
  refine n_aload_n C 12 dL_areSound_353 rfl rfl ?_
  refine n_iload C 6 dL_areSound_354 rfl ?_
  refine n_iconst (v := (1 : Int32)) C dL_areSound_356 (by decide) ?_
  refine n_callv (As := [.int (0 : Int32), .int (1 : Int32)]) (n := 2) C (c_Game_of l hl D cI cJ ad (0 : Int32) (1 : Int32)) zf_of_0_1 ⟨rfl, rfl⟩ gcl5 rfl lwv_of (hR := ⟨Nat.le_of_ble_eq_true rfl, Nat.le_of_ble_eq_true rfl⟩) rfl rfl (Nat.le_of_ble_eq_true rfl) dL_areSound_357 ⟨Nat.le_of_ble_eq_true rfl, Nat.le_of_ble_eq_true rfl⟩ ?_
  refine n_if_lt_f (tgt := 378) C dL_areSound_360 (by decide) (by decide) ?_
  refine n_aload_n C 12 dL_areSound_363 rfl rfl ?_
  refine n_iload C 6 dL_areSound_364 rfl ?_
  refine n_iconst (v := (1 : Int32)) C dL_areSound_366 (by decide) ?_
  refine n_callv (As := [.int (0 : Int32), .int (1 : Int32)]) (n := 2) C (c_Game_of l hl D cI cJ ad (0 : Int32) (1 : Int32)) zf_of_0_1 ⟨rfl, rfl⟩ gcl5 rfl lwv_of (hR := ⟨Nat.le_of_ble_eq_true rfl, Nat.le_of_ble_eq_true rfl⟩) rfl rfl (Nat.le_of_ble_eq_true rfl) dL_areSound_367 ⟨Nat.le_of_ble_eq_true rfl, Nat.le_of_ble_eq_true rfl⟩ ?_
  refine n_iconst (v := (2 : Int32)) C dL_areSound_370 (by decide) ?_
  refine n_icmp_gt_f (tgt := 378) C dL_areSound_371 (by decide) (by decide) ?_
  refine n_iconst (v := (1 : Int32)) C dL_areSound_374 (by decide) ?_
  refine n_goto (tgt := 379) C dL_areSound_375 (by decide) ?_
  refine n_istore (L' := [(7, .int (1 : Int32)), (8, .int (0 : Int32)), (13, .int (7 : Int32)), (11, .int (0 : Int32)), (14, .int (-1 : Int32)), (12, .int (0 : Int32)), (10, .int (0 : Int32)), (9, .int (0 : Int32)), (6, .int (-1 : Int32)), (5, .int (0 : Int32)), (4, .int (-1 : Int32)), (3, .int (0 : Int32)), (0, .ref (ad 0)), (1, .ref (ad 28)), (2, .int (0 : Int32))]) C dL_areSound_379 (by decide) rfl ?_
  refine n_iconst (v := (0 : Int32)) C dL_areSound_381 (by decide) ?_
  refine n_istore (L' := [(13, .int (0 : Int32)), (7, .int (1 : Int32)), (8, .int (0 : Int32)), (11, .int (0 : Int32)), (14, .int (-1 : Int32)), (12, .int (0 : Int32)), (10, .int (0 : Int32)), (9, .int (0 : Int32)), (6, .int (-1 : Int32)), (5, .int (0 : Int32)), (4, .int (-1 : Int32)), (3, .int (0 : Int32)), (0, .ref (ad 0)), (1, .ref (ad 28)), (2, .int (0 : Int32))]) C dL_areSound_382 (by decide) rfl ?_
  refine n_iload C 0 dL_areSound_384 rfl ?_
  refine n_bipush (v := (6 : Int32)) C dL_areSound_386 (by decide) ?_
  refine n_icmp_ge_f (tgt := 431) C dL_areSound_388 (by decide) (by decide) ?_
  refine n_iload C 1 dL_areSound_391 rfl ?_
  refine n_if_eq_f (tgt := 431) C dL_areSound_393 (by decide) (by decide) ?_
  refine n_aload_n C 12 dL_areSound_396 rfl rfl ?_
  refine n_iload C 6 dL_areSound_397 rfl ?_
  refine n_iload C 0 dL_areSound_399 rfl ?_
  refine n_callv (As := [.int (0 : Int32), .int (0 : Int32)]) (n := 2) C (c_Game_lost l hl D cI cJ ad (0 : Int32) (0 : Int32)) zf_lost_0_0 ⟨rfl, rfl⟩ gcl5 rfl lwv_lost (hR := ⟨Nat.le_of_ble_eq_true rfl, Nat.le_of_ble_eq_true rfl⟩) rfl rfl (Nat.le_of_ble_eq_true rfl) dL_areSound_401 ⟨Nat.le_of_ble_eq_true rfl, Nat.le_of_ble_eq_true rfl⟩ ?_
  refine n_istore (L' := [(14, .int (0 : Int32)), (13, .int (0 : Int32)), (7, .int (1 : Int32)), (8, .int (0 : Int32)), (11, .int (0 : Int32)), (12, .int (0 : Int32)), (10, .int (0 : Int32)), (9, .int (0 : Int32)), (6, .int (-1 : Int32)), (5, .int (0 : Int32)), (4, .int (-1 : Int32)), (3, .int (0 : Int32)), (0, .ref (ad 0)), (1, .ref (ad 28)), (2, .int (0 : Int32))]) C dL_areSound_404 (by decide) rfl ?_
  refine n_iload C 0 dL_areSound_406 rfl ?_
  refine n_if_lt_f (tgt := 415) C dL_areSound_408 (by decide) (by decide) ?_
  refine n_iconst (v := (1 : Int32)) C dL_areSound_411 (by decide) ?_
  refine n_goto (tgt := 416) C dL_areSound_412 (by decide) ?_
  refine n_istore (L' := [(7, .int (1 : Int32)), (14, .int (0 : Int32)), (13, .int (0 : Int32)), (8, .int (0 : Int32)), (11, .int (0 : Int32)), (12, .int (0 : Int32)), (10, .int (0 : Int32)), (9, .int (0 : Int32)), (6, .int (-1 : Int32)), (5, .int (0 : Int32)), (4, .int (-1 : Int32)), (3, .int (0 : Int32)), (0, .ref (ad 0)), (1, .ref (ad 28)), (2, .int (0 : Int32))]) C dL_areSound_416 (by decide) rfl ?_
  refine n_iload C 7 dL_areSound_418 rfl ?_
  refine n_iload C 1 dL_areSound_420 rfl ?_
  refine n_iadd C dL_areSound_422 ?_
  refine n_eq (v := (0 : Int32)) (by decide) ?_
  refine n_istore (L' := [(9, .int (0 : Int32)), (7, .int (1 : Int32)), (14, .int (0 : Int32)), (13, .int (0 : Int32)), (8, .int (0 : Int32)), (11, .int (0 : Int32)), (12, .int (0 : Int32)), (10, .int (0 : Int32)), (6, .int (-1 : Int32)), (5, .int (0 : Int32)), (4, .int (-1 : Int32)), (3, .int (0 : Int32)), (0, .ref (ad 0)), (1, .ref (ad 28)), (2, .int (0 : Int32))]) C dL_areSound_423 (by decide) rfl ?_
  refine n_iinc (v := (1 : Int32)) (L' := [(13, .int (1 : Int32)), (9, .int (0 : Int32)), (7, .int (1 : Int32)), (14, .int (0 : Int32)), (8, .int (0 : Int32)), (11, .int (0 : Int32)), (12, .int (0 : Int32)), (10, .int (0 : Int32)), (6, .int (-1 : Int32)), (5, .int (0 : Int32)), (4, .int (-1 : Int32)), (3, .int (0 : Int32)), (0, .ref (ad 0)), (1, .ref (ad 28)), (2, .int (0 : Int32))]) C 3 dL_areSound_425 rfl (by decide) (by decide) rfl ?_
  refine n_goto (tgt := 384) C dL_areSound_428 (by decide) ?_
  refine n_iload C 0 dL_areSound_384 rfl ?_
  refine n_bipush (v := (6 : Int32)) C dL_areSound_386 (by decide) ?_
  refine n_icmp_ge_f (tgt := 431) C dL_areSound_388 (by decide) (by decide) ?_
  refine n_iload C 2 dL_areSound_391 rfl ?_
  refine n_if_eq_f (tgt := 431) C dL_areSound_393 (by decide) (by decide) ?_
  refine n_aload_n C 12 dL_areSound_396 rfl rfl ?_
  refine n_iload C 7 dL_areSound_397 rfl ?_
  refine n_iload C 0 dL_areSound_399 rfl ?_
  refine n_callv (As := [.int (0 : Int32), .int (1 : Int32)]) (n := 2) C (c_Game_lost l hl D cI cJ ad (0 : Int32) (1 : Int32)) zf_lost_0_1 ⟨rfl, rfl⟩ gcl5 rfl lwv_lost (hR := ⟨Nat.le_of_ble_eq_true rfl, Nat.le_of_ble_eq_true rfl⟩) rfl rfl (Nat.le_of_ble_eq_true rfl) dL_areSound_401 ⟨Nat.le_of_ble_eq_true rfl, Nat.le_of_ble_eq_true rfl⟩ ?_
  refine n_istore (L' := [(14, .int (0 : Int32)), (13, .int (1 : Int32)), (9, .int (0 : Int32)), (7, .int (1 : Int32)), (8, .int (0 : Int32)), (11, .int (0 : Int32)), (12, .int (0 : Int32)), (10, .int (0 : Int32)), (6, .int (-1 : Int32)), (5, .int (0 : Int32)), (4, .int (-1 : Int32)), (3, .int (0 : Int32)), (0, .ref (ad 0)), (1, .ref (ad 28)), (2, .int (0 : Int32))]) C dL_areSound_404 (by decide) rfl ?_
  refine n_iload C 0 dL_areSound_406 rfl ?_
  refine n_if_lt_f (tgt := 415) C dL_areSound_408 (by decide) (by decide) ?_
  refine n_iconst (v := (1 : Int32)) C dL_areSound_411 (by decide) ?_
  refine n_goto (tgt := 416) C dL_areSound_412 (by decide) ?_
  refine n_istore (L' := [(7, .int (1 : Int32)), (14, .int (0 : Int32)), (13, .int (1 : Int32)), (9, .int (0 : Int32)), (8, .int (0 : Int32)), (11, .int (0 : Int32)), (12, .int (0 : Int32)), (10, .int (0 : Int32)), (6, .int (-1 : Int32)), (5, .int (0 : Int32)), (4, .int (-1 : Int32)), (3, .int (0 : Int32)), (0, .ref (ad 0)), (1, .ref (ad 28)), (2, .int (0 : Int32))]) C dL_areSound_416 (by decide) rfl ?_
  refine n_iload C 3 dL_areSound_418 rfl ?_
  refine n_iload C 1 dL_areSound_420 rfl ?_
  refine n_iadd C dL_areSound_422 ?_
  refine n_eq (v := (0 : Int32)) (by decide) ?_
  refine n_istore (L' := [(9, .int (0 : Int32)), (7, .int (1 : Int32)), (14, .int (0 : Int32)), (13, .int (1 : Int32)), (8, .int (0 : Int32)), (11, .int (0 : Int32)), (12, .int (0 : Int32)), (10, .int (0 : Int32)), (6, .int (-1 : Int32)), (5, .int (0 : Int32)), (4, .int (-1 : Int32)), (3, .int (0 : Int32)), (0, .ref (ad 0)), (1, .ref (ad 28)), (2, .int (0 : Int32))]) C dL_areSound_423 (by decide) rfl ?_
  refine n_iinc (v := (2 : Int32)) (L' := [(13, .int (2 : Int32)), (9, .int (0 : Int32)), (7, .int (1 : Int32)), (14, .int (0 : Int32)), (8, .int (0 : Int32)), (11, .int (0 : Int32)), (12, .int (0 : Int32)), (10, .int (0 : Int32)), (6, .int (-1 : Int32)), (5, .int (0 : Int32)), (4, .int (-1 : Int32)), (3, .int (0 : Int32)), (0, .ref (ad 0)), (1, .ref (ad 28)), (2, .int (0 : Int32))]) C 3 dL_areSound_425 rfl (by decide) (by decide) rfl ?_
  refine n_goto (tgt := 384) C dL_areSound_428 (by decide) ?_
  refine n_iload C 0 dL_areSound_384 rfl ?_
  refine n_bipush (v := (6 : Int32)) C dL_areSound_386 (by decide) ?_
  refine n_icmp_ge_f (tgt := 431) C dL_areSound_388 (by decide) (by decide) ?_
  refine n_iload C 2 dL_areSound_391 rfl ?_
  refine n_if_eq_f (tgt := 431) C dL_areSound_393 (by decide) (by decide) ?_
  refine n_aload_n C 12 dL_areSound_396 rfl rfl ?_
  refine n_iload C 7 dL_areSound_397 rfl ?_
  refine n_iload C 0 dL_areSound_399 rfl ?_
  refine n_callv (As := [.int (0 : Int32), .int (2 : Int32)]) (n := 2) C (c_Game_lost l hl D cI cJ ad (0 : Int32) (2 : Int32)) zf_lost_0_2 ⟨rfl, rfl⟩ gcl5 rfl lwv_lost (hR := ⟨Nat.le_of_ble_eq_true rfl, Nat.le_of_ble_eq_true rfl⟩) rfl rfl (Nat.le_of_ble_eq_true rfl) dL_areSound_401 ⟨Nat.le_of_ble_eq_true rfl, Nat.le_of_ble_eq_true rfl⟩ ?_
  refine n_istore (L' := [(14, .int (0 : Int32)), (13, .int (2 : Int32)), (9, .int (0 : Int32)), (7, .int (1 : Int32)), (8, .int (0 : Int32)), (11, .int (0 : Int32)), (12, .int (0 : Int32)), (10, .int (0 : Int32)), (6, .int (-1 : Int32)), (5, .int (0 : Int32)), (4, .int (-1 : Int32)), (3, .int (0 : Int32)), (0, .ref (ad 0)), (1, .ref (ad 28)), (2, .int (0 : Int32))]) C dL_areSound_404 (by decide) rfl ?_
  refine n_iload C 0 dL_areSound_406 rfl ?_
  refine n_if_lt_f (tgt := 415) C dL_areSound_408 (by decide) (by decide) ?_
  refine n_iconst (v := (1 : Int32)) C dL_areSound_411 (by decide) ?_
  refine n_goto (tgt := 416) C dL_areSound_412 (by decide) ?_
  refine n_istore (L' := [(7, .int (1 : Int32)), (14, .int (0 : Int32)), (13, .int (2 : Int32)), (9, .int (0 : Int32)), (8, .int (0 : Int32)), (11, .int (0 : Int32)), (12, .int (0 : Int32)), (10, .int (0 : Int32)), (6, .int (-1 : Int32)), (5, .int (0 : Int32)), (4, .int (-1 : Int32)), (3, .int (0 : Int32)), (0, .ref (ad 0)), (1, .ref (ad 28)), (2, .int (0 : Int32))]) C dL_areSound_416 (by decide) rfl ?_
  refine n_iload C 3 dL_areSound_418 rfl ?_
  refine n_iload C 1 dL_areSound_420 rfl ?_
  refine n_iadd C dL_areSound_422 ?_
  refine n_eq (v := (0 : Int32)) (by decide) ?_
  refine n_istore (L' := [(9, .int (0 : Int32)), (7, .int (1 : Int32)), (14, .int (0 : Int32)), (13, .int (2 : Int32)), (8, .int (0 : Int32)), (11, .int (0 : Int32)), (12, .int (0 : Int32)), (10, .int (0 : Int32)), (6, .int (-1 : Int32)), (5, .int (0 : Int32)), (4, .int (-1 : Int32)), (3, .int (0 : Int32)), (0, .ref (ad 0)), (1, .ref (ad 28)), (2, .int (0 : Int32))]) C dL_areSound_423 (by decide) rfl ?_
  refine n_iinc (v := (3 : Int32)) (L' := [(13, .int (3 : Int32)), (9, .int (0 : Int32)), (7, .int (1 : Int32)), (14, .int (0 : Int32)), (8, .int (0 : Int32)), (11, .int (0 : Int32)), (12, .int (0 : Int32)), (10, .int (0 : Int32)), (6, .int (-1 : Int32)), (5, .int (0 : Int32)), (4, .int (-1 : Int32)), (3, .int (0 : Int32)), (0, .ref (ad 0)), (1, .ref (ad 28)), (2, .int (0 : Int32))]) C 3 dL_areSound_425 rfl (by decide) (by decide) rfl ?_
  refine n_goto (tgt := 384) C dL_areSound_428 (by decide) ?_
  refine n_iload C 0 dL_areSound_384 rfl ?_
  refine n_bipush (v := (6 : Int32)) C dL_areSound_386 (by decide) ?_
  refine n_icmp_ge_f (tgt := 431) C dL_areSound_388 (by decide) (by decide) ?_
  refine n_iload C 2 dL_areSound_391 rfl ?_
  refine n_if_eq_f (tgt := 431) C dL_areSound_393 (by decide) (by decide) ?_
  refine n_aload_n C 12 dL_areSound_396 rfl rfl ?_
  refine n_iload C 7 dL_areSound_397 rfl ?_
  refine n_iload C 0 dL_areSound_399 rfl ?_
  refine n_callv (As := [.int (0 : Int32), .int (3 : Int32)]) (n := 2) C (c_Game_lost l hl D cI cJ ad (0 : Int32) (3 : Int32)) zf_lost_0_3 ⟨rfl, rfl⟩ gcl5 rfl lwv_lost (hR := ⟨Nat.le_of_ble_eq_true rfl, Nat.le_of_ble_eq_true rfl⟩) rfl rfl (Nat.le_of_ble_eq_true rfl) dL_areSound_401 ⟨Nat.le_of_ble_eq_true rfl, Nat.le_of_ble_eq_true rfl⟩ ?_
  refine n_istore (L' := [(14, .int (0 : Int32)), (13, .int (3 : Int32)), (9, .int (0 : Int32)), (7, .int (1 : Int32)), (8, .int (0 : Int32)), (11, .int (0 : Int32)), (12, .int (0 : Int32)), (10, .int (0 : Int32)), (6, .int (-1 : Int32)), (5, .int (0 : Int32)), (4, .int (-1 : Int32)), (3, .int (0 : Int32)), (0, .ref (ad 0)), (1, .ref (ad 28)), (2, .int (0 : Int32))]) C dL_areSound_404 (by decide) rfl ?_
  refine n_iload C 0 dL_areSound_406 rfl ?_
  refine n_if_lt_f (tgt := 415) C dL_areSound_408 (by decide) (by decide) ?_
  refine n_iconst (v := (1 : Int32)) C dL_areSound_411 (by decide) ?_
  refine n_goto (tgt := 416) C dL_areSound_412 (by decide) ?_
  refine n_istore (L' := [(7, .int (1 : Int32)), (14, .int (0 : Int32)), (13, .int (3 : Int32)), (9, .int (0 : Int32)), (8, .int (0 : Int32)), (11, .int (0 : Int32)), (12, .int (0 : Int32)), (10, .int (0 : Int32)), (6, .int (-1 : Int32)), (5, .int (0 : Int32)), (4, .int (-1 : Int32)), (3, .int (0 : Int32)), (0, .ref (ad 0)), (1, .ref (ad 28)), (2, .int (0 : Int32))]) C dL_areSound_416 (by decide) rfl ?_
  refine n_iload C 3 dL_areSound_418 rfl ?_
  refine n_iload C 1 dL_areSound_420 rfl ?_
  refine n_iadd C dL_areSound_422 ?_
  refine n_eq (v := (0 : Int32)) (by decide) ?_
  refine n_istore (L' := [(9, .int (0 : Int32)), (7, .int (1 : Int32)), (14, .int (0 : Int32)), (13, .int (3 : Int32)), (8, .int (0 : Int32)), (11, .int (0 : Int32)), (12, .int (0 : Int32)), (10, .int (0 : Int32)), (6, .int (-1 : Int32)), (5, .int (0 : Int32)), (4, .int (-1 : Int32)), (3, .int (0 : Int32)), (0, .ref (ad 0)), (1, .ref (ad 28)), (2, .int (0 : Int32))]) C dL_areSound_423 (by decide) rfl ?_
  refine n_iinc (v := (4 : Int32)) (L' := [(13, .int (4 : Int32)), (9, .int (0 : Int32)), (7, .int (1 : Int32)), (14, .int (0 : Int32)), (8, .int (0 : Int32)), (11, .int (0 : Int32)), (12, .int (0 : Int32)), (10, .int (0 : Int32)), (6, .int (-1 : Int32)), (5, .int (0 : Int32)), (4, .int (-1 : Int32)), (3, .int (0 : Int32)), (0, .ref (ad 0)), (1, .ref (ad 28)), (2, .int (0 : Int32))]) C 3 dL_areSound_425 rfl (by decide) (by decide) rfl ?_
  refine n_goto (tgt := 384) C dL_areSound_428 (by decide) ?_
  refine n_iload C 0 dL_areSound_384 rfl ?_
  refine n_bipush (v := (6 : Int32)) C dL_areSound_386 (by decide) ?_
  refine n_icmp_ge_f (tgt := 431) C dL_areSound_388 (by decide) (by decide) ?_
  refine n_iload C 2 dL_areSound_391 rfl ?_
  refine n_if_eq_f (tgt := 431) C dL_areSound_393 (by decide) (by decide) ?_
  refine n_aload_n C 12 dL_areSound_396 rfl rfl ?_
  refine n_iload C 7 dL_areSound_397 rfl ?_
  refine n_iload C 0 dL_areSound_399 rfl ?_
  refine n_callv (As := [.int (0 : Int32), .int (4 : Int32)]) (n := 2) C (c_Game_lost l hl D cI cJ ad (0 : Int32) (4 : Int32)) zf_lost_0_4 ⟨rfl, rfl⟩ gcl5 rfl lwv_lost (hR := ⟨Nat.le_of_ble_eq_true rfl, Nat.le_of_ble_eq_true rfl⟩) rfl rfl (Nat.le_of_ble_eq_true rfl) dL_areSound_401 ⟨Nat.le_of_ble_eq_true rfl, Nat.le_of_ble_eq_true rfl⟩ ?_
  refine n_istore (L' := [(14, .int (0 : Int32)), (13, .int (4 : Int32)), (9, .int (0 : Int32)), (7, .int (1 : Int32)), (8, .int (0 : Int32)), (11, .int (0 : Int32)), (12, .int (0 : Int32)), (10, .int (0 : Int32)), (6, .int (-1 : Int32)), (5, .int (0 : Int32)), (4, .int (-1 : Int32)), (3, .int (0 : Int32)), (0, .ref (ad 0)), (1, .ref (ad 28)), (2, .int (0 : Int32))]) C dL_areSound_404 (by decide) rfl ?_
  refine n_iload C 0 dL_areSound_406 rfl ?_
  refine n_if_lt_f (tgt := 415) C dL_areSound_408 (by decide) (by decide) ?_
  refine n_iconst (v := (1 : Int32)) C dL_areSound_411 (by decide) ?_
  refine n_goto (tgt := 416) C dL_areSound_412 (by decide) ?_
  refine n_istore (L' := [(7, .int (1 : Int32)), (14, .int (0 : Int32)), (13, .int (4 : Int32)), (9, .int (0 : Int32)), (8, .int (0 : Int32)), (11, .int (0 : Int32)), (12, .int (0 : Int32)), (10, .int (0 : Int32)), (6, .int (-1 : Int32)), (5, .int (0 : Int32)), (4, .int (-1 : Int32)), (3, .int (0 : Int32)), (0, .ref (ad 0)), (1, .ref (ad 28)), (2, .int (0 : Int32))]) C dL_areSound_416 (by decide) rfl ?_
  refine n_iload C 3 dL_areSound_418 rfl ?_
  refine n_iload C 1 dL_areSound_420 rfl ?_
  refine n_iadd C dL_areSound_422 ?_
  refine n_eq (v := (0 : Int32)) (by decide) ?_
  refine n_istore (L' := [(9, .int (0 : Int32)), (7, .int (1 : Int32)), (14, .int (0 : Int32)), (13, .int (4 : Int32)), (8, .int (0 : Int32)), (11, .int (0 : Int32)), (12, .int (0 : Int32)), (10, .int (0 : Int32)), (6, .int (-1 : Int32)), (5, .int (0 : Int32)), (4, .int (-1 : Int32)), (3, .int (0 : Int32)), (0, .ref (ad 0)), (1, .ref (ad 28)), (2, .int (0 : Int32))]) C dL_areSound_423 (by decide) rfl ?_
  refine n_iinc (v := (5 : Int32)) (L' := [(13, .int (5 : Int32)), (9, .int (0 : Int32)), (7, .int (1 : Int32)), (14, .int (0 : Int32)), (8, .int (0 : Int32)), (11, .int (0 : Int32)), (12, .int (0 : Int32)), (10, .int (0 : Int32)), (6, .int (-1 : Int32)), (5, .int (0 : Int32)), (4, .int (-1 : Int32)), (3, .int (0 : Int32)), (0, .ref (ad 0)), (1, .ref (ad 28)), (2, .int (0 : Int32))]) C 3 dL_areSound_425 rfl (by decide) (by decide) rfl ?_
  refine n_goto (tgt := 384) C dL_areSound_428 (by decide) ?_
  refine n_iload C 0 dL_areSound_384 rfl ?_
  refine n_bipush (v := (6 : Int32)) C dL_areSound_386 (by decide) ?_
  refine n_icmp_ge_f (tgt := 431) C dL_areSound_388 (by decide) (by decide) ?_
  refine n_iload C 2 dL_areSound_391 rfl ?_
  refine n_if_eq_f (tgt := 431) C dL_areSound_393 (by decide) (by decide) ?_
  refine n_aload_n C 12 dL_areSound_396 rfl rfl ?_
  refine n_iload C 7 dL_areSound_397 rfl ?_
  refine n_iload C 0 dL_areSound_399 rfl ?_
  refine n_callv (As := [.int (0 : Int32), .int (5 : Int32)]) (n := 2) C (c_Game_lost l hl D cI cJ ad (0 : Int32) (5 : Int32)) zf_lost_0_5 ⟨rfl, rfl⟩ gcl5 rfl lwv_lost (hR := ⟨Nat.le_of_ble_eq_true rfl, Nat.le_of_ble_eq_true rfl⟩) rfl rfl (Nat.le_of_ble_eq_true rfl) dL_areSound_401 ⟨Nat.le_of_ble_eq_true rfl, Nat.le_of_ble_eq_true rfl⟩ ?_
  refine n_istore (L' := [(14, .int (0 : Int32)), (13, .int (5 : Int32)), (9, .int (0 : Int32)), (7, .int (1 : Int32)), (8, .int (0 : Int32)), (11, .int (0 : Int32)), (12, .int (0 : Int32)), (10, .int (0 : Int32)), (6, .int (-1 : Int32)), (5, .int (0 : Int32)), (4, .int (-1 : Int32)), (3, .int (0 : Int32)), (0, .ref (ad 0)), (1, .ref (ad 28)), (2, .int (0 : Int32))]) C dL_areSound_404 (by decide) rfl ?_
  refine n_iload C 0 dL_areSound_406 rfl ?_
  refine n_if_lt_f (tgt := 415) C dL_areSound_408 (by decide) (by decide) ?_
  refine n_iconst (v := (1 : Int32)) C dL_areSound_411 (by decide) ?_
  refine n_goto (tgt := 416) C dL_areSound_412 (by decide) ?_
  refine n_istore (L' := [(7, .int (1 : Int32)), (14, .int (0 : Int32)), (13, .int (5 : Int32)), (9, .int (0 : Int32)), (8, .int (0 : Int32)), (11, .int (0 : Int32)), (12, .int (0 : Int32)), (10, .int (0 : Int32)), (6, .int (-1 : Int32)), (5, .int (0 : Int32)), (4, .int (-1 : Int32)), (3, .int (0 : Int32)), (0, .ref (ad 0)), (1, .ref (ad 28)), (2, .int (0 : Int32))]) C dL_areSound_416 (by decide) rfl ?_
  refine n_iload C 3 dL_areSound_418 rfl ?_
  refine n_iload C 1 dL_areSound_420 rfl ?_
  refine n_iadd C dL_areSound_422 ?_
  refine n_eq (v := (0 : Int32)) (by decide) ?_
  refine n_istore (L' := [(9, .int (0 : Int32)), (7, .int (1 : Int32)), (14, .int (0 : Int32)), (13, .int (5 : Int32)), (8, .int (0 : Int32)), (11, .int (0 : Int32)), (12, .int (0 : Int32)), (10, .int (0 : Int32)), (6, .int (-1 : Int32)), (5, .int (0 : Int32)), (4, .int (-1 : Int32)), (3, .int (0 : Int32)), (0, .ref (ad 0)), (1, .ref (ad 28)), (2, .int (0 : Int32))]) C dL_areSound_423 (by decide) rfl ?_
  refine n_iinc (v := (6 : Int32)) (L' := [(13, .int (6 : Int32)), (9, .int (0 : Int32)), (7, .int (1 : Int32)), (14, .int (0 : Int32)), (8, .int (0 : Int32)), (11, .int (0 : Int32)), (12, .int (0 : Int32)), (10, .int (0 : Int32)), (6, .int (-1 : Int32)), (5, .int (0 : Int32)), (4, .int (-1 : Int32)), (3, .int (0 : Int32)), (0, .ref (ad 0)), (1, .ref (ad 28)), (2, .int (0 : Int32))]) C 3 dL_areSound_425 rfl (by decide) (by decide) rfl ?_
  refine n_goto (tgt := 384) C dL_areSound_428 (by decide) ?_
  refine n_iload C 0 dL_areSound_384 rfl ?_
  refine n_bipush (v := (6 : Int32)) C dL_areSound_386 (by decide) ?_
  refine n_icmp_ge_t (tgt := 431) C dL_areSound_388 (by decide) (by decide) ?_
  refine n_iinc (v := (1 : Int32)) (L' := [(10, .int (1 : Int32)), (13, .int (6 : Int32)), (9, .int (0 : Int32)), (7, .int (1 : Int32)), (14, .int (0 : Int32)), (8, .int (0 : Int32)), (11, .int (0 : Int32)), (12, .int (0 : Int32)), (6, .int (-1 : Int32)), (5, .int (0 : Int32)), (4, .int (-1 : Int32)), (3, .int (0 : Int32)), (0, .ref (ad 0)), (1, .ref (ad 28)), (2, .int (0 : Int32))]) C 7 dL_areSound_431 rfl (by decide) (by decide) rfl ?_
  refine n_goto (tgt := 133) C dL_areSound_434 (by decide) ?_
  refine n_iload C 0 dL_areSound_133 rfl ?_
  refine n_iconst (v := (2 : Int32)) C dL_areSound_135 (by decide) ?_
  refine n_icmp_ge_f (tgt := 437) C dL_areSound_136 (by decide) (by decide) ?_
  refine n_iload C 3 dL_areSound_139 rfl ?_
  refine n_if_eq_f (tgt := 437) C dL_areSound_141 (by decide) (by decide) ?_
  refine n_iconst (v := (0 : Int32)) C dL_areSound_144 (by decide) ?_
  refine n_istore (L' := [(11, .int (0 : Int32)), (10, .int (1 : Int32)), (13, .int (6 : Int32)), (9, .int (0 : Int32)), (7, .int (1 : Int32)), (14, .int (0 : Int32)), (8, .int (0 : Int32)), (12, .int (0 : Int32)), (6, .int (-1 : Int32)), (5, .int (0 : Int32)), (4, .int (-1 : Int32)), (3, .int (0 : Int32)), (0, .ref (ad 0)), (1, .ref (ad 28)), (2, .int (0 : Int32))]) C dL_areSound_145 (by decide) rfl ?_
  refine n_iconst (v := (0 : Int32)) C dL_areSound_147 (by decide) ?_
  refine n_istore (L' := [(12, .int (0 : Int32)), (11, .int (0 : Int32)), (10, .int (1 : Int32)), (13, .int (6 : Int32)), (9, .int (0 : Int32)), (7, .int (1 : Int32)), (14, .int (0 : Int32)), (8, .int (0 : Int32)), (6, .int (-1 : Int32)), (5, .int (0 : Int32)), (4, .int (-1 : Int32)), (3, .int (0 : Int32)), (0, .ref (ad 0)), (1, .ref (ad 28)), (2, .int (0 : Int32))]) C dL_areSound_148 (by decide) rfl ?_
  refine n_iconst (v := (1 : Int32)) C dL_areSound_150 (by decide) ?_
  refine n_istore (L' := [(13, .int (1 : Int32)), (12, .int (0 : Int32)), (11, .int (0 : Int32)), (10, .int (1 : Int32)), (9, .int (0 : Int32)), (7, .int (1 : Int32)), (14, .int (0 : Int32)), (8, .int (0 : Int32)), (6, .int (-1 : Int32)), (5, .int (0 : Int32)), (4, .int (-1 : Int32)), (3, .int (0 : Int32)), (0, .ref (ad 0)), (1, .ref (ad 28)), (2, .int (0 : Int32))]) C dL_areSound_151 (by decide) rfl ?_
  refine n_iload C 0 dL_areSound_153 rfl ?_
  refine n_bipush (v := (7 : Int32)) C dL_areSound_155 (by decide) ?_
  refine n_icmp_ge_f (tgt := 264) C dL_areSound_157 (by decide) (by decide) ?_
  refine n_iload C 5 dL_areSound_160 rfl ?_
  refine n_if_eq_f (tgt := 264) C dL_areSound_162 (by decide) (by decide) ?_
  refine n_aload_n C 12 dL_areSound_165 rfl rfl ?_
  refine n_iload C 3 dL_areSound_166 rfl ?_
  refine n_iload C 0 dL_areSound_168 rfl ?_
  refine n_callv (As := [.int (1 : Int32), .int (1 : Int32)]) (n := 2) C (c_Game_at l hl D cI cJ ad (1 : Int32) (1 : Int32)) zf_at_1_1 ⟨rfl, rfl⟩ gcl5 rfl lwv_at (hR := ⟨Nat.le_of_ble_eq_true rfl, Nat.le_of_ble_eq_true rfl⟩) rfl rfl (Nat.le_of_ble_eq_true rfl) dL_areSound_170 ⟨Nat.le_of_ble_eq_true rfl, Nat.le_of_ble_eq_true rfl⟩ ?_
  refine n_istore (L' := [(14, .int (-1 : Int32)), (13, .int (1 : Int32)), (12, .int (0 : Int32)), (11, .int (0 : Int32)), (10, .int (1 : Int32)), (9, .int (0 : Int32)), (7, .int (1 : Int32)), (8, .int (0 : Int32)), (6, .int (-1 : Int32)), (5, .int (0 : Int32)), (4, .int (-1 : Int32)), (3, .int (0 : Int32)), (0, .ref (ad 0)), (1, .ref (ad 28)), (2, .int (0 : Int32))]) C dL_areSound_173 (by decide) rfl ?_
  refine n_iload C 0 dL_areSound_175 rfl ?_
  refine n_iconst (v := (-1 : Int32)) C dL_areSound_177 (by decide) ?_
  refine n_icmp_lt_f (tgt := 237) C dL_areSound_178 (by decide) (by decide) ?_
  refine n_iload C 0 dL_areSound_181 rfl ?_
  refine n_if_eq_f (tgt := 237) C dL_areSound_183 (by decide) (by decide) ?_
  refine n_iload C 0 dL_areSound_186 rfl ?_
  refine n_bipush (v := (21 : Int32)) C dL_areSound_188 (by decide) ?_
  refine n_icmp_ge_f (tgt := 237) C dL_areSound_190 (by decide) (by decide) ?_
  refine n_aload_n C 12 dL_areSound_193 rfl rfl ?_
  refine n_iload C 4 dL_areSound_194 rfl ?_
  refine n_iload C 1 dL_areSound_196 rfl ?_
  refine n_callv (As := [.int (1 : Int32), .int (1 : Int32)]) (n := 2) C (c_Game_atAnew l hl D cI cJ ad (1 : Int32) (1 : Int32)) zf_atAnew_1_1 ⟨rfl, rfl⟩ gcl5 rfl lwv_atAnew (hR := ⟨Nat.le_of_ble_eq_true rfl, Nat.le_of_ble_eq_true rfl⟩) rfl rfl (Nat.le_of_ble_eq_true rfl) dL_areSound_198 ⟨Nat.le_of_ble_eq_true rfl, Nat.le_of_ble_eq_true rfl⟩ ?_
  refine n_iload_n C 11 dL_areSound_201 rfl rfl ?_
  refine n_if_eq_t (tgt := 210) C dL_areSound_202 (by decide) (by decide) ?_
  refine n_iconst (v := (-1 : Int32)) C dL_areSound_210 (by decide) ?_
  refine n_icmp_ne_t (tgt := 237) C dL_areSound_211 (by decide) (by decide) ?_
  refine n_iload_n C 11 dL_areSound_214 rfl rfl ?_
  refine n_if_eq_t (tgt := 233) C dL_areSound_215 (by decide) (by decide) ?_
  refine n_iconst (v := (1 : Int32)) C dL_areSound_233 (by decide) ?_
  refine n_goto (tgt := 238) C dL_areSound_234 (by decide) ?_
  refine n_istore (L' := [(7, .int (1 : Int32)), (14, .int (-1 : Int32)), (13, .int (1 : Int32)), (12, .int (0 : Int32)), (11, .int (0 : Int32)), (10, .int (1 : Int32)), (9, .int (0 : Int32)), (8, .int (0 : Int32)), (6, .int (-1 : Int32)), (5, .int (0 : Int32)), (4, .int (-1 : Int32)), (3, .int (0 : Int32)), (0, .ref (ad 0)), (1, .ref (ad 28)), (2, .int (0 : Int32))]) C dL_areSound_238 (by decide) rfl ?_
  refine n_iload C 4 dL_areSound_240 rfl ?_
  refine n_iload C 1 dL_areSound_242 rfl ?_
  refine n_if_le_t (tgt := 254) C dL_areSound_244 (by decide) (by decide) ?_
  refine n_iconst (v := (0 : Int32)) C dL_areSound_254 (by decide) ?_
  refine n_ior C dL_areSound_255 ?_
  refine n_eq (v := (0 : Int32)) (by decide) ?_
  refine n_istore (L' := [(11, .int (0 : Int32)), (7, .int (1 : Int32)), (14, .int (-1 : Int32)), (13, .int (1 : Int32)), (12, .int (0 : Int32)), (10, .int (1 : Int32)), (9, .int (0 : Int32)), (8, .int (0 : Int32)), (6, .int (-1 : Int32)), (5, .int (0 : Int32)), (4, .int (-1 : Int32)), (3, .int (0 : Int32)), (0, .ref (ad 0)), (1, .ref (ad 28)), (2, .int (0 : Int32))]) C dL_areSound_256 (by decide) rfl ?_
  refine n_iinc (v := (2 : Int32)) (L' := [(13, .int (2 : Int32)), (11, .int (0 : Int32)), (7, .int (1 : Int32)), (14, .int (-1 : Int32)), (12, .int (0 : Int32)), (10, .int (1 : Int32)), (9, .int (0 : Int32)), (8, .int (0 : Int32)), (6, .int (-1 : Int32)), (5, .int (0 : Int32)), (4, .int (-1 : Int32)), (3, .int (0 : Int32)), (0, .ref (ad 0)), (1, .ref (ad 28)), (2, .int (0 : Int32))]) C 3 dL_areSound_258 rfl (by decide) (by decide) rfl ?_
  refine n_goto (tgt := 153) C dL_areSound_261 (by decide) ?_
  refine n_iload C 0 dL_areSound_153 rfl ?_
  refine n_bipush (v := (7 : Int32)) C dL_areSound_155 (by decide) ?_
  refine n_icmp_ge_f (tgt := 264) C dL_areSound_157 (by decide) (by decide) ?_
  refine n_iload C 2 dL_areSound_160 rfl ?_
  refine n_if_eq_f (tgt := 264) C dL_areSound_162 (by decide) (by decide) ?_
  refine n_aload_n C 12 dL_areSound_165 rfl rfl ?_
  refine n_iload C 5 dL_areSound_166 rfl ?_
  refine n_iload C 0 dL_areSound_168 rfl ?_
  refine n_callv (As := [.int (1 : Int32), .int (2 : Int32)]) (n := 2) C (c_Game_at l hl D cI cJ ad (1 : Int32) (2 : Int32)) zf_at_1_2 ⟨rfl, rfl⟩ gcl5 rfl lwv_at (hR := ⟨Nat.le_of_ble_eq_true rfl, Nat.le_of_ble_eq_true rfl⟩) rfl rfl (Nat.le_of_ble_eq_true rfl) dL_areSound_170 ⟨Nat.le_of_ble_eq_true rfl, Nat.le_of_ble_eq_true rfl⟩ ?_
  refine n_istore (L' := [(14, .int (-1 : Int32)), (13, .int (2 : Int32)), (11, .int (0 : Int32)), (7, .int (1 : Int32)), (12, .int (0 : Int32)), (10, .int (1 : Int32)), (9, .int (0 : Int32)), (8, .int (0 : Int32)), (6, .int (-1 : Int32)), (5, .int (0 : Int32)), (4, .int (-1 : Int32)), (3, .int (0 : Int32)), (0, .ref (ad 0)), (1, .ref (ad 28)), (2, .int (0 : Int32))]) C dL_areSound_173 (by decide) rfl ?_
  refine n_iload C 0 dL_areSound_175 rfl ?_
  refine n_iconst (v := (-1 : Int32)) C dL_areSound_177 (by decide) ?_
  refine n_icmp_lt_f (tgt := 237) C dL_areSound_178 (by decide) (by decide) ?_
  refine n_iload C 0 dL_areSound_181 rfl ?_
  refine n_if_eq_f (tgt := 237) C dL_areSound_183 (by decide) (by decide) ?_
  refine n_iload C 0 dL_areSound_186 rfl ?_
  refine n_bipush (v := (21 : Int32)) C dL_areSound_188 (by decide) ?_
  refine n_icmp_ge_f (tgt := 237) C dL_areSound_190 (by decide) (by decide) ?_
  refine n_aload_n C 12 dL_areSound_193 rfl rfl ?_
  refine n_iload C 5 dL_areSound_194 rfl ?_
  refine n_iload C 1 dL_areSound_196 rfl ?_
  refine n_callv (As := [.int (1 : Int32), .int (2 : Int32)]) (n := 2) C (c_Game_atAnew l hl D cI cJ ad (1 : Int32) (2 : Int32)) zf_atAnew_1_2 ⟨rfl, rfl⟩ gcl5 rfl lwv_atAnew (hR := ⟨Nat.le_of_ble_eq_true rfl, Nat.le_of_ble_eq_true rfl⟩) rfl rfl (Nat.le_of_ble_eq_true rfl) dL_areSound_198 ⟨Nat.le_of_ble_eq_true rfl, Nat.le_of_ble_eq_true rfl⟩ ?_
  refine n_iload_n C 11 dL_areSound_201 rfl rfl ?_
  refine n_if_eq_t (tgt := 210) C dL_areSound_202 (by decide) (by decide) ?_
  refine n_iconst (v := (-1 : Int32)) C dL_areSound_210 (by decide) ?_
  refine n_icmp_ne_t (tgt := 237) C dL_areSound_211 (by decide) (by decide) ?_
  refine n_iload_n C 11 dL_areSound_214 rfl rfl ?_
  refine n_if_eq_t (tgt := 233) C dL_areSound_215 (by decide) (by decide) ?_
  refine n_iconst (v := (1 : Int32)) C dL_areSound_233 (by decide) ?_
  refine n_goto (tgt := 238) C dL_areSound_234 (by decide) ?_
  refine n_istore (L' := [(7, .int (1 : Int32)), (14, .int (-1 : Int32)), (13, .int (2 : Int32)), (11, .int (0 : Int32)), (12, .int (0 : Int32)), (10, .int (1 : Int32)), (9, .int (0 : Int32)), (8, .int (0 : Int32)), (6, .int (-1 : Int32)), (5, .int (0 : Int32)), (4, .int (-1 : Int32)), (3, .int (0 : Int32)), (0, .ref (ad 0)), (1, .ref (ad 28)), (2, .int (0 : Int32))]) C dL_areSound_238 (by decide) rfl ?_
  refine n_iload C 3 dL_areSound_240 rfl ?_
  refine n_iload C 1 dL_areSound_242 rfl ?_
  refine n_if_le_t (tgt := 254) C dL_areSound_244 (by decide) (by decide) ?_
  refine n_iconst (v := (0 : Int32)) C dL_areSound_254 (by decide) ?_
  refine n_ior C dL_areSound_255 ?_
  refine n_eq (v := (0 : Int32)) (by decide) ?_
  refine n_istore (L' := [(11, .int (0 : Int32)), (7, .int (1 : Int32)), (14, .int (-1 : Int32)), (13, .int (2 : Int32)), (12, .int (0 : Int32)), (10, .int (1 : Int32)), (9, .int (0 : Int32)), (8, .int (0 : Int32)), (6, .int (-1 : Int32)), (5, .int (0 : Int32)), (4, .int (-1 : Int32)), (3, .int (0 : Int32)), (0, .ref (ad 0)), (1, .ref (ad 28)), (2, .int (0 : Int32))]) C dL_areSound_256 (by decide) rfl ?_
  refine n_iinc (v := (3 : Int32)) (L' := [(13, .int (3 : Int32)), (11, .int (0 : Int32)), (7, .int (1 : Int32)), (14, .int (-1 : Int32)), (12, .int (0 : Int32)), (10, .int (1 : Int32)), (9, .int (0 : Int32)), (8, .int (0 : Int32)), (6, .int (-1 : Int32)), (5, .int (0 : Int32)), (4, .int (-1 : Int32)), (3, .int (0 : Int32)), (0, .ref (ad 0)), (1, .ref (ad 28)), (2, .int (0 : Int32))]) C 3 dL_areSound_258 rfl (by decide) (by decide) rfl ?_
  refine n_goto (tgt := 153) C dL_areSound_261 (by decide) ?_
  refine n_iload C 0 dL_areSound_153 rfl ?_
  refine n_bipush (v := (7 : Int32)) C dL_areSound_155 (by decide) ?_
  refine n_icmp_ge_f (tgt := 264) C dL_areSound_157 (by decide) (by decide) ?_
  refine n_iload C 2 dL_areSound_160 rfl ?_
  refine n_if_eq_f (tgt := 264) C dL_areSound_162 (by decide) (by decide) ?_
  refine n_aload_n C 12 dL_areSound_165 rfl rfl ?_
  refine n_iload C 5 dL_areSound_166 rfl ?_
  refine n_iload C 0 dL_areSound_168 rfl ?_
  refine n_callv (As := [.int (1 : Int32), .int (3 : Int32)]) (n := 2) C (c_Game_at l hl D cI cJ ad (1 : Int32) (3 : Int32)) zf_at_1_3 ⟨rfl, rfl⟩ gcl5 rfl lwv_at (hR := ⟨Nat.le_of_ble_eq_true rfl, Nat.le_of_ble_eq_true rfl⟩) rfl rfl (Nat.le_of_ble_eq_true rfl) dL_areSound_170 ⟨Nat.le_of_ble_eq_true rfl, Nat.le_of_ble_eq_true rfl⟩ ?_
  refine n_istore (L' := [(14, .int (-1 : Int32)), (13, .int (3 : Int32)), (11, .int (0 : Int32)), (7, .int (1 : Int32)), (12, .int (0 : Int32)), (10, .int (1 : Int32)), (9, .int (0 : Int32)), (8, .int (0 : Int32)), (6, .int (-1 : Int32)), (5, .int (0 : Int32)), (4, .int (-1 : Int32)), (3, .int (0 : Int32)), (0, .ref (ad 0)), (1, .ref (ad 28)), (2, .int (0 : Int32))]) C dL_areSound_173 (by decide) rfl ?_
  refine n_iload C 0 dL_areSound_175 rfl ?_
  refine n_iconst (v := (-1 : Int32)) C dL_areSound_177 (by decide) ?_
  refine n_icmp_lt_f (tgt := 237) C dL_areSound_178 (by decide) (by decide) ?_
  refine n_iload C 0 dL_areSound_181 rfl ?_
  refine n_if_eq_f (tgt := 237) C dL_areSound_183 (by decide) (by decide) ?_
  refine n_iload C 0 dL_areSound_186 rfl ?_
  refine n_bipush (v := (21 : Int32)) C dL_areSound_188 (by decide) ?_
  refine n_icmp_ge_f (tgt := 237) C dL_areSound_190 (by decide) (by decide) ?_
  refine n_aload_n C 12 dL_areSound_193 rfl rfl ?_
  refine n_iload C 5 dL_areSound_194 rfl ?_
  refine n_iload C 1 dL_areSound_196 rfl ?_
  refine n_callv (As := [.int (1 : Int32), .int (3 : Int32)]) (n := 2) C (c_Game_atAnew l hl D cI cJ ad (1 : Int32) (3 : Int32)) zf_atAnew_1_3 ⟨rfl, rfl⟩ gcl5 rfl lwv_atAnew (hR := ⟨Nat.le_of_ble_eq_true rfl, Nat.le_of_ble_eq_true rfl⟩) rfl rfl (Nat.le_of_ble_eq_true rfl) dL_areSound_198 ⟨Nat.le_of_ble_eq_true rfl, Nat.le_of_ble_eq_true rfl⟩ ?_
  refine n_iload_n C 11 dL_areSound_201 rfl rfl ?_
  refine n_if_eq_t (tgt := 210) C dL_areSound_202 (by decide) (by decide) ?_
  refine n_iconst (v := (-1 : Int32)) C dL_areSound_210 (by decide) ?_
  refine n_icmp_ne_t (tgt := 237) C dL_areSound_211 (by decide) (by decide) ?_
  refine n_iload_n C 11 dL_areSound_214 rfl rfl ?_
  refine n_if_eq_t (tgt := 233) C dL_areSound_215 (by decide) (by decide) ?_
  refine n_iconst (v := (1 : Int32)) C dL_areSound_233 (by decide) ?_
  refine n_goto (tgt := 238) C dL_areSound_234 (by decide) ?_
  refine n_istore (L' := [(7, .int (1 : Int32)), (14, .int (-1 : Int32)), (13, .int (3 : Int32)), (11, .int (0 : Int32)), (12, .int (0 : Int32)), (10, .int (1 : Int32)), (9, .int (0 : Int32)), (8, .int (0 : Int32)), (6, .int (-1 : Int32)), (5, .int (0 : Int32)), (4, .int (-1 : Int32)), (3, .int (0 : Int32)), (0, .ref (ad 0)), (1, .ref (ad 28)), (2, .int (0 : Int32))]) C dL_areSound_238 (by decide) rfl ?_
  refine n_iload C 3 dL_areSound_240 rfl ?_
  refine n_iload C 1 dL_areSound_242 rfl ?_
  refine n_if_le_t (tgt := 254) C dL_areSound_244 (by decide) (by decide) ?_
  refine n_iconst (v := (0 : Int32)) C dL_areSound_254 (by decide) ?_
  refine n_ior C dL_areSound_255 ?_
  refine n_eq (v := (0 : Int32)) (by decide) ?_
  refine n_istore (L' := [(11, .int (0 : Int32)), (7, .int (1 : Int32)), (14, .int (-1 : Int32)), (13, .int (3 : Int32)), (12, .int (0 : Int32)), (10, .int (1 : Int32)), (9, .int (0 : Int32)), (8, .int (0 : Int32)), (6, .int (-1 : Int32)), (5, .int (0 : Int32)), (4, .int (-1 : Int32)), (3, .int (0 : Int32)), (0, .ref (ad 0)), (1, .ref (ad 28)), (2, .int (0 : Int32))]) C dL_areSound_256 (by decide) rfl ?_
  refine n_iinc (v := (4 : Int32)) (L' := [(13, .int (4 : Int32)), (11, .int (0 : Int32)), (7, .int (1 : Int32)), (14, .int (-1 : Int32)), (12, .int (0 : Int32)), (10, .int (1 : Int32)), (9, .int (0 : Int32)), (8, .int (0 : Int32)), (6, .int (-1 : Int32)), (5, .int (0 : Int32)), (4, .int (-1 : Int32)), (3, .int (0 : Int32)), (0, .ref (ad 0)), (1, .ref (ad 28)), (2, .int (0 : Int32))]) C 3 dL_areSound_258 rfl (by decide) (by decide) rfl ?_
  refine n_goto (tgt := 153) C dL_areSound_261 (by decide) ?_
  refine n_iload C 0 dL_areSound_153 rfl ?_
  refine n_bipush (v := (7 : Int32)) C dL_areSound_155 (by decide) ?_
  refine n_icmp_ge_f (tgt := 264) C dL_areSound_157 (by decide) (by decide) ?_
  refine n_iload C 2 dL_areSound_160 rfl ?_
  refine n_if_eq_f (tgt := 264) C dL_areSound_162 (by decide) (by decide) ?_
  refine n_aload_n C 12 dL_areSound_165 rfl rfl ?_
  refine n_iload C 5 dL_areSound_166 rfl ?_
  refine n_iload C 0 dL_areSound_168 rfl ?_
  refine n_callv (As := [.int (1 : Int32), .int (4 : Int32)]) (n := 2) C (c_Game_at l hl D cI cJ ad (1 : Int32) (4 : Int32)) zf_at_1_4 ⟨rfl, rfl⟩ gcl5 rfl lwv_at (hR := ⟨Nat.le_of_ble_eq_true rfl, Nat.le_of_ble_eq_true rfl⟩) rfl rfl (Nat.le_of_ble_eq_true rfl) dL_areSound_170 ⟨Nat.le_of_ble_eq_true rfl, Nat.le_of_ble_eq_true rfl⟩ ?_
  refine n_istore (L' := [(14, .int (-1 : Int32)), (13, .int (4 : Int32)), (11, .int (0 : Int32)), (7, .int (1 : Int32)), (12, .int (0 : Int32)), (10, .int (1 : Int32)), (9, .int (0 : Int32)), (8, .int (0 : Int32)), (6, .int (-1 : Int32)), (5, .int (0 : Int32)), (4, .int (-1 : Int32)), (3, .int (0 : Int32)), (0, .ref (ad 0)), (1, .ref (ad 28)), (2, .int (0 : Int32))]) C dL_areSound_173 (by decide) rfl ?_
  refine n_iload C 0 dL_areSound_175 rfl ?_
  refine n_iconst (v := (-1 : Int32)) C dL_areSound_177 (by decide) ?_
  refine n_icmp_lt_f (tgt := 237) C dL_areSound_178 (by decide) (by decide) ?_
  refine n_iload C 0 dL_areSound_181 rfl ?_
  refine n_if_eq_f (tgt := 237) C dL_areSound_183 (by decide) (by decide) ?_
  refine n_iload C 0 dL_areSound_186 rfl ?_
  refine n_bipush (v := (21 : Int32)) C dL_areSound_188 (by decide) ?_
  refine n_icmp_ge_f (tgt := 237) C dL_areSound_190 (by decide) (by decide) ?_
  refine n_aload_n C 12 dL_areSound_193 rfl rfl ?_
  refine n_iload C 5 dL_areSound_194 rfl ?_
  refine n_iload C 1 dL_areSound_196 rfl ?_
  refine n_callv (As := [.int (1 : Int32), .int (4 : Int32)]) (n := 2) C (c_Game_atAnew l hl D cI cJ ad (1 : Int32) (4 : Int32)) zf_atAnew_1_4 ⟨rfl, rfl⟩ gcl5 rfl lwv_atAnew (hR := ⟨Nat.le_of_ble_eq_true rfl, Nat.le_of_ble_eq_true rfl⟩) rfl rfl (Nat.le_of_ble_eq_true rfl) dL_areSound_198 ⟨Nat.le_of_ble_eq_true rfl, Nat.le_of_ble_eq_true rfl⟩ ?_
  refine n_iload_n C 11 dL_areSound_201 rfl rfl ?_
  refine n_if_eq_t (tgt := 210) C dL_areSound_202 (by decide) (by decide) ?_
  refine n_iconst (v := (-1 : Int32)) C dL_areSound_210 (by decide) ?_
  refine n_icmp_ne_t (tgt := 237) C dL_areSound_211 (by decide) (by decide) ?_
  refine n_iload_n C 11 dL_areSound_214 rfl rfl ?_
  refine n_if_eq_t (tgt := 233) C dL_areSound_215 (by decide) (by decide) ?_
  refine n_iconst (v := (1 : Int32)) C dL_areSound_233 (by decide) ?_
  refine n_goto (tgt := 238) C dL_areSound_234 (by decide) ?_
  refine n_istore (L' := [(7, .int (1 : Int32)), (14, .int (-1 : Int32)), (13, .int (4 : Int32)), (11, .int (0 : Int32)), (12, .int (0 : Int32)), (10, .int (1 : Int32)), (9, .int (0 : Int32)), (8, .int (0 : Int32)), (6, .int (-1 : Int32)), (5, .int (0 : Int32)), (4, .int (-1 : Int32)), (3, .int (0 : Int32)), (0, .ref (ad 0)), (1, .ref (ad 28)), (2, .int (0 : Int32))]) C dL_areSound_238 (by decide) rfl ?_
  refine n_iload C 3 dL_areSound_240 rfl ?_
  refine n_iload C 1 dL_areSound_242 rfl ?_
  refine n_if_le_t (tgt := 254) C dL_areSound_244 (by decide) (by decide) ?_
  refine n_iconst (v := (0 : Int32)) C dL_areSound_254 (by decide) ?_
  refine n_ior C dL_areSound_255 ?_
  refine n_eq (v := (0 : Int32)) (by decide) ?_
  refine n_istore (L' := [(11, .int (0 : Int32)), (7, .int (1 : Int32)), (14, .int (-1 : Int32)), (13, .int (4 : Int32)), (12, .int (0 : Int32)), (10, .int (1 : Int32)), (9, .int (0 : Int32)), (8, .int (0 : Int32)), (6, .int (-1 : Int32)), (5, .int (0 : Int32)), (4, .int (-1 : Int32)), (3, .int (0 : Int32)), (0, .ref (ad 0)), (1, .ref (ad 28)), (2, .int (0 : Int32))]) C dL_areSound_256 (by decide) rfl ?_
  refine n_iinc (v := (5 : Int32)) (L' := [(13, .int (5 : Int32)), (11, .int (0 : Int32)), (7, .int (1 : Int32)), (14, .int (-1 : Int32)), (12, .int (0 : Int32)), (10, .int (1 : Int32)), (9, .int (0 : Int32)), (8, .int (0 : Int32)), (6, .int (-1 : Int32)), (5, .int (0 : Int32)), (4, .int (-1 : Int32)), (3, .int (0 : Int32)), (0, .ref (ad 0)), (1, .ref (ad 28)), (2, .int (0 : Int32))]) C 3 dL_areSound_258 rfl (by decide) (by decide) rfl ?_
  refine n_goto (tgt := 153) C dL_areSound_261 (by decide) ?_
  refine n_iload C 0 dL_areSound_153 rfl ?_
  refine n_bipush (v := (7 : Int32)) C dL_areSound_155 (by decide) ?_
  refine n_icmp_ge_f (tgt := 264) C dL_areSound_157 (by decide) (by decide) ?_
  refine n_iload C 2 dL_areSound_160 rfl ?_
  refine n_if_eq_f (tgt := 264) C dL_areSound_162 (by decide) (by decide) ?_
  refine n_aload_n C 12 dL_areSound_165 rfl rfl ?_
  refine n_iload C 5 dL_areSound_166 rfl ?_
  refine n_iload C 0 dL_areSound_168 rfl ?_
  refine n_callv (As := [.int (1 : Int32), .int (5 : Int32)]) (n := 2) C (c_Game_at l hl D cI cJ ad (1 : Int32) (5 : Int32)) zf_at_1_5 ⟨rfl, rfl⟩ gcl5 rfl lwv_at (hR := ⟨Nat.le_of_ble_eq_true rfl, Nat.le_of_ble_eq_true rfl⟩) rfl rfl (Nat.le_of_ble_eq_true rfl) dL_areSound_170 ⟨Nat.le_of_ble_eq_true rfl, Nat.le_of_ble_eq_true rfl⟩ ?_
  refine n_istore (L' := [(14, .int (-1 : Int32)), (13, .int (5 : Int32)), (11, .int (0 : Int32)), (7, .int (1 : Int32)), (12, .int (0 : Int32)), (10, .int (1 : Int32)), (9, .int (0 : Int32)), (8, .int (0 : Int32)), (6, .int (-1 : Int32)), (5, .int (0 : Int32)), (4, .int (-1 : Int32)), (3, .int (0 : Int32)), (0, .ref (ad 0)), (1, .ref (ad 28)), (2, .int (0 : Int32))]) C dL_areSound_173 (by decide) rfl ?_
  refine n_iload C 0 dL_areSound_175 rfl ?_
  refine n_iconst (v := (-1 : Int32)) C dL_areSound_177 (by decide) ?_
  refine n_icmp_lt_f (tgt := 237) C dL_areSound_178 (by decide) (by decide) ?_
  refine n_iload C 0 dL_areSound_181 rfl ?_
  refine n_if_eq_f (tgt := 237) C dL_areSound_183 (by decide) (by decide) ?_
  refine n_iload C 0 dL_areSound_186 rfl ?_
  refine n_bipush (v := (21 : Int32)) C dL_areSound_188 (by decide) ?_
  refine n_icmp_ge_f (tgt := 237) C dL_areSound_190 (by decide) (by decide) ?_
  refine n_aload_n C 12 dL_areSound_193 rfl rfl ?_
  refine n_iload C 5 dL_areSound_194 rfl ?_
  refine n_iload C 1 dL_areSound_196 rfl ?_
  refine n_callv (As := [.int (1 : Int32), .int (5 : Int32)]) (n := 2) C (c_Game_atAnew l hl D cI cJ ad (1 : Int32) (5 : Int32)) zf_atAnew_1_5 ⟨rfl, rfl⟩ gcl5 rfl lwv_atAnew (hR := ⟨Nat.le_of_ble_eq_true rfl, Nat.le_of_ble_eq_true rfl⟩) rfl rfl (Nat.le_of_ble_eq_true rfl) dL_areSound_198 ⟨Nat.le_of_ble_eq_true rfl, Nat.le_of_ble_eq_true rfl⟩ ?_
  refine n_iload_n C 11 dL_areSound_201 rfl rfl ?_
  refine n_if_eq_t (tgt := 210) C dL_areSound_202 (by decide) (by decide) ?_
  refine n_iconst (v := (-1 : Int32)) C dL_areSound_210 (by decide) ?_
  refine n_icmp_ne_t (tgt := 237) C dL_areSound_211 (by decide) (by decide) ?_
  refine n_iload_n C 11 dL_areSound_214 rfl rfl ?_
  refine n_if_eq_t (tgt := 233) C dL_areSound_215 (by decide) (by decide) ?_
  refine n_iconst (v := (1 : Int32)) C dL_areSound_233 (by decide) ?_
  refine n_goto (tgt := 238) C dL_areSound_234 (by decide) ?_
  refine n_istore (L' := [(7, .int (1 : Int32)), (14, .int (-1 : Int32)), (13, .int (5 : Int32)), (11, .int (0 : Int32)), (12, .int (0 : Int32)), (10, .int (1 : Int32)), (9, .int (0 : Int32)), (8, .int (0 : Int32)), (6, .int (-1 : Int32)), (5, .int (0 : Int32)), (4, .int (-1 : Int32)), (3, .int (0 : Int32)), (0, .ref (ad 0)), (1, .ref (ad 28)), (2, .int (0 : Int32))]) C dL_areSound_238 (by decide) rfl ?_
  refine n_iload C 3 dL_areSound_240 rfl ?_
  refine n_iload C 1 dL_areSound_242 rfl ?_
  refine n_if_le_t (tgt := 254) C dL_areSound_244 (by decide) (by decide) ?_
  refine n_iconst (v := (0 : Int32)) C dL_areSound_254 (by decide) ?_
  refine n_ior C dL_areSound_255 ?_
  refine n_eq (v := (0 : Int32)) (by decide) ?_
  refine n_istore (L' := [(11, .int (0 : Int32)), (7, .int (1 : Int32)), (14, .int (-1 : Int32)), (13, .int (5 : Int32)), (12, .int (0 : Int32)), (10, .int (1 : Int32)), (9, .int (0 : Int32)), (8, .int (0 : Int32)), (6, .int (-1 : Int32)), (5, .int (0 : Int32)), (4, .int (-1 : Int32)), (3, .int (0 : Int32)), (0, .ref (ad 0)), (1, .ref (ad 28)), (2, .int (0 : Int32))]) C dL_areSound_256 (by decide) rfl ?_
  refine n_iinc (v := (6 : Int32)) (L' := [(13, .int (6 : Int32)), (11, .int (0 : Int32)), (7, .int (1 : Int32)), (14, .int (-1 : Int32)), (12, .int (0 : Int32)), (10, .int (1 : Int32)), (9, .int (0 : Int32)), (8, .int (0 : Int32)), (6, .int (-1 : Int32)), (5, .int (0 : Int32)), (4, .int (-1 : Int32)), (3, .int (0 : Int32)), (0, .ref (ad 0)), (1, .ref (ad 28)), (2, .int (0 : Int32))]) C 3 dL_areSound_258 rfl (by decide) (by decide) rfl ?_
  refine n_goto (tgt := 153) C dL_areSound_261 (by decide) ?_
  refine n_iload C 0 dL_areSound_153 rfl ?_
  refine n_bipush (v := (7 : Int32)) C dL_areSound_155 (by decide) ?_
  refine n_icmp_ge_f (tgt := 264) C dL_areSound_157 (by decide) (by decide) ?_
  refine n_iload C 2 dL_areSound_160 rfl ?_
  refine n_if_eq_f (tgt := 264) C dL_areSound_162 (by decide) (by decide) ?_
  refine n_aload_n C 12 dL_areSound_165 rfl rfl ?_
  refine n_iload C 5 dL_areSound_166 rfl ?_
  refine n_iload C 0 dL_areSound_168 rfl ?_
  refine n_callv (As := [.int (1 : Int32), .int (6 : Int32)]) (n := 2) C (c_Game_at l hl D cI cJ ad (1 : Int32) (6 : Int32)) zf_at_1_6 ⟨rfl, rfl⟩ gcl5 rfl lwv_at (hR := ⟨Nat.le_of_ble_eq_true rfl, Nat.le_of_ble_eq_true rfl⟩) rfl rfl (Nat.le_of_ble_eq_true rfl) dL_areSound_170 ⟨Nat.le_of_ble_eq_true rfl, Nat.le_of_ble_eq_true rfl⟩ ?_
  refine n_istore (L' := [(14, .int (-1 : Int32)), (13, .int (6 : Int32)), (11, .int (0 : Int32)), (7, .int (1 : Int32)), (12, .int (0 : Int32)), (10, .int (1 : Int32)), (9, .int (0 : Int32)), (8, .int (0 : Int32)), (6, .int (-1 : Int32)), (5, .int (0 : Int32)), (4, .int (-1 : Int32)), (3, .int (0 : Int32)), (0, .ref (ad 0)), (1, .ref (ad 28)), (2, .int (0 : Int32))]) C dL_areSound_173 (by decide) rfl ?_
  refine n_iload C 0 dL_areSound_175 rfl ?_
  refine n_iconst (v := (-1 : Int32)) C dL_areSound_177 (by decide) ?_
  refine n_icmp_lt_f (tgt := 237) C dL_areSound_178 (by decide) (by decide) ?_
  refine n_iload C 0 dL_areSound_181 rfl ?_
  refine n_if_eq_f (tgt := 237) C dL_areSound_183 (by decide) (by decide) ?_
  refine n_iload C 0 dL_areSound_186 rfl ?_
  refine n_bipush (v := (21 : Int32)) C dL_areSound_188 (by decide) ?_
  refine n_icmp_ge_f (tgt := 237) C dL_areSound_190 (by decide) (by decide) ?_
  refine n_aload_n C 12 dL_areSound_193 rfl rfl ?_
  refine n_iload C 5 dL_areSound_194 rfl ?_
  refine n_iload C 1 dL_areSound_196 rfl ?_
  refine n_callv (As := [.int (1 : Int32), .int (6 : Int32)]) (n := 2) C (c_Game_atAnew l hl D cI cJ ad (1 : Int32) (6 : Int32)) zf_atAnew_1_6 ⟨rfl, rfl⟩ gcl5 rfl lwv_atAnew (hR := ⟨Nat.le_of_ble_eq_true rfl, Nat.le_of_ble_eq_true rfl⟩) rfl rfl (Nat.le_of_ble_eq_true rfl) dL_areSound_198 ⟨Nat.le_of_ble_eq_true rfl, Nat.le_of_ble_eq_true rfl⟩ ?_
  refine n_iload_n C 11 dL_areSound_201 rfl rfl ?_
  refine n_if_eq_t (tgt := 210) C dL_areSound_202 (by decide) (by decide) ?_
  refine n_iconst (v := (-1 : Int32)) C dL_areSound_210 (by decide) ?_
  refine n_icmp_ne_t (tgt := 237) C dL_areSound_211 (by decide) (by decide) ?_
  refine n_iload_n C 11 dL_areSound_214 rfl rfl ?_
  refine n_if_eq_t (tgt := 233) C dL_areSound_215 (by decide) (by decide) ?_
  refine n_iconst (v := (1 : Int32)) C dL_areSound_233 (by decide) ?_
  refine n_goto (tgt := 238) C dL_areSound_234 (by decide) ?_
  refine n_istore (L' := [(7, .int (1 : Int32)), (14, .int (-1 : Int32)), (13, .int (6 : Int32)), (11, .int (0 : Int32)), (12, .int (0 : Int32)), (10, .int (1 : Int32)), (9, .int (0 : Int32)), (8, .int (0 : Int32)), (6, .int (-1 : Int32)), (5, .int (0 : Int32)), (4, .int (-1 : Int32)), (3, .int (0 : Int32)), (0, .ref (ad 0)), (1, .ref (ad 28)), (2, .int (0 : Int32))]) C dL_areSound_238 (by decide) rfl ?_
  refine n_iload C 3 dL_areSound_240 rfl ?_
  refine n_iload C 1 dL_areSound_242 rfl ?_
  refine n_if_le_t (tgt := 254) C dL_areSound_244 (by decide) (by decide) ?_
  refine n_iconst (v := (0 : Int32)) C dL_areSound_254 (by decide) ?_
  refine n_ior C dL_areSound_255 ?_
  refine n_eq (v := (0 : Int32)) (by decide) ?_
  refine n_istore (L' := [(11, .int (0 : Int32)), (7, .int (1 : Int32)), (14, .int (-1 : Int32)), (13, .int (6 : Int32)), (12, .int (0 : Int32)), (10, .int (1 : Int32)), (9, .int (0 : Int32)), (8, .int (0 : Int32)), (6, .int (-1 : Int32)), (5, .int (0 : Int32)), (4, .int (-1 : Int32)), (3, .int (0 : Int32)), (0, .ref (ad 0)), (1, .ref (ad 28)), (2, .int (0 : Int32))]) C dL_areSound_256 (by decide) rfl ?_
  refine n_iinc (v := (7 : Int32)) (L' := [(13, .int (7 : Int32)), (11, .int (0 : Int32)), (7, .int (1 : Int32)), (14, .int (-1 : Int32)), (12, .int (0 : Int32)), (10, .int (1 : Int32)), (9, .int (0 : Int32)), (8, .int (0 : Int32)), (6, .int (-1 : Int32)), (5, .int (0 : Int32)), (4, .int (-1 : Int32)), (3, .int (0 : Int32)), (0, .ref (ad 0)), (1, .ref (ad 28)), (2, .int (0 : Int32))]) C 3 dL_areSound_258 rfl (by decide) (by decide) rfl ?_
  refine n_goto (tgt := 153) C dL_areSound_261 (by decide) ?_
  refine n_iload C 0 dL_areSound_153 rfl ?_
  refine n_bipush (v := (7 : Int32)) C dL_areSound_155 (by decide) ?_
  refine n_icmp_ge_t (tgt := 264) C dL_areSound_157 (by decide) (by decide) ?_
  refine n_iload C 7 dL_areSound_264 rfl ?_
  refine n_aload_n C 12 dL_areSound_266 rfl rfl ?_
  refine n_iload C 5 dL_areSound_267 rfl ?_
  refine n_callv (As := [.int (1 : Int32)]) (n := 1) C (c_Game_points l hl D cI cJ ad (1 : Int32)) zf_points_1 ⟨rfl, rfl⟩ gcl5 rfl lwv_points (hR := ⟨Nat.le_of_ble_eq_true rfl, Nat.le_of_ble_eq_true rfl⟩) rfl rfl (Nat.le_of_ble_eq_true rfl) dL_areSound_269 ⟨Nat.le_of_ble_eq_true rfl, Nat.le_of_ble_eq_true rfl⟩ ?_
  refine n_iadd C dL_areSound_272 ?_
  refine n_eq (v := (0 : Int32)) (by decide) ?_
  refine n_istore (L' := [(8, .int (0 : Int32)), (13, .int (7 : Int32)), (11, .int (0 : Int32)), (7, .int (1 : Int32)), (14, .int (-1 : Int32)), (12, .int (0 : Int32)), (10, .int (1 : Int32)), (9, .int (0 : Int32)), (6, .int (-1 : Int32)), (5, .int (0 : Int32)), (4, .int (-1 : Int32)), (3, .int (0 : Int32)), (0, .ref (ad 0)), (1, .ref (ad 28)), (2, .int (0 : Int32))]) C dL_areSound_273 (by decide) rfl ?_
  refine n_iload C 3 dL_areSound_275 rfl ?_
  refine n_if_eq_f (tgt := 378) C dL_areSound_277 (by decide) (by decide) ?_
  refine n_aload_n C 12 dL_areSound_280 rfl rfl ?_
  refine n_iload C 6 dL_areSound_281 rfl ?_
  refine n_callv (As := [.int (1 : Int32)]) (n := 1) C (c_Game_points l hl D cI cJ ad (1 : Int32)) zf_points_1 ⟨rfl, rfl⟩ gcl5 rfl lwv_points (hR := ⟨Nat.le_of_ble_eq_true rfl, Nat.le_of_ble_eq_true rfl⟩) rfl rfl (Nat.le_of_ble_eq_true rfl) dL_areSound_283 ⟨Nat.le_of_ble_eq_true rfl, Nat.le_of_ble_eq_true rfl⟩ ?_
  refine n_if_lt_f (tgt := 378) C dL_areSound_286 (by decide) (by decide) ?_
  refine n_iload_n C 14 dL_areSound_289 rfl rfl ?_
  refine n_iconst (v := (2 : Int32)) C dL_areSound_290 (by decide) ?_
  refine n_irem C dL_areSound_291 (by decide) ?_
  refine n_eq (v := (0 : Int32)) (by decide) ?_
  refine n_iload C 6 dL_areSound_292 rfl ?_
  refine n_icmp_eq_f (tgt := 312) C dL_areSound_294 (by decide) (by decide) ?_
  refine n_aload_n C 12 dL_areSound_297 rfl rfl ?_
  refine n_iload C 6 dL_areSound_298 rfl ?_
  refine n_callv (As := [.int (1 : Int32)]) (n := 1) C (c_Game_pointsAnew l hl D cI cJ ad (1 : Int32)) zf_pointsAnew_1 ⟨rfl, rfl⟩ gcl5 rfl lwv_pointsAnew (hR := ⟨Nat.le_of_ble_eq_true rfl, Nat.le_of_ble_eq_true rfl⟩) rfl rfl (Nat.le_of_ble_eq_true rfl) dL_areSound_300 ⟨Nat.le_of_ble_eq_true rfl, Nat.le_of_ble_eq_true rfl⟩ ?_
  refine n_aload_n C 12 dL_areSound_303 rfl rfl ?_
  refine n_iload C 6 dL_areSound_304 rfl ?_
  refine n_callv (As := [.int (1 : Int32)]) (n := 1) C (c_Game_points l hl D cI cJ ad (1 : Int32)) zf_points_1 ⟨rfl, rfl⟩ gcl5 rfl lwv_points (hR := ⟨Nat.le_of_ble_eq_true rfl, Nat.le_of_ble_eq_true rfl⟩) rfl rfl (Nat.le_of_ble_eq_true rfl) dL_areSound_306 ⟨Nat.le_of_ble_eq_true rfl, Nat.le_of_ble_eq_true rfl⟩ ?_
  refine n_icmp_ne_t (tgt := 378) C dL_areSound_309 (by decide) (by decide) ?_
  refine n_aload_n C 12 dL_areSound_312 rfl rfl ?_
  refine n_iload C 6 dL_areSound_313 rfl ?_
  refine n_callv (As := [.int (1 : Int32)]) (n := 1) C (c_Game_sets l hl D cI cJ ad (1 : Int32)) zf_sets_1 ⟨rfl, rfl⟩ gcl5 rfl lwv_sets (hR := ⟨Nat.le_of_ble_eq_true rfl, Nat.le_of_ble_eq_true rfl⟩) rfl rfl (Nat.le_of_ble_eq_true rfl) dL_areSound_315 ⟨Nat.le_of_ble_eq_true rfl, Nat.le_of_ble_eq_true rfl⟩ ?_
  refine n_if_lt_f (tgt := 378) C dL_areSound_318 (by decide) (by decide) ?_
  refine n_aload_n C 12 dL_areSound_321 rfl rfl ?_
  refine n_iload C 6 dL_areSound_322 rfl ?_
  refine n_callv (As := [.int (1 : Int32)]) (n := 1) C (c_Game_sets l hl D cI cJ ad (1 : Int32)) zf_sets_1 ⟨rfl, rfl⟩ gcl5 rfl lwv_sets (hR := ⟨Nat.le_of_ble_eq_true rfl, Nat.le_of_ble_eq_true rfl⟩) rfl rfl (Nat.le_of_ble_eq_true rfl) dL_areSound_324 ⟨Nat.le_of_ble_eq_true rfl, Nat.le_of_ble_eq_true rfl⟩ ?_
  refine n_iconst (v := (3 : Int32)) C dL_areSound_327 (by decide) ?_
  refine n_icmp_gt_f (tgt := 378) C dL_areSound_328 (by decide) (by decide) ?_
  refine n_aload_n C 12 dL_areSound_331 rfl rfl ?_
  refine n_iload C 6 dL_areSound_332 rfl ?_
  refine n_iconst (v := (0 : Int32)) C dL_areSound_334 (by decide) ?_
  refine n_callv (As := [.int (1 : Int32), .int (0 : Int32)]) (n := 2) C (c_Game_of l hl D cI cJ ad (1 : Int32) (0 : Int32)) zf_of_1_0 ⟨rfl, rfl⟩ gcl5 rfl lwv_of (hR := ⟨Nat.le_of_ble_eq_true rfl, Nat.le_of_ble_eq_true rfl⟩) rfl rfl (Nat.le_of_ble_eq_true rfl) dL_areSound_335 ⟨Nat.le_of_ble_eq_true rfl, Nat.le_of_ble_eq_true rfl⟩ ?_
  refine n_if_lt_f (tgt := 378) C dL_areSound_338 (by decide) (by decide) ?_
  refine n_aload_n C 12 dL_areSound_341 rfl rfl ?_
  refine n_iload C 6 dL_areSound_342 rfl ?_
  refine n_iconst (v := (0 : Int32)) C dL_areSound_344 (by decide) ?_
  refine n_callv (As := [.int (1 : Int32), .int (0 : Int32)]) (n := 2) C (c_Game_of l hl D cI cJ ad (1 : Int32) (0 : Int32)) zf_of_1_0 ⟨rfl, rfl⟩ gcl5 rfl lwv_of (hR := ⟨Nat.le_of_ble_eq_true rfl, Nat.le_of_ble_eq_true rfl⟩) rfl rfl (Nat.le_of_ble_eq_true rfl) dL_areSound_345 ⟨Nat.le_of_ble_eq_true rfl, Nat.le_of_ble_eq_true rfl⟩ ?_
  refine n_bipush (v := (6 : Int32)) C dL_areSound_348 (by decide) ?_
  refine n_icmp_gt_f (tgt := 378) C dL_areSound_350 (by decide) (by decide) ?_
  refine n_aload_n C 12 dL_areSound_353 rfl rfl ?_
  refine n_iload C 6 dL_areSound_354 rfl ?_
  refine n_iconst (v := (1 : Int32)) C dL_areSound_356 (by decide) ?_
  refine n_callv (As := [.int (1 : Int32), .int (1 : Int32)]) (n := 2) C (c_Game_of l hl D cI cJ ad (1 : Int32) (1 : Int32)) zf_of_1_1 ⟨rfl, rfl⟩ gcl5 rfl lwv_of (hR := ⟨Nat.le_of_ble_eq_true rfl, Nat.le_of_ble_eq_true rfl⟩) rfl rfl (Nat.le_of_ble_eq_true rfl) dL_areSound_357 ⟨Nat.le_of_ble_eq_true rfl, Nat.le_of_ble_eq_true rfl⟩ ?_
  refine n_if_lt_f (tgt := 378) C dL_areSound_360 (by decide) (by decide) ?_
  refine n_aload_n C 12 dL_areSound_363 rfl rfl ?_
  refine n_iload C 6 dL_areSound_364 rfl ?_
  refine n_iconst (v := (1 : Int32)) C dL_areSound_366 (by decide) ?_
  refine n_callv (As := [.int (1 : Int32), .int (1 : Int32)]) (n := 2) C (c_Game_of l hl D cI cJ ad (1 : Int32) (1 : Int32)) zf_of_1_1 ⟨rfl, rfl⟩ gcl5 rfl lwv_of (hR := ⟨Nat.le_of_ble_eq_true rfl, Nat.le_of_ble_eq_true rfl⟩) rfl rfl (Nat.le_of_ble_eq_true rfl) dL_areSound_367 ⟨Nat.le_of_ble_eq_true rfl, Nat.le_of_ble_eq_true rfl⟩ ?_
  refine n_iconst (v := (2 : Int32)) C dL_areSound_370 (by decide) ?_
  refine n_icmp_gt_f (tgt := 378) C dL_areSound_371 (by decide) (by decide) ?_
  refine n_iconst (v := (1 : Int32)) C dL_areSound_374 (by decide) ?_
  refine n_goto (tgt := 379) C dL_areSound_375 (by decide) ?_
  refine n_istore (L' := [(7, .int (1 : Int32)), (8, .int (0 : Int32)), (13, .int (7 : Int32)), (11, .int (0 : Int32)), (14, .int (-1 : Int32)), (12, .int (0 : Int32)), (10, .int (1 : Int32)), (9, .int (0 : Int32)), (6, .int (-1 : Int32)), (5, .int (0 : Int32)), (4, .int (-1 : Int32)), (3, .int (0 : Int32)), (0, .ref (ad 0)), (1, .ref (ad 28)), (2, .int (0 : Int32))]) C dL_areSound_379 (by decide) rfl ?_
  refine n_iconst (v := (0 : Int32)) C dL_areSound_381 (by decide) ?_
  refine n_istore (L' := [(13, .int (0 : Int32)), (7, .int (1 : Int32)), (8, .int (0 : Int32)), (11, .int (0 : Int32)), (14, .int (-1 : Int32)), (12, .int (0 : Int32)), (10, .int (1 : Int32)), (9, .int (0 : Int32)), (6, .int (-1 : Int32)), (5, .int (0 : Int32)), (4, .int (-1 : Int32)), (3, .int (0 : Int32)), (0, .ref (ad 0)), (1, .ref (ad 28)), (2, .int (0 : Int32))]) C dL_areSound_382 (by decide) rfl ?_
  refine n_iload C 0 dL_areSound_384 rfl ?_
  refine n_bipush (v := (6 : Int32)) C dL_areSound_386 (by decide) ?_
  refine n_icmp_ge_f (tgt := 431) C dL_areSound_388 (by decide) (by decide) ?_
  refine n_iload C 1 dL_areSound_391 rfl ?_
  refine n_if_eq_f (tgt := 431) C dL_areSound_393 (by decide) (by decide) ?_
  refine n_aload_n C 12 dL_areSound_396 rfl rfl ?_
  refine n_iload C 6 dL_areSound_397 rfl ?_
  refine n_iload C 0 dL_areSound_399 rfl ?_
  refine n_callv (As := [.int (1 : Int32), .int (0 : Int32)]) (n := 2) C (c_Game_lost l hl D cI cJ ad (1 : Int32) (0 : Int32)) zf_lost_1_0 ⟨rfl, rfl⟩ gcl5 rfl lwv_lost (hR := ⟨Nat.le_of_ble_eq_true rfl, Nat.le_of_ble_eq_true rfl⟩) rfl rfl (Nat.le_of_ble_eq_true rfl) dL_areSound_401 ⟨Nat.le_of_ble_eq_true rfl, Nat.le_of_ble_eq_true rfl⟩ ?_
  refine n_istore (L' := [(14, .int (0 : Int32)), (13, .int (0 : Int32)), (7, .int (1 : Int32)), (8, .int (0 : Int32)), (11, .int (0 : Int32)), (12, .int (0 : Int32)), (10, .int (1 : Int32)), (9, .int (0 : Int32)), (6, .int (-1 : Int32)), (5, .int (0 : Int32)), (4, .int (-1 : Int32)), (3, .int (0 : Int32)), (0, .ref (ad 0)), (1, .ref (ad 28)), (2, .int (0 : Int32))]) C dL_areSound_404 (by decide) rfl ?_
  refine n_iload C 0 dL_areSound_406 rfl ?_
  refine n_if_lt_f (tgt := 415) C dL_areSound_408 (by decide) (by decide) ?_
  refine n_iconst (v := (1 : Int32)) C dL_areSound_411 (by decide) ?_
  refine n_goto (tgt := 416) C dL_areSound_412 (by decide) ?_
  refine n_istore (L' := [(7, .int (1 : Int32)), (14, .int (0 : Int32)), (13, .int (0 : Int32)), (8, .int (0 : Int32)), (11, .int (0 : Int32)), (12, .int (0 : Int32)), (10, .int (1 : Int32)), (9, .int (0 : Int32)), (6, .int (-1 : Int32)), (5, .int (0 : Int32)), (4, .int (-1 : Int32)), (3, .int (0 : Int32)), (0, .ref (ad 0)), (1, .ref (ad 28)), (2, .int (0 : Int32))]) C dL_areSound_416 (by decide) rfl ?_
  refine n_iload C 7 dL_areSound_418 rfl ?_
  refine n_iload C 1 dL_areSound_420 rfl ?_
  refine n_iadd C dL_areSound_422 ?_
  refine n_eq (v := (0 : Int32)) (by decide) ?_
  refine n_istore (L' := [(9, .int (0 : Int32)), (7, .int (1 : Int32)), (14, .int (0 : Int32)), (13, .int (0 : Int32)), (8, .int (0 : Int32)), (11, .int (0 : Int32)), (12, .int (0 : Int32)), (10, .int (1 : Int32)), (6, .int (-1 : Int32)), (5, .int (0 : Int32)), (4, .int (-1 : Int32)), (3, .int (0 : Int32)), (0, .ref (ad 0)), (1, .ref (ad 28)), (2, .int (0 : Int32))]) C dL_areSound_423 (by decide) rfl ?_
  refine n_iinc (v := (1 : Int32)) (L' := [(13, .int (1 : Int32)), (9, .int (0 : Int32)), (7, .int (1 : Int32)), (14, .int (0 : Int32)), (8, .int (0 : Int32)), (11, .int (0 : Int32)), (12, .int (0 : Int32)), (10, .int (1 : Int32)), (6, .int (-1 : Int32)), (5, .int (0 : Int32)), (4, .int (-1 : Int32)), (3, .int (0 : Int32)), (0, .ref (ad 0)), (1, .ref (ad 28)), (2, .int (0 : Int32))]) C 3 dL_areSound_425 rfl (by decide) (by decide) rfl ?_
  refine n_goto (tgt := 384) C dL_areSound_428 (by decide) ?_
  refine n_iload C 0 dL_areSound_384 rfl ?_
  refine n_bipush (v := (6 : Int32)) C dL_areSound_386 (by decide) ?_
  refine n_icmp_ge_f (tgt := 431) C dL_areSound_388 (by decide) (by decide) ?_
  refine n_iload C 2 dL_areSound_391 rfl ?_
  refine n_if_eq_f (tgt := 431) C dL_areSound_393 (by decide) (by decide) ?_
  refine n_aload_n C 12 dL_areSound_396 rfl rfl ?_
  refine n_iload C 7 dL_areSound_397 rfl ?_
  refine n_iload C 0 dL_areSound_399 rfl ?_
  refine n_callv (As := [.int (1 : Int32), .int (1 : Int32)]) (n := 2) C (c_Game_lost l hl D cI cJ ad (1 : Int32) (1 : Int32)) zf_lost_1_1 ⟨rfl, rfl⟩ gcl5 rfl lwv_lost (hR := ⟨Nat.le_of_ble_eq_true rfl, Nat.le_of_ble_eq_true rfl⟩) rfl rfl (Nat.le_of_ble_eq_true rfl) dL_areSound_401 ⟨Nat.le_of_ble_eq_true rfl, Nat.le_of_ble_eq_true rfl⟩ ?_
  refine n_istore (L' := [(14, .int (0 : Int32)), (13, .int (1 : Int32)), (9, .int (0 : Int32)), (7, .int (1 : Int32)), (8, .int (0 : Int32)), (11, .int (0 : Int32)), (12, .int (0 : Int32)), (10, .int (1 : Int32)), (6, .int (-1 : Int32)), (5, .int (0 : Int32)), (4, .int (-1 : Int32)), (3, .int (0 : Int32)), (0, .ref (ad 0)), (1, .ref (ad 28)), (2, .int (0 : Int32))]) C dL_areSound_404 (by decide) rfl ?_
  refine n_iload C 0 dL_areSound_406 rfl ?_
  refine n_if_lt_f (tgt := 415) C dL_areSound_408 (by decide) (by decide) ?_
  refine n_iconst (v := (1 : Int32)) C dL_areSound_411 (by decide) ?_
  refine n_goto (tgt := 416) C dL_areSound_412 (by decide) ?_
  refine n_istore (L' := [(7, .int (1 : Int32)), (14, .int (0 : Int32)), (13, .int (1 : Int32)), (9, .int (0 : Int32)), (8, .int (0 : Int32)), (11, .int (0 : Int32)), (12, .int (0 : Int32)), (10, .int (1 : Int32)), (6, .int (-1 : Int32)), (5, .int (0 : Int32)), (4, .int (-1 : Int32)), (3, .int (0 : Int32)), (0, .ref (ad 0)), (1, .ref (ad 28)), (2, .int (0 : Int32))]) C dL_areSound_416 (by decide) rfl ?_
  refine n_iload C 3 dL_areSound_418 rfl ?_
  refine n_iload C 1 dL_areSound_420 rfl ?_
  refine n_iadd C dL_areSound_422 ?_
  refine n_eq (v := (0 : Int32)) (by decide) ?_
  refine n_istore (L' := [(9, .int (0 : Int32)), (7, .int (1 : Int32)), (14, .int (0 : Int32)), (13, .int (1 : Int32)), (8, .int (0 : Int32)), (11, .int (0 : Int32)), (12, .int (0 : Int32)), (10, .int (1 : Int32)), (6, .int (-1 : Int32)), (5, .int (0 : Int32)), (4, .int (-1 : Int32)), (3, .int (0 : Int32)), (0, .ref (ad 0)), (1, .ref (ad 28)), (2, .int (0 : Int32))]) C dL_areSound_423 (by decide) rfl ?_
  refine n_iinc (v := (2 : Int32)) (L' := [(13, .int (2 : Int32)), (9, .int (0 : Int32)), (7, .int (1 : Int32)), (14, .int (0 : Int32)), (8, .int (0 : Int32)), (11, .int (0 : Int32)), (12, .int (0 : Int32)), (10, .int (1 : Int32)), (6, .int (-1 : Int32)), (5, .int (0 : Int32)), (4, .int (-1 : Int32)), (3, .int (0 : Int32)), (0, .ref (ad 0)), (1, .ref (ad 28)), (2, .int (0 : Int32))]) C 3 dL_areSound_425 rfl (by decide) (by decide) rfl ?_
  refine n_goto (tgt := 384) C dL_areSound_428 (by decide) ?_
  refine n_iload C 0 dL_areSound_384 rfl ?_
  refine n_bipush (v := (6 : Int32)) C dL_areSound_386 (by decide) ?_
  refine n_icmp_ge_f (tgt := 431) C dL_areSound_388 (by decide) (by decide) ?_
  refine n_iload C 2 dL_areSound_391 rfl ?_
  refine n_if_eq_f (tgt := 431) C dL_areSound_393 (by decide) (by decide) ?_
  refine n_aload_n C 12 dL_areSound_396 rfl rfl ?_
  refine n_iload C 7 dL_areSound_397 rfl ?_
  refine n_iload C 0 dL_areSound_399 rfl ?_
  refine n_callv (As := [.int (1 : Int32), .int (2 : Int32)]) (n := 2) C (c_Game_lost l hl D cI cJ ad (1 : Int32) (2 : Int32)) zf_lost_1_2 ⟨rfl, rfl⟩ gcl5 rfl lwv_lost (hR := ⟨Nat.le_of_ble_eq_true rfl, Nat.le_of_ble_eq_true rfl⟩) rfl rfl (Nat.le_of_ble_eq_true rfl) dL_areSound_401 ⟨Nat.le_of_ble_eq_true rfl, Nat.le_of_ble_eq_true rfl⟩ ?_
  refine n_istore (L' := [(14, .int (0 : Int32)), (13, .int (2 : Int32)), (9, .int (0 : Int32)), (7, .int (1 : Int32)), (8, .int (0 : Int32)), (11, .int (0 : Int32)), (12, .int (0 : Int32)), (10, .int (1 : Int32)), (6, .int (-1 : Int32)), (5, .int (0 : Int32)), (4, .int (-1 : Int32)), (3, .int (0 : Int32)), (0, .ref (ad 0)), (1, .ref (ad 28)), (2, .int (0 : Int32))]) C dL_areSound_404 (by decide) rfl ?_
  refine n_iload C 0 dL_areSound_406 rfl ?_
  refine n_if_lt_f (tgt := 415) C dL_areSound_408 (by decide) (by decide) ?_
  refine n_iconst (v := (1 : Int32)) C dL_areSound_411 (by decide) ?_
  refine n_goto (tgt := 416) C dL_areSound_412 (by decide) ?_
  refine n_istore (L' := [(7, .int (1 : Int32)), (14, .int (0 : Int32)), (13, .int (2 : Int32)), (9, .int (0 : Int32)), (8, .int (0 : Int32)), (11, .int (0 : Int32)), (12, .int (0 : Int32)), (10, .int (1 : Int32)), (6, .int (-1 : Int32)), (5, .int (0 : Int32)), (4, .int (-1 : Int32)), (3, .int (0 : Int32)), (0, .ref (ad 0)), (1, .ref (ad 28)), (2, .int (0 : Int32))]) C dL_areSound_416 (by decide) rfl ?_
  refine n_iload C 3 dL_areSound_418 rfl ?_
  refine n_iload C 1 dL_areSound_420 rfl ?_
  refine n_iadd C dL_areSound_422 ?_
  refine n_eq (v := (0 : Int32)) (by decide) ?_
  refine n_istore (L' := [(9, .int (0 : Int32)), (7, .int (1 : Int32)), (14, .int (0 : Int32)), (13, .int (2 : Int32)), (8, .int (0 : Int32)), (11, .int (0 : Int32)), (12, .int (0 : Int32)), (10, .int (1 : Int32)), (6, .int (-1 : Int32)), (5, .int (0 : Int32)), (4, .int (-1 : Int32)), (3, .int (0 : Int32)), (0, .ref (ad 0)), (1, .ref (ad 28)), (2, .int (0 : Int32))]) C dL_areSound_423 (by decide) rfl ?_
  refine n_iinc (v := (3 : Int32)) (L' := [(13, .int (3 : Int32)), (9, .int (0 : Int32)), (7, .int (1 : Int32)), (14, .int (0 : Int32)), (8, .int (0 : Int32)), (11, .int (0 : Int32)), (12, .int (0 : Int32)), (10, .int (1 : Int32)), (6, .int (-1 : Int32)), (5, .int (0 : Int32)), (4, .int (-1 : Int32)), (3, .int (0 : Int32)), (0, .ref (ad 0)), (1, .ref (ad 28)), (2, .int (0 : Int32))]) C 3 dL_areSound_425 rfl (by decide) (by decide) rfl ?_
  refine n_goto (tgt := 384) C dL_areSound_428 (by decide) ?_
  refine n_iload C 0 dL_areSound_384 rfl ?_
  refine n_bipush (v := (6 : Int32)) C dL_areSound_386 (by decide) ?_
  refine n_icmp_ge_f (tgt := 431) C dL_areSound_388 (by decide) (by decide) ?_
  refine n_iload C 2 dL_areSound_391 rfl ?_
  refine n_if_eq_f (tgt := 431) C dL_areSound_393 (by decide) (by decide) ?_
  refine n_aload_n C 12 dL_areSound_396 rfl rfl ?_
  refine n_iload C 7 dL_areSound_397 rfl ?_
  refine n_iload C 0 dL_areSound_399 rfl ?_
  refine n_callv (As := [.int (1 : Int32), .int (3 : Int32)]) (n := 2) C (c_Game_lost l hl D cI cJ ad (1 : Int32) (3 : Int32)) zf_lost_1_3 ⟨rfl, rfl⟩ gcl5 rfl lwv_lost (hR := ⟨Nat.le_of_ble_eq_true rfl, Nat.le_of_ble_eq_true rfl⟩) rfl rfl (Nat.le_of_ble_eq_true rfl) dL_areSound_401 ⟨Nat.le_of_ble_eq_true rfl, Nat.le_of_ble_eq_true rfl⟩ ?_
  refine n_istore (L' := [(14, .int (0 : Int32)), (13, .int (3 : Int32)), (9, .int (0 : Int32)), (7, .int (1 : Int32)), (8, .int (0 : Int32)), (11, .int (0 : Int32)), (12, .int (0 : Int32)), (10, .int (1 : Int32)), (6, .int (-1 : Int32)), (5, .int (0 : Int32)), (4, .int (-1 : Int32)), (3, .int (0 : Int32)), (0, .ref (ad 0)), (1, .ref (ad 28)), (2, .int (0 : Int32))]) C dL_areSound_404 (by decide) rfl ?_
  refine n_iload C 0 dL_areSound_406 rfl ?_
  refine n_if_lt_f (tgt := 415) C dL_areSound_408 (by decide) (by decide) ?_
  refine n_iconst (v := (1 : Int32)) C dL_areSound_411 (by decide) ?_
  refine n_goto (tgt := 416) C dL_areSound_412 (by decide) ?_
  refine n_istore (L' := [(7, .int (1 : Int32)), (14, .int (0 : Int32)), (13, .int (3 : Int32)), (9, .int (0 : Int32)), (8, .int (0 : Int32)), (11, .int (0 : Int32)), (12, .int (0 : Int32)), (10, .int (1 : Int32)), (6, .int (-1 : Int32)), (5, .int (0 : Int32)), (4, .int (-1 : Int32)), (3, .int (0 : Int32)), (0, .ref (ad 0)), (1, .ref (ad 28)), (2, .int (0 : Int32))]) C dL_areSound_416 (by decide) rfl ?_
  refine n_iload C 3 dL_areSound_418 rfl ?_
  refine n_iload C 1 dL_areSound_420 rfl ?_
  refine n_iadd C dL_areSound_422 ?_
  refine n_eq (v := (0 : Int32)) (by decide) ?_
  refine n_istore (L' := [(9, .int (0 : Int32)), (7, .int (1 : Int32)), (14, .int (0 : Int32)), (13, .int (3 : Int32)), (8, .int (0 : Int32)), (11, .int (0 : Int32)), (12, .int (0 : Int32)), (10, .int (1 : Int32)), (6, .int (-1 : Int32)), (5, .int (0 : Int32)), (4, .int (-1 : Int32)), (3, .int (0 : Int32)), (0, .ref (ad 0)), (1, .ref (ad 28)), (2, .int (0 : Int32))]) C dL_areSound_423 (by decide) rfl ?_
  refine n_iinc (v := (4 : Int32)) (L' := [(13, .int (4 : Int32)), (9, .int (0 : Int32)), (7, .int (1 : Int32)), (14, .int (0 : Int32)), (8, .int (0 : Int32)), (11, .int (0 : Int32)), (12, .int (0 : Int32)), (10, .int (1 : Int32)), (6, .int (-1 : Int32)), (5, .int (0 : Int32)), (4, .int (-1 : Int32)), (3, .int (0 : Int32)), (0, .ref (ad 0)), (1, .ref (ad 28)), (2, .int (0 : Int32))]) C 3 dL_areSound_425 rfl (by decide) (by decide) rfl ?_
  refine n_goto (tgt := 384) C dL_areSound_428 (by decide) ?_
  refine n_iload C 0 dL_areSound_384 rfl ?_
  refine n_bipush (v := (6 : Int32)) C dL_areSound_386 (by decide) ?_
  refine n_icmp_ge_f (tgt := 431) C dL_areSound_388 (by decide) (by decide) ?_
  refine n_iload C 2 dL_areSound_391 rfl ?_
  refine n_if_eq_f (tgt := 431) C dL_areSound_393 (by decide) (by decide) ?_
  refine n_aload_n C 12 dL_areSound_396 rfl rfl ?_
  refine n_iload C 7 dL_areSound_397 rfl ?_
  refine n_iload C 0 dL_areSound_399 rfl ?_
  refine n_callv (As := [.int (1 : Int32), .int (4 : Int32)]) (n := 2) C (c_Game_lost l hl D cI cJ ad (1 : Int32) (4 : Int32)) zf_lost_1_4 ⟨rfl, rfl⟩ gcl5 rfl lwv_lost (hR := ⟨Nat.le_of_ble_eq_true rfl, Nat.le_of_ble_eq_true rfl⟩) rfl rfl (Nat.le_of_ble_eq_true rfl) dL_areSound_401 ⟨Nat.le_of_ble_eq_true rfl, Nat.le_of_ble_eq_true rfl⟩ ?_
  refine n_istore (L' := [(14, .int (0 : Int32)), (13, .int (4 : Int32)), (9, .int (0 : Int32)), (7, .int (1 : Int32)), (8, .int (0 : Int32)), (11, .int (0 : Int32)), (12, .int (0 : Int32)), (10, .int (1 : Int32)), (6, .int (-1 : Int32)), (5, .int (0 : Int32)), (4, .int (-1 : Int32)), (3, .int (0 : Int32)), (0, .ref (ad 0)), (1, .ref (ad 28)), (2, .int (0 : Int32))]) C dL_areSound_404 (by decide) rfl ?_
  refine n_iload C 0 dL_areSound_406 rfl ?_
  refine n_if_lt_f (tgt := 415) C dL_areSound_408 (by decide) (by decide) ?_
  refine n_iconst (v := (1 : Int32)) C dL_areSound_411 (by decide) ?_
  refine n_goto (tgt := 416) C dL_areSound_412 (by decide) ?_
  refine n_istore (L' := [(7, .int (1 : Int32)), (14, .int (0 : Int32)), (13, .int (4 : Int32)), (9, .int (0 : Int32)), (8, .int (0 : Int32)), (11, .int (0 : Int32)), (12, .int (0 : Int32)), (10, .int (1 : Int32)), (6, .int (-1 : Int32)), (5, .int (0 : Int32)), (4, .int (-1 : Int32)), (3, .int (0 : Int32)), (0, .ref (ad 0)), (1, .ref (ad 28)), (2, .int (0 : Int32))]) C dL_areSound_416 (by decide) rfl ?_
  refine n_iload C 3 dL_areSound_418 rfl ?_
  refine n_iload C 1 dL_areSound_420 rfl ?_
  refine n_iadd C dL_areSound_422 ?_
  refine n_eq (v := (0 : Int32)) (by decide) ?_
  refine n_istore (L' := [(9, .int (0 : Int32)), (7, .int (1 : Int32)), (14, .int (0 : Int32)), (13, .int (4 : Int32)), (8, .int (0 : Int32)), (11, .int (0 : Int32)), (12, .int (0 : Int32)), (10, .int (1 : Int32)), (6, .int (-1 : Int32)), (5, .int (0 : Int32)), (4, .int (-1 : Int32)), (3, .int (0 : Int32)), (0, .ref (ad 0)), (1, .ref (ad 28)), (2, .int (0 : Int32))]) C dL_areSound_423 (by decide) rfl ?_
  refine n_iinc (v := (5 : Int32)) (L' := [(13, .int (5 : Int32)), (9, .int (0 : Int32)), (7, .int (1 : Int32)), (14, .int (0 : Int32)), (8, .int (0 : Int32)), (11, .int (0 : Int32)), (12, .int (0 : Int32)), (10, .int (1 : Int32)), (6, .int (-1 : Int32)), (5, .int (0 : Int32)), (4, .int (-1 : Int32)), (3, .int (0 : Int32)), (0, .ref (ad 0)), (1, .ref (ad 28)), (2, .int (0 : Int32))]) C 3 dL_areSound_425 rfl (by decide) (by decide) rfl ?_
  refine n_goto (tgt := 384) C dL_areSound_428 (by decide) ?_
  refine n_iload C 0 dL_areSound_384 rfl ?_
  refine n_bipush (v := (6 : Int32)) C dL_areSound_386 (by decide) ?_
  refine n_icmp_ge_f (tgt := 431) C dL_areSound_388 (by decide) (by decide) ?_
  refine n_iload C 2 dL_areSound_391 rfl ?_
  refine n_if_eq_f (tgt := 431) C dL_areSound_393 (by decide) (by decide) ?_
  refine n_aload_n C 12 dL_areSound_396 rfl rfl ?_
  refine n_iload C 7 dL_areSound_397 rfl ?_
  refine n_iload C 0 dL_areSound_399 rfl ?_
  refine n_callv (As := [.int (1 : Int32), .int (5 : Int32)]) (n := 2) C (c_Game_lost l hl D cI cJ ad (1 : Int32) (5 : Int32)) zf_lost_1_5 ⟨rfl, rfl⟩ gcl5 rfl lwv_lost (hR := ⟨Nat.le_of_ble_eq_true rfl, Nat.le_of_ble_eq_true rfl⟩) rfl rfl (Nat.le_of_ble_eq_true rfl) dL_areSound_401 ⟨Nat.le_of_ble_eq_true rfl, Nat.le_of_ble_eq_true rfl⟩ ?_
  refine n_istore (L' := [(14, .int (0 : Int32)), (13, .int (5 : Int32)), (9, .int (0 : Int32)), (7, .int (1 : Int32)), (8, .int (0 : Int32)), (11, .int (0 : Int32)), (12, .int (0 : Int32)), (10, .int (1 : Int32)), (6, .int (-1 : Int32)), (5, .int (0 : Int32)), (4, .int (-1 : Int32)), (3, .int (0 : Int32)), (0, .ref (ad 0)), (1, .ref (ad 28)), (2, .int (0 : Int32))]) C dL_areSound_404 (by decide) rfl ?_
  refine n_iload C 0 dL_areSound_406 rfl ?_
  refine n_if_lt_f (tgt := 415) C dL_areSound_408 (by decide) (by decide) ?_
  refine n_iconst (v := (1 : Int32)) C dL_areSound_411 (by decide) ?_
  refine n_goto (tgt := 416) C dL_areSound_412 (by decide) ?_
  refine n_istore (L' := [(7, .int (1 : Int32)), (14, .int (0 : Int32)), (13, .int (5 : Int32)), (9, .int (0 : Int32)), (8, .int (0 : Int32)), (11, .int (0 : Int32)), (12, .int (0 : Int32)), (10, .int (1 : Int32)), (6, .int (-1 : Int32)), (5, .int (0 : Int32)), (4, .int (-1 : Int32)), (3, .int (0 : Int32)), (0, .ref (ad 0)), (1, .ref (ad 28)), (2, .int (0 : Int32))]) C dL_areSound_416 (by decide) rfl ?_
  refine n_iload C 3 dL_areSound_418 rfl ?_
  refine n_iload C 1 dL_areSound_420 rfl ?_
  refine n_iadd C dL_areSound_422 ?_
  refine n_eq (v := (0 : Int32)) (by decide) ?_
  refine n_istore (L' := [(9, .int (0 : Int32)), (7, .int (1 : Int32)), (14, .int (0 : Int32)), (13, .int (5 : Int32)), (8, .int (0 : Int32)), (11, .int (0 : Int32)), (12, .int (0 : Int32)), (10, .int (1 : Int32)), (6, .int (-1 : Int32)), (5, .int (0 : Int32)), (4, .int (-1 : Int32)), (3, .int (0 : Int32)), (0, .ref (ad 0)), (1, .ref (ad 28)), (2, .int (0 : Int32))]) C dL_areSound_423 (by decide) rfl ?_
  refine n_iinc (v := (6 : Int32)) (L' := [(13, .int (6 : Int32)), (9, .int (0 : Int32)), (7, .int (1 : Int32)), (14, .int (0 : Int32)), (8, .int (0 : Int32)), (11, .int (0 : Int32)), (12, .int (0 : Int32)), (10, .int (1 : Int32)), (6, .int (-1 : Int32)), (5, .int (0 : Int32)), (4, .int (-1 : Int32)), (3, .int (0 : Int32)), (0, .ref (ad 0)), (1, .ref (ad 28)), (2, .int (0 : Int32))]) C 3 dL_areSound_425 rfl (by decide) (by decide) rfl ?_
  refine n_goto (tgt := 384) C dL_areSound_428 (by decide) ?_
  refine n_iload C 0 dL_areSound_384 rfl ?_
  refine n_bipush (v := (6 : Int32)) C dL_areSound_386 (by decide) ?_
  refine n_icmp_ge_t (tgt := 431) C dL_areSound_388 (by decide) (by decide) ?_
  refine n_iinc (v := (2 : Int32)) (L' := [(10, .int (2 : Int32)), (13, .int (6 : Int32)), (9, .int (0 : Int32)), (7, .int (1 : Int32)), (14, .int (0 : Int32)), (8, .int (0 : Int32)), (11, .int (0 : Int32)), (12, .int (0 : Int32)), (6, .int (-1 : Int32)), (5, .int (0 : Int32)), (4, .int (-1 : Int32)), (3, .int (0 : Int32)), (0, .ref (ad 0)), (1, .ref (ad 28)), (2, .int (0 : Int32))]) C 7 dL_areSound_431 rfl (by decide) (by decide) rfl ?_
  refine n_goto (tgt := 133) C dL_areSound_434 (by decide) ?_
  refine n_iload C 0 dL_areSound_133 rfl ?_
  refine n_iconst (v := (2 : Int32)) C dL_areSound_135 (by decide) ?_
  refine n_icmp_ge_t (tgt := 437) C dL_areSound_136 (by decide) (by decide) ?_
  refine n_iload C 3 dL_areSound_437 rfl ?_
  refine n_if_eq_f (tgt := 504) C dL_areSound_439 (by decide) (by decide) ?_
  refine n_iload C 2 dL_areSound_442 rfl ?_
  refine n_aload_n C 13 dL_areSound_444 rfl rfl ?_
  refine n_iconst (v := (2 : Int32)) C dL_areSound_445 (by decide) ?_
  refine n_iald (v := (0 : Int32)) (n := 3) C 2 ⟨by decide, by unfold vp_in; decide⟩ rfl rfl rfl dL_areSound_446 ?_
  refine n_icmp_ne_t (tgt := 504) C dL_areSound_447 (by decide) (by decide) ?_
  refine n_iload C 5 dL_areSound_450 rfl ?_
  refine n_aload_n C 13 dL_areSound_452 rfl rfl ?_
  refine n_iconst (v := (2 : Int32)) C dL_areSound_453 (by decide) ?_
  refine n_iald (v := (0 : Int32)) (n := 3) C 2 ⟨by decide, by unfold vp_in; decide⟩ rfl rfl rfl dL_areSound_454 ?_
  refine n_aload_n C 13 dL_areSound_455 rfl rfl ?_
  refine n_iconst (v := (0 : Int32)) C dL_areSound_456 (by decide) ?_
  refine n_iald (v := (0 : Int32)) (n := 3) C 0 ⟨by decide, by unfold vp_in; decide⟩ rfl rfl rfl dL_areSound_457 ?_
  refine n_iadd C dL_areSound_458 ?_
  refine n_eq (v := (0 : Int32)) (by decide) ?_
  refine n_aload_n C 13 dL_areSound_459 rfl rfl ?_
  refine n_iconst (v := (1 : Int32)) C dL_areSound_460 (by decide) ?_
  refine n_iald (v := (0 : Int32)) (n := 3) C 1 ⟨by decide, by unfold vp_in; decide⟩ rfl rfl rfl dL_areSound_461 ?_
  refine n_isub C dL_areSound_462 ?_
  refine n_eq (v := (0 : Int32)) (by decide) ?_
  refine n_icmp_ne_t (tgt := 504) C dL_areSound_463 (by decide) (by decide) ?_
  refine n_aload_n C 12 dL_areSound_466 rfl rfl ?_
  refine n_iconst (v := (0 : Int32)) C dL_areSound_467 (by decide) ?_
  refine n_callv (As := [.int (0 : Int32)]) (n := 1) C (c_Game_sets l hl D cI cJ ad (0 : Int32)) zf_sets_0 ⟨rfl, rfl⟩ gcl5 rfl lwv_sets (hR := ⟨Nat.le_of_ble_eq_true rfl, Nat.le_of_ble_eq_true rfl⟩) rfl rfl (Nat.le_of_ble_eq_true rfl) dL_areSound_468 ⟨Nat.le_of_ble_eq_true rfl, Nat.le_of_ble_eq_true rfl⟩ ?_
  refine n_aload_n C 12 dL_areSound_471 rfl rfl ?_
  refine n_iconst (v := (1 : Int32)) C dL_areSound_472 (by decide) ?_
  refine n_callv (As := [.int (1 : Int32)]) (n := 1) C (c_Game_sets l hl D cI cJ ad (1 : Int32)) zf_sets_1 ⟨rfl, rfl⟩ gcl5 rfl lwv_sets (hR := ⟨Nat.le_of_ble_eq_true rfl, Nat.le_of_ble_eq_true rfl⟩) rfl rfl (Nat.le_of_ble_eq_true rfl) dL_areSound_473 ⟨Nat.le_of_ble_eq_true rfl, Nat.le_of_ble_eq_true rfl⟩ ?_
  refine n_iadd C dL_areSound_476 ?_
  refine n_eq (v := (0 : Int32)) (by decide) ?_
  refine n_bipush (v := (6 : Int32)) C dL_areSound_477 (by decide) ?_
  refine n_icmp_ge_f (tgt := 504) C dL_areSound_479 (by decide) (by decide) ?_
  refine n_aload_n C 12 dL_areSound_482 rfl rfl ?_
  refine n_iconst (v := (0 : Int32)) C dL_areSound_483 (by decide) ?_
  refine n_callv (As := [.int (0 : Int32)]) (n := 1) C (c_Game_sets l hl D cI cJ ad (0 : Int32)) zf_sets_0 ⟨rfl, rfl⟩ gcl5 rfl lwv_sets (hR := ⟨Nat.le_of_ble_eq_true rfl, Nat.le_of_ble_eq_true rfl⟩) rfl rfl (Nat.le_of_ble_eq_true rfl) dL_areSound_484 ⟨Nat.le_of_ble_eq_true rfl, Nat.le_of_ble_eq_true rfl⟩ ?_
  refine n_iconst (v := (3 : Int32)) C dL_areSound_487 (by decide) ?_
  refine n_icmp_lt_t (tgt := 500) C dL_areSound_488 (by decide) (by decide) ?_
  refine n_iconst (v := (1 : Int32)) C dL_areSound_500 (by decide) ?_
  refine n_goto (tgt := 505) C dL_areSound_501 (by decide) ?_
  exact n_retz C (Or.inr rfl) hr dL_areSound_505 (Nat.le_of_ble_eq_true rfl) (Nat.le_of_ble_eq_true rfl) (Nat.le_of_ble_eq_true rfl)
