set_option maxHeartbeats 4000000 in
set_option maxRecDepth 100000 in
theorem w_isRefused_0 (l : Launch) (hl : l.stackTraces = false) (D : va_G) (cI cJ : ClassId) (ad : Nat → Nat) : nMi l D cI cJ ad yL_isRefused cL_isRefused 11 (some .boolean) { frames := 9, cells := 38, slots := 228, locals := 206 } [.ref (ad 0), .int (0 : Int32)] nS0 (1 : Int32) 38 228 36 := by
  refine nStart (Qc := fun sz => nQi D cI cJ ad nS0 (1 : Int32) 36 sz) (L0 := [(0, .ref (ad 0)), (1, .int (0 : Int32))]) RL (by decide) rfl rfl (Nat.le_of_ble_eq_true rfl) ?_
  intro p e s m args below meth c C hr
  refine n_iload_n C 1 dL_isRefused_0 rfl rfl ?_
  refine n_iconst (v := (2 : Int32)) C dL_isRefused_1 (by decide) ?_
  refine n_irem C dL_isRefused_2 (by decide) ?_
  refine n_eq (v := (0 : Int32)) (by decide) ?_
  refine n_if_ne_t (tgt := 10) C dL_isRefused_3 (by decide) (by decide) ?_
  refine n_iconst (v := (1 : Int32)) C dL_isRefused_6 (by decide) ?_
  refine n_goto (tgt := 11) C dL_isRefused_7 (by decide) ?_
  refine n_istore_n (L' := [(2, .int (1 : Int32)), (0, .ref (ad 0)), (1, .int (0 : Int32))]) C dL_isRefused_11 rfl (by decide) rfl ?_
  refine n_iload_n C 0 dL_isRefused_12 rfl rfl ?_
  refine n_if_eq_f (tgt := 25) C dL_isRefused_13 (by decide) (by decide) ?_
  refine n_iconst (v := (-1 : Int32)) C dL_isRefused_16 (by decide) ?_
  refine n_iload_n C 2 dL_isRefused_17 rfl rfl ?_
  refine n_bipush (v := (30 : Int32)) C dL_isRefused_18 (by decide) ?_
  refine n_irem C dL_isRefused_20 (by decide) ?_
  refine n_eq (v := (0 : Int32)) (by decide) ?_
  refine n_isub C dL_isRefused_21 ?_
  refine n_eq (v := (-1 : Int32)) (by decide) ?_
  refine n_goto (tgt := 31) C dL_isRefused_22 (by decide) ?_
  refine n_istore_n (L' := [(3, .int (-1 : Int32)), (2, .int (1 : Int32)), (0, .ref (ad 0)), (1, .int (0 : Int32))]) C dL_isRefused_31 rfl (by decide) rfl ?_
  refine n_iload_n C 1 dL_isRefused_32 rfl rfl ?_
  refine n_if_eq_f (tgt := 45) C dL_isRefused_33 (by decide) (by decide) ?_
  refine n_iconst (v := (0 : Int32)) C dL_isRefused_36 (by decide) ?_
  refine n_iload_n C 3 dL_isRefused_37 rfl rfl ?_
  refine n_bipush (v := (30 : Int32)) C dL_isRefused_38 (by decide) ?_
  refine n_irem C dL_isRefused_40 (by decide) ?_
  refine n_eq (v := (0 : Int32)) (by decide) ?_
  refine n_isub C dL_isRefused_41 ?_
  refine n_eq (v := (0 : Int32)) (by decide) ?_
  refine n_goto (tgt := 52) C dL_isRefused_42 (by decide) ?_
  refine n_istore (L' := [(4, .int (0 : Int32)), (3, .int (-1 : Int32)), (2, .int (1 : Int32)), (0, .ref (ad 0)), (1, .int (0 : Int32))]) C dL_isRefused_52 (by decide) rfl ?_
  refine n_iload_n C 2 dL_isRefused_54 rfl rfl ?_
  refine n_if_eq_f (tgt := 67) C dL_isRefused_55 (by decide) (by decide) ?_
  refine n_iconst (v := (0 : Int32)) C dL_isRefused_58 (by decide) ?_
  refine n_iload_n C 4 dL_isRefused_59 rfl rfl ?_
  refine n_bipush (v := (30 : Int32)) C dL_isRefused_60 (by decide) ?_
  refine n_irem C dL_isRefused_62 (by decide) ?_
  refine n_eq (v := (0 : Int32)) (by decide) ?_
  refine n_isub C dL_isRefused_63 ?_
  refine n_eq (v := (0 : Int32)) (by decide) ?_
  refine n_goto (tgt := 74) C dL_isRefused_64 (by decide) ?_
  refine n_istore (L' := [(5, .int (0 : Int32)), (4, .int (0 : Int32)), (3, .int (-1 : Int32)), (2, .int (1 : Int32)), (0, .ref (ad 0)), (1, .int (0 : Int32))]) C dL_isRefused_74 (by decide) rfl ?_
  refine n_aload_n C 4 dL_isRefused_76 rfl rfl ?_
  refine n_calll (As := [.ref (ad 0)]) (n := 1) C (w_all l hl D cI cJ ad) ⟨rfl, rfl⟩ lws_all (hR := ⟨Nat.le_of_ble_eq_true rfl, Nat.le_of_ble_eq_true rfl⟩) rfl rfl (Nat.le_of_ble_eq_true rfl) dL_isRefused_77 ⟨Nat.le_of_ble_eq_true rfl, Nat.le_of_ble_eq_true rfl⟩ ?_
  refine n_lstore (L' := [(6, .long (-1628093155160432834 : Int64)), (5, .int (0 : Int32)), (4, .int (0 : Int32)), (3, .int (-1 : Int32)), (2, .int (1 : Int32)), (0, .ref (ad 0)), (1, .int (0 : Int32))]) C dL_isRefused_80 (by decide) rfl ?_
  refine n_aload_n C 5 dL_isRefused_82 rfl rfl ?_
  refine n_iconst (v := (0 : Int32)) C dL_isRefused_83 (by decide) ?_
  refine n_callv (As := [.int (0 : Int32)]) (n := 1) C (c_Game_about l hl D cI cJ ad (0 : Int32)) zf_about_0 ⟨rfl, rfl⟩ gcl5 rfl lwv_about (hR := ⟨Nat.le_of_ble_eq_true rfl, Nat.le_of_ble_eq_true rfl⟩) rfl rfl (Nat.le_of_ble_eq_true rfl) dL_isRefused_84 ⟨Nat.le_of_ble_eq_true rfl, Nat.le_of_ble_eq_true rfl⟩ ?_
  refine n_iconst (v := (1 : Int32)) C dL_isRefused_87 (by decide) ?_
  refine n_icmp_ne_f (tgt := 95) C dL_isRefused_88 (by decide) (by decide) ?_
  refine n_iconst (v := (0 : Int32)) C dL_isRefused_95 (by decide) ?_
  refine n_istore (L' := [(8, .int (0 : Int32)), (6, .long (-1628093155160432834 : Int64)), (5, .int (0 : Int32)), (4, .int (0 : Int32)), (3, .int (-1 : Int32)), (2, .int (1 : Int32)), (0, .ref (ad 0)), (1, .int (0 : Int32))]) C dL_isRefused_96 (by decide) rfl ?_
  refine n_aload_n C 6 dL_isRefused_98 rfl rfl ?_
  refine n_iconst (v := (1 : Int32)) C dL_isRefused_99 (by decide) ?_
  refine n_callv (As := [.int (1 : Int32)]) (n := 1) C (c_Game_about l hl D cI cJ ad (1 : Int32)) zf_about_1 ⟨rfl, rfl⟩ gcl5 rfl lwv_about (hR := ⟨Nat.le_of_ble_eq_true rfl, Nat.le_of_ble_eq_true rfl⟩) rfl rfl (Nat.le_of_ble_eq_true rfl) dL_isRefused_100 ⟨Nat.le_of_ble_eq_true rfl, Nat.le_of_ble_eq_true rfl⟩ ?_
  refine n_iconst (v := (1 : Int32)) C dL_isRefused_103 (by decide) ?_
  refine n_icmp_ne_f (tgt := 111) C dL_isRefused_104 (by decide) (by decide) ?_
  refine n_iconst (v := (0 : Int32)) C dL_isRefused_111 (by decide) ?_
  refine n_istore (L' := [(9, .int (0 : Int32)), (8, .int (0 : Int32)), (6, .long (-1628093155160432834 : Int64)), (5, .int (0 : Int32)), (4, .int (0 : Int32)), (3, .int (-1 : Int32)), (2, .int (1 : Int32)), (0, .ref (ad 0)), (1, .int (0 : Int32))]) C dL_isRefused_112 (by decide) rfl ?_
  refine n_aload_n C 7 dL_isRefused_114 rfl rfl ?_
  refine n_iconst (v := (0 : Int32)) C dL_isRefused_115 (by decide) ?_
  refine n_iload_n C 5 dL_isRefused_116 rfl rfl ?_
  refine n_iconst (v := (1 : Int32)) C dL_isRefused_117 (by decide) ?_
  refine n_iconst (v := (1 : Int32)) C dL_isRefused_118 (by decide) ?_
  refine n_iconst (v := (0 : Int32)) C dL_isRefused_119 (by decide) ?_
  refine n_callh (As := [.ref (ad 0), .int (0 : Int32), .int (-1 : Int32), .int (1 : Int32), .int (1 : Int32), .int (0 : Int32)]) (n := 6) (r := (-1671 : Int32)) C (a_line l hl D cI cJ ad nS0 (-1 : Int32) (1 : Int32) (1 : Int32) (0 : Int32) zx_line_m1_1_1 (by decide)) ⟨rfl, rfl⟩ lwh_act (hR := ⟨Nat.le_of_ble_eq_true rfl, Nat.le_of_ble_eq_true rfl⟩) rfl rfl (Nat.le_of_ble_eq_true rfl) dL_isRefused_120 ⟨Nat.le_of_ble_eq_true rfl, Nat.le_of_ble_eq_true rfl⟩ ?_
  refine n_sipush (v := (-1671 : Int32)) C dL_isRefused_123 (by decide) ?_
  refine n_icmp_ne_t (tgt := 668) C dL_isRefused_126 (by decide) (by decide) ?_
  refine n_aload_n C 7 dL_isRefused_129 rfl rfl ?_
  refine n_iconst (v := (0 : Int32)) C dL_isRefused_130 (by decide) ?_
  refine n_iload_n C 8 dL_isRefused_131 rfl rfl ?_
  refine n_iconst (v := (2 : Int32)) C dL_isRefused_132 (by decide) ?_
  refine n_irem C dL_isRefused_133 (by decide) ?_
  refine n_eq (v := (0 : Int32)) (by decide) ?_
  refine n_iload C 4 dL_isRefused_134 rfl ?_
  refine n_iconst (v := (1 : Int32)) C dL_isRefused_136 (by decide) ?_
  refine n_iconst (v := (0 : Int32)) C dL_isRefused_137 (by decide) ?_
  refine n_callh (As := [.ref (ad 0), .int (0 : Int32), .int (0 : Int32), .int (0 : Int32), .int (1 : Int32), .int (0 : Int32)]) (n := 6) (r := (-1671 : Int32)) C (a_line l hl D cI cJ ad nS0 (0 : Int32) (0 : Int32) (1 : Int32) (0 : Int32) zx_line_0_0_1 (by decide)) ⟨rfl, rfl⟩ lwh_act (hR := ⟨Nat.le_of_ble_eq_true rfl, Nat.le_of_ble_eq_true rfl⟩) rfl rfl (Nat.le_of_ble_eq_true rfl) dL_isRefused_138 ⟨Nat.le_of_ble_eq_true rfl, Nat.le_of_ble_eq_true rfl⟩ ?_
  refine n_sipush (v := (-1671 : Int32)) C dL_isRefused_141 (by decide) ?_
  refine n_icmp_ne_t (tgt := 668) C dL_isRefused_144 (by decide) (by decide) ?_
  refine n_aload_n C 7 dL_isRefused_147 rfl rfl ?_
  refine n_iconst (v := (0 : Int32)) C dL_isRefused_148 (by decide) ?_
  refine n_iload_n C 8 dL_isRefused_149 rfl rfl ?_
  refine n_iconst (v := (2 : Int32)) C dL_isRefused_150 (by decide) ?_
  refine n_irem C dL_isRefused_151 (by decide) ?_
  refine n_eq (v := (0 : Int32)) (by decide) ?_
  refine n_iconst (v := (1 : Int32)) C dL_isRefused_152 (by decide) ?_
  refine n_iload C 3 dL_isRefused_153 rfl ?_
  refine n_iconst (v := (0 : Int32)) C dL_isRefused_155 (by decide) ?_
  refine n_callh (As := [.ref (ad 0), .int (0 : Int32), .int (0 : Int32), .int (1 : Int32), .int (0 : Int32), .int (0 : Int32)]) (n := 6) (r := (-1671 : Int32)) C (a_line l hl D cI cJ ad nS0 (0 : Int32) (1 : Int32) (0 : Int32) (0 : Int32) zx_line_0_1_0 (by decide)) ⟨rfl, rfl⟩ lwh_act (hR := ⟨Nat.le_of_ble_eq_true rfl, Nat.le_of_ble_eq_true rfl⟩) rfl rfl (Nat.le_of_ble_eq_true rfl) dL_isRefused_156 ⟨Nat.le_of_ble_eq_true rfl, Nat.le_of_ble_eq_true rfl⟩ ?_
  refine n_sipush (v := (-1671 : Int32)) C dL_isRefused_159 (by decide) ?_
  refine n_icmp_ne_t (tgt := 668) C dL_isRefused_162 (by decide) (by decide) ?_
  refine n_aload_n C 7 dL_isRefused_165 rfl rfl ?_
  refine n_iconst (v := (1 : Int32)) C dL_isRefused_166 (by decide) ?_
  refine n_iload_n C 5 dL_isRefused_167 rfl rfl ?_
  refine n_iconst (v := (1 : Int32)) C dL_isRefused_168 (by decide) ?_
  refine n_iconst (v := (0 : Int32)) C dL_isRefused_169 (by decide) ?_
  refine n_iconst (v := (0 : Int32)) C dL_isRefused_170 (by decide) ?_
  refine n_callh (As := [.ref (ad 0), .int (1 : Int32), .int (-1 : Int32), .int (1 : Int32), .int (0 : Int32), .int (0 : Int32)]) (n := 6) (r := (-1671 : Int32)) C (a_libero l hl D cI cJ ad nS0 (-1 : Int32) (1 : Int32) (0 : Int32) (0 : Int32) zx_libero_m1_1 (by decide)) ⟨rfl, rfl⟩ lwh_act (hR := ⟨Nat.le_of_ble_eq_true rfl, Nat.le_of_ble_eq_true rfl⟩) rfl rfl (Nat.le_of_ble_eq_true rfl) dL_isRefused_171 ⟨Nat.le_of_ble_eq_true rfl, Nat.le_of_ble_eq_true rfl⟩ ?_
  refine n_sipush (v := (-1671 : Int32)) C dL_isRefused_174 (by decide) ?_
  refine n_icmp_ne_t (tgt := 668) C dL_isRefused_177 (by decide) (by decide) ?_
  refine n_aload_n C 7 dL_isRefused_180 rfl rfl ?_
  refine n_iconst (v := (1 : Int32)) C dL_isRefused_181 (by decide) ?_
  refine n_iload_n C 8 dL_isRefused_182 rfl rfl ?_
  refine n_iconst (v := (2 : Int32)) C dL_isRefused_183 (by decide) ?_
  refine n_irem C dL_isRefused_184 (by decide) ?_
  refine n_eq (v := (0 : Int32)) (by decide) ?_
  refine n_iload C 3 dL_isRefused_185 rfl ?_
  refine n_iconst (v := (0 : Int32)) C dL_isRefused_187 (by decide) ?_
  refine n_iconst (v := (0 : Int32)) C dL_isRefused_188 (by decide) ?_
  refine n_callh (As := [.ref (ad 0), .int (1 : Int32), .int (0 : Int32), .int (0 : Int32), .int (0 : Int32), .int (0 : Int32)]) (n := 6) (r := (-1671 : Int32)) C (a_libero l hl D cI cJ ad nS0 (0 : Int32) (0 : Int32) (0 : Int32) (0 : Int32) zx_libero_0_0 (by decide)) ⟨rfl, rfl⟩ lwh_act (hR := ⟨Nat.le_of_ble_eq_true rfl, Nat.le_of_ble_eq_true rfl⟩) rfl rfl (Nat.le_of_ble_eq_true rfl) dL_isRefused_189 ⟨Nat.le_of_ble_eq_true rfl, Nat.le_of_ble_eq_true rfl⟩ ?_
  refine n_sipush (v := (-1671 : Int32)) C dL_isRefused_192 (by decide) ?_
  refine n_icmp_ne_t (tgt := 668) C dL_isRefused_195 (by decide) (by decide) ?_
  refine n_aload_n C 7 dL_isRefused_198 rfl rfl ?_
  refine n_iconst (v := (2 : Int32)) C dL_isRefused_199 (by decide) ?_
  refine n_iload_n C 5 dL_isRefused_200 rfl rfl ?_
  refine n_iconst (v := (0 : Int32)) C dL_isRefused_201 (by decide) ?_
  refine n_iconst (v := (0 : Int32)) C dL_isRefused_202 (by decide) ?_
  refine n_iconst (v := (0 : Int32)) C dL_isRefused_203 (by decide) ?_
  refine n_callh (As := [.ref (ad 0), .int (2 : Int32), .int (-1 : Int32), .int (0 : Int32), .int (0 : Int32), .int (0 : Int32)]) (n := 6) (r := (-1671 : Int32)) C (a_begin l hl D cI cJ ad nS0 (-1 : Int32) (0 : Int32) (0 : Int32) (0 : Int32) zx_begin_m1 (by decide)) ⟨rfl, rfl⟩ lwh_act (hR := ⟨Nat.le_of_ble_eq_true rfl, Nat.le_of_ble_eq_true rfl⟩) rfl rfl (Nat.le_of_ble_eq_true rfl) dL_isRefused_204 ⟨Nat.le_of_ble_eq_true rfl, Nat.le_of_ble_eq_true rfl⟩ ?_
  refine n_sipush (v := (-1671 : Int32)) C dL_isRefused_207 (by decide) ?_
  refine n_icmp_ne_t (tgt := 668) C dL_isRefused_210 (by decide) (by decide) ?_
  refine n_aload_n C 7 dL_isRefused_213 rfl rfl ?_
  refine n_iconst (v := (3 : Int32)) C dL_isRefused_214 (by decide) ?_
  refine n_iload C 3 dL_isRefused_215 rfl ?_
  refine n_iconst (v := (0 : Int32)) C dL_isRefused_217 (by decide) ?_
  refine n_iconst (v := (0 : Int32)) C dL_isRefused_218 (by decide) ?_
  refine n_iconst (v := (0 : Int32)) C dL_isRefused_219 (by decide) ?_
  refine n_callh (As := [.ref (ad 0), .int (3 : Int32), .int (0 : Int32), .int (0 : Int32), .int (0 : Int32), .int (0 : Int32)]) (n := 6) (r := (-1671 : Int32)) C (a_serve l hl D cI cJ ad nS0 (0 : Int32) (0 : Int32) (0 : Int32) (0 : Int32) zx_serve_0 (by decide)) ⟨rfl, rfl⟩ lwh_act (hR := ⟨Nat.le_of_ble_eq_true rfl, Nat.le_of_ble_eq_true rfl⟩) rfl rfl (Nat.le_of_ble_eq_true rfl) dL_isRefused_220 ⟨Nat.le_of_ble_eq_true rfl, Nat.le_of_ble_eq_true rfl⟩ ?_
  refine n_sipush (v := (-1671 : Int32)) C dL_isRefused_223 (by decide) ?_
  refine n_icmp_ne_t (tgt := 668) C dL_isRefused_226 (by decide) (by decide) ?_
  refine n_aload_n C 7 dL_isRefused_229 rfl rfl ?_
  refine n_iconst (v := (4 : Int32)) C dL_isRefused_230 (by decide) ?_
  refine n_iload_n C 5 dL_isRefused_231 rfl rfl ?_
  refine n_iconst (v := (1 : Int32)) C dL_isRefused_232 (by decide) ?_
  refine n_bipush (v := (9 : Int32)) C dL_isRefused_233 (by decide) ?_
  refine n_iconst (v := (0 : Int32)) C dL_isRefused_235 (by decide) ?_
  refine n_callh (As := [.ref (ad 0), .int (4 : Int32), .int (-1 : Int32), .int (1 : Int32), .int (9 : Int32), .int (0 : Int32)]) (n := 6) (r := (-1671 : Int32)) C (a_touch l hl D cI cJ ad nS0 (-1 : Int32) (1 : Int32) (9 : Int32) zx_touch_m1_1_9_0 (by decide)) ⟨rfl, rfl⟩ lwh_act (hR := ⟨Nat.le_of_ble_eq_true rfl, Nat.le_of_ble_eq_true rfl⟩) rfl rfl (Nat.le_of_ble_eq_true rfl) dL_isRefused_236 ⟨Nat.le_of_ble_eq_true rfl, Nat.le_of_ble_eq_true rfl⟩ ?_
  refine n_sipush (v := (-1671 : Int32)) C dL_isRefused_239 (by decide) ?_
  refine n_icmp_ne_t (tgt := 668) C dL_isRefused_242 (by decide) (by decide) ?_
  refine n_aload_n C 7 dL_isRefused_245 rfl rfl ?_
  refine n_iconst (v := (4 : Int32)) C dL_isRefused_246 (by decide) ?_
  refine n_iload_n C 8 dL_isRefused_247 rfl rfl ?_
  refine n_iconst (v := (2 : Int32)) C dL_isRefused_248 (by decide) ?_
  refine n_irem C dL_isRefused_249 (by decide) ?_
  refine n_eq (v := (0 : Int32)) (by decide) ?_
  refine n_iload C 3 dL_isRefused_250 rfl ?_
  refine n_bipush (v := (9 : Int32)) C dL_isRefused_252 (by decide) ?_
  refine n_iconst (v := (0 : Int32)) C dL_isRefused_254 (by decide) ?_
  refine n_callh (As := [.ref (ad 0), .int (4 : Int32), .int (0 : Int32), .int (0 : Int32), .int (9 : Int32), .int (0 : Int32)]) (n := 6) (r := (-1671 : Int32)) C (a_touch l hl D cI cJ ad nS0 (0 : Int32) (0 : Int32) (9 : Int32) zx_touch_0_0_9_0 (by decide)) ⟨rfl, rfl⟩ lwh_act (hR := ⟨Nat.le_of_ble_eq_true rfl, Nat.le_of_ble_eq_true rfl⟩) rfl rfl (Nat.le_of_ble_eq_true rfl) dL_isRefused_255 ⟨Nat.le_of_ble_eq_true rfl, Nat.le_of_ble_eq_true rfl⟩ ?_
  refine n_sipush (v := (-1671 : Int32)) C dL_isRefused_258 (by decide) ?_
  refine n_icmp_ne_t (tgt := 668) C dL_isRefused_261 (by decide) (by decide) ?_
  refine n_aload_n C 7 dL_isRefused_264 rfl rfl ?_
  refine n_iconst (v := (4 : Int32)) C dL_isRefused_265 (by decide) ?_
  refine n_iload_n C 8 dL_isRefused_266 rfl rfl ?_
  refine n_iconst (v := (2 : Int32)) C dL_isRefused_267 (by decide) ?_
  refine n_irem C dL_isRefused_268 (by decide) ?_
  refine n_eq (v := (0 : Int32)) (by decide) ?_
  refine n_iconst (v := (1 : Int32)) C dL_isRefused_269 (by decide) ?_
  refine n_iload_n C 8 dL_isRefused_270 rfl rfl ?_
  refine n_bipush (v := (20 : Int32)) C dL_isRefused_271 (by decide) ?_
  refine n_irem C dL_isRefused_273 (by decide) ?_
  refine n_eq (v := (0 : Int32)) (by decide) ?_
  refine n_iadd C dL_isRefused_274 ?_
  refine n_eq (v := (1 : Int32)) (by decide) ?_
  refine n_iload_n C 6 dL_isRefused_275 rfl rfl ?_
  refine n_if_eq_f (tgt := 288) C dL_isRefused_276 (by decide) (by decide) ?_
  refine n_iconst (v := (-1 : Int32)) C dL_isRefused_279 (by decide) ?_
  refine n_iload_n C 8 dL_isRefused_280 rfl rfl ?_
  refine n_bipush (v := (30 : Int32)) C dL_isRefused_281 (by decide) ?_
  refine n_irem C dL_isRefused_283 (by decide) ?_
  refine n_eq (v := (0 : Int32)) (by decide) ?_
  refine n_isub C dL_isRefused_284 ?_
  refine n_eq (v := (-1 : Int32)) (by decide) ?_
  refine n_goto (tgt := 289) C dL_isRefused_285 (by decide) ?_
  refine n_iconst (v := (0 : Int32)) C dL_isRefused_289 (by decide) ?_
  refine n_callh (As := [.ref (ad 0), .int (4 : Int32), .int (0 : Int32), .int (1 : Int32), .int (-1 : Int32), .int (0 : Int32)]) (n := 6) (r := (-1672 : Int32)) C (a_touch l hl D cI cJ ad nS0 (0 : Int32) (1 : Int32) (-1 : Int32) zx_touch_0_1_m1_0 (by decide)) ⟨rfl, rfl⟩ lwh_act (hR := ⟨Nat.le_of_ble_eq_true rfl, Nat.le_of_ble_eq_true rfl⟩) rfl rfl (Nat.le_of_ble_eq_true rfl) dL_isRefused_290 ⟨Nat.le_of_ble_eq_true rfl, Nat.le_of_ble_eq_true rfl⟩ ?_
  refine n_sipush (v := (-1672 : Int32)) C dL_isRefused_293 (by decide) ?_
  refine n_icmp_ne_t (tgt := 668) C dL_isRefused_296 (by decide) (by decide) ?_
  refine n_aload_n C 7 dL_isRefused_299 rfl rfl ?_
  refine n_iconst (v := (5 : Int32)) C dL_isRefused_300 (by decide) ?_
  refine n_iload_n C 6 dL_isRefused_301 rfl rfl ?_
  refine n_if_eq_f (tgt := 315) C dL_isRefused_302 (by decide) (by decide) ?_
  refine n_bipush (v := (-2 : Int32)) C dL_isRefused_305 (by decide) ?_
  refine n_iload_n C 8 dL_isRefused_307 rfl rfl ?_
  refine n_bipush (v := (30 : Int32)) C dL_isRefused_308 (by decide) ?_
  refine n_irem C dL_isRefused_310 (by decide) ?_
  refine n_eq (v := (0 : Int32)) (by decide) ?_
  refine n_isub C dL_isRefused_311 ?_
  refine n_eq (v := (-2 : Int32)) (by decide) ?_
  refine n_goto (tgt := 316) C dL_isRefused_312 (by decide) ?_
  refine n_iconst (v := (0 : Int32)) C dL_isRefused_316 (by decide) ?_
  refine n_iconst (v := (0 : Int32)) C dL_isRefused_317 (by decide) ?_
  refine n_iconst (v := (0 : Int32)) C dL_isRefused_318 (by decide) ?_
  refine n_callh (As := [.ref (ad 0), .int (5 : Int32), .int (-2 : Int32), .int (0 : Int32), .int (0 : Int32), .int (0 : Int32)]) (n := 6) (r := (-1671 : Int32)) C (a_fall l hl D cI cJ ad nS0 (-2 : Int32) (0 : Int32) (0 : Int32) (0 : Int32) zx_fall_m2 (by decide)) ⟨rfl, rfl⟩ lwh_act (hR := ⟨Nat.le_of_ble_eq_true rfl, Nat.le_of_ble_eq_true rfl⟩) rfl rfl (Nat.le_of_ble_eq_true rfl) dL_isRefused_319 ⟨Nat.le_of_ble_eq_true rfl, Nat.le_of_ble_eq_true rfl⟩ ?_
  refine n_sipush (v := (-1671 : Int32)) C dL_isRefused_322 (by decide) ?_
  refine n_icmp_ne_t (tgt := 668) C dL_isRefused_325 (by decide) (by decide) ?_
  refine n_aload_n C 7 dL_isRefused_328 rfl rfl ?_
  refine n_bipush (v := (6 : Int32)) C dL_isRefused_329 (by decide) ?_
  refine n_iload_n C 5 dL_isRefused_331 rfl rfl ?_
  refine n_iconst (v := (1 : Int32)) C dL_isRefused_332 (by decide) ?_
  refine n_iconst (v := (0 : Int32)) C dL_isRefused_333 (by decide) ?_
  refine n_iconst (v := (0 : Int32)) C dL_isRefused_334 (by decide) ?_
  refine n_callh (As := [.ref (ad 0), .int (6 : Int32), .int (-1 : Int32), .int (1 : Int32), .int (0 : Int32), .int (0 : Int32)]) (n := 6) (r := (-1671 : Int32)) C (a_net l hl D cI cJ ad nS0 (-1 : Int32) (0 : Int32) (0 : Int32) zx_net_m1_1 (by decide)) ⟨rfl, rfl⟩ lwh_act (hR := ⟨Nat.le_of_ble_eq_true rfl, Nat.le_of_ble_eq_true rfl⟩) rfl rfl (Nat.le_of_ble_eq_true rfl) dL_isRefused_335 ⟨Nat.le_of_ble_eq_true rfl, Nat.le_of_ble_eq_true rfl⟩ ?_
  refine n_sipush (v := (-1671 : Int32)) C dL_isRefused_338 (by decide) ?_
  refine n_icmp_ne_t (tgt := 668) C dL_isRefused_341 (by decide) (by decide) ?_
  refine n_aload_n C 7 dL_isRefused_344 rfl rfl ?_
  refine n_bipush (v := (8 : Int32)) C dL_isRefused_345 (by decide) ?_
  refine n_iload_n C 5 dL_isRefused_347 rfl rfl ?_
  refine n_iconst (v := (1 : Int32)) C dL_isRefused_348 (by decide) ?_
  refine n_iconst (v := (0 : Int32)) C dL_isRefused_349 (by decide) ?_
  refine n_iconst (v := (0 : Int32)) C dL_isRefused_350 (by decide) ?_
  refine n_callh (As := [.ref (ad 0), .int (8 : Int32), .int (-1 : Int32), .int (1 : Int32), .int (0 : Int32), .int (0 : Int32)]) (n := 6) (r := (-1671 : Int32)) C (a_exchange l hl D cI cJ ad nS0 (-1 : Int32) (1 : Int32) (0 : Int32) (0 : Int32) zx_exchange_m1_1 (by decide)) ⟨rfl, rfl⟩ lwh_act (hR := ⟨Nat.le_of_ble_eq_true rfl, Nat.le_of_ble_eq_true rfl⟩) rfl rfl (Nat.le_of_ble_eq_true rfl) dL_isRefused_351 ⟨Nat.le_of_ble_eq_true rfl, Nat.le_of_ble_eq_true rfl⟩ ?_
  refine n_sipush (v := (-1671 : Int32)) C dL_isRefused_354 (by decide) ?_
  refine n_icmp_ne_t (tgt := 668) C dL_isRefused_357 (by decide) (by decide) ?_
  refine n_aload_n C 7 dL_isRefused_360 rfl rfl ?_
  refine n_bipush (v := (8 : Int32)) C dL_isRefused_361 (by decide) ?_
  refine n_iload_n C 8 dL_isRefused_363 rfl rfl ?_
  refine n_iconst (v := (2 : Int32)) C dL_isRefused_364 (by decide) ?_
  refine n_irem C dL_isRefused_365 (by decide) ?_
  refine n_eq (v := (0 : Int32)) (by decide) ?_
  refine n_iload C 3 dL_isRefused_366 rfl ?_
  refine n_iconst (v := (0 : Int32)) C dL_isRefused_368 (by decide) ?_
  refine n_iconst (v := (0 : Int32)) C dL_isRefused_369 (by decide) ?_
  refine n_callh (As := [.ref (ad 0), .int (8 : Int32), .int (0 : Int32), .int (0 : Int32), .int (0 : Int32), .int (0 : Int32)]) (n := 6) (r := (-1671 : Int32)) C (a_exchange l hl D cI cJ ad nS0 (0 : Int32) (0 : Int32) (0 : Int32) (0 : Int32) zx_exchange_0_0 (by decide)) ⟨rfl, rfl⟩ lwh_act (hR := ⟨Nat.le_of_ble_eq_true rfl, Nat.le_of_ble_eq_true rfl⟩) rfl rfl (Nat.le_of_ble_eq_true rfl) dL_isRefused_370 ⟨Nat.le_of_ble_eq_true rfl, Nat.le_of_ble_eq_true rfl⟩ ?_
  refine n_sipush (v := (-1671 : Int32)) C dL_isRefused_373 (by decide) ?_
  refine n_icmp_ne_t (tgt := 668) C dL_isRefused_376 (by decide) (by decide) ?_
  refine n_aload_n C 7 dL_isRefused_379 rfl rfl ?_
  refine n_bipush (v := (9 : Int32)) C dL_isRefused_380 (by decide) ?_
  refine n_iload_n C 5 dL_isRefused_382 rfl rfl ?_
  refine n_iconst (v := (1 : Int32)) C dL_isRefused_383 (by decide) ?_
  refine n_iconst (v := (2 : Int32)) C dL_isRefused_384 (by decide) ?_
  refine n_iconst (v := (0 : Int32)) C dL_isRefused_385 (by decide) ?_
  refine n_callh (As := [.ref (ad 0), .int (9 : Int32), .int (-1 : Int32), .int (1 : Int32), .int (2 : Int32), .int (0 : Int32)]) (n := 6) (r := (-1671 : Int32)) C (a_substitute l hl D cI cJ ad nS0 (-1 : Int32) (1 : Int32) (2 : Int32) (0 : Int32) zx_substitute_m1_1_2 (by decide)) ⟨rfl, rfl⟩ lwh_act (hR := ⟨Nat.le_of_ble_eq_true rfl, Nat.le_of_ble_eq_true rfl⟩) rfl rfl (Nat.le_of_ble_eq_true rfl) dL_isRefused_386 ⟨Nat.le_of_ble_eq_true rfl, Nat.le_of_ble_eq_true rfl⟩ ?_
  refine n_sipush (v := (-1671 : Int32)) C dL_isRefused_389 (by decide) ?_
  refine n_icmp_ne_t (tgt := 668) C dL_isRefused_392 (by decide) (by decide) ?_
  refine n_aload_n C 7 dL_isRefused_395 rfl rfl ?_
  refine n_bipush (v := (9 : Int32)) C dL_isRefused_396 (by decide) ?_
  refine n_iload_n C 8 dL_isRefused_398 rfl rfl ?_
  refine n_iconst (v := (2 : Int32)) C dL_isRefused_399 (by decide) ?_
  refine n_irem C dL_isRefused_400 (by decide) ?_
  refine n_eq (v := (0 : Int32)) (by decide) ?_
  refine n_iload C 3 dL_isRefused_401 rfl ?_
  refine n_iconst (v := (2 : Int32)) C dL_isRefused_403 (by decide) ?_
  refine n_iconst (v := (0 : Int32)) C dL_isRefused_404 (by decide) ?_
  refine n_callh (As := [.ref (ad 0), .int (9 : Int32), .int (0 : Int32), .int (0 : Int32), .int (2 : Int32), .int (0 : Int32)]) (n := 6) (r := (-1671 : Int32)) C (a_substitute l hl D cI cJ ad nS0 (0 : Int32) (0 : Int32) (2 : Int32) (0 : Int32) zx_substitute_0_0_2 (by decide)) ⟨rfl, rfl⟩ lwh_act (hR := ⟨Nat.le_of_ble_eq_true rfl, Nat.le_of_ble_eq_true rfl⟩) rfl rfl (Nat.le_of_ble_eq_true rfl) dL_isRefused_405 ⟨Nat.le_of_ble_eq_true rfl, Nat.le_of_ble_eq_true rfl⟩ ?_
  refine n_sipush (v := (-1671 : Int32)) C dL_isRefused_408 (by decide) ?_
  refine n_icmp_ne_t (tgt := 668) C dL_isRefused_411 (by decide) (by decide) ?_
  refine n_aload_n C 7 dL_isRefused_414 rfl rfl ?_
  refine n_bipush (v := (9 : Int32)) C dL_isRefused_415 (by decide) ?_
  refine n_iload_n C 8 dL_isRefused_417 rfl rfl ?_
  refine n_iconst (v := (2 : Int32)) C dL_isRefused_418 (by decide) ?_
  refine n_irem C dL_isRefused_419 (by decide) ?_
  refine n_eq (v := (0 : Int32)) (by decide) ?_
  refine n_iconst (v := (1 : Int32)) C dL_isRefused_420 (by decide) ?_
  refine n_iload C 3 dL_isRefused_421 rfl ?_
  refine n_iconst (v := (0 : Int32)) C dL_isRefused_423 (by decide) ?_
  refine n_callh (As := [.ref (ad 0), .int (9 : Int32), .int (0 : Int32), .int (1 : Int32), .int (0 : Int32), .int (0 : Int32)]) (n := 6) (r := (-1671 : Int32)) C (a_substitute l hl D cI cJ ad nS0 (0 : Int32) (1 : Int32) (0 : Int32) (0 : Int32) zx_substitute_0_1_0 (by decide)) ⟨rfl, rfl⟩ lwh_act (hR := ⟨Nat.le_of_ble_eq_true rfl, Nat.le_of_ble_eq_true rfl⟩) rfl rfl (Nat.le_of_ble_eq_true rfl) dL_isRefused_424 ⟨Nat.le_of_ble_eq_true rfl, Nat.le_of_ble_eq_true rfl⟩ ?_
  refine n_sipush (v := (-1671 : Int32)) C dL_isRefused_427 (by decide) ?_
  refine n_icmp_ne_t (tgt := 668) C dL_isRefused_430 (by decide) (by decide) ?_
  refine n_aload_n C 7 dL_isRefused_433 rfl rfl ?_
  refine n_bipush (v := (10 : Int32)) C dL_isRefused_434 (by decide) ?_
  refine n_iload_n C 5 dL_isRefused_436 rfl rfl ?_
  refine n_iconst (v := (0 : Int32)) C dL_isRefused_437 (by decide) ?_
  refine n_iconst (v := (0 : Int32)) C dL_isRefused_438 (by decide) ?_
  refine n_iconst (v := (0 : Int32)) C dL_isRefused_439 (by decide) ?_
  refine n_callh (As := [.ref (ad 0), .int (10 : Int32), .int (-1 : Int32), .int (0 : Int32), .int (0 : Int32), .int (0 : Int32)]) (n := 6) (r := (-1671 : Int32)) C (a_challenge l hl D cI cJ ad nS0 (-1 : Int32) (0 : Int32) (0 : Int32) (0 : Int32) zx_challenge_m1 (by decide)) ⟨rfl, rfl⟩ lwh_act (hR := ⟨Nat.le_of_ble_eq_true rfl, Nat.le_of_ble_eq_true rfl⟩) rfl rfl (Nat.le_of_ble_eq_true rfl) dL_isRefused_440 ⟨Nat.le_of_ble_eq_true rfl, Nat.le_of_ble_eq_true rfl⟩ ?_
  refine n_sipush (v := (-1671 : Int32)) C dL_isRefused_443 (by decide) ?_
  refine n_icmp_ne_t (tgt := 668) C dL_isRefused_446 (by decide) (by decide) ?_
  refine n_aload_n C 7 dL_isRefused_449 rfl rfl ?_
  refine n_bipush (v := (11 : Int32)) C dL_isRefused_450 (by decide) ?_
  refine n_iload_n C 5 dL_isRefused_452 rfl rfl ?_
  refine n_iconst (v := (0 : Int32)) C dL_isRefused_453 (by decide) ?_
  refine n_iconst (v := (0 : Int32)) C dL_isRefused_454 (by decide) ?_
  refine n_iconst (v := (0 : Int32)) C dL_isRefused_455 (by decide) ?_
  refine n_callh (As := [.ref (ad 0), .int (11 : Int32), .int (-1 : Int32), .int (0 : Int32), .int (0 : Int32), .int (0 : Int32)]) (n := 6) (r := (-1671 : Int32)) C (a_points l hl D cI cJ ad nS0 (-1 : Int32) (0 : Int32) (0 : Int32) (0 : Int32) zx_points_m1 (by decide)) ⟨rfl, rfl⟩ lwh_act (hR := ⟨Nat.le_of_ble_eq_true rfl, Nat.le_of_ble_eq_true rfl⟩) rfl rfl (Nat.le_of_ble_eq_true rfl) dL_isRefused_456 ⟨Nat.le_of_ble_eq_true rfl, Nat.le_of_ble_eq_true rfl⟩ ?_
  refine n_sipush (v := (-1671 : Int32)) C dL_isRefused_459 (by decide) ?_
  refine n_icmp_ne_t (tgt := 668) C dL_isRefused_462 (by decide) (by decide) ?_
  refine n_aload_n C 7 dL_isRefused_465 rfl rfl ?_
  refine n_bipush (v := (12 : Int32)) C dL_isRefused_466 (by decide) ?_
  refine n_iload_n C 5 dL_isRefused_468 rfl rfl ?_
  refine n_iconst (v := (0 : Int32)) C dL_isRefused_469 (by decide) ?_
  refine n_iconst (v := (0 : Int32)) C dL_isRefused_470 (by decide) ?_
  refine n_iconst (v := (0 : Int32)) C dL_isRefused_471 (by decide) ?_
  refine n_callh (As := [.ref (ad 0), .int (12 : Int32), .int (-1 : Int32), .int (0 : Int32), .int (0 : Int32), .int (0 : Int32)]) (n := 6) (r := (-1671 : Int32)) C (a_pointsAnew l hl D cI cJ ad nS0 (-1 : Int32) (0 : Int32) (0 : Int32) (0 : Int32) zx_pointsAnew_m1 (by decide)) ⟨rfl, rfl⟩ lwh_act (hR := ⟨Nat.le_of_ble_eq_true rfl, Nat.le_of_ble_eq_true rfl⟩) rfl rfl (Nat.le_of_ble_eq_true rfl) dL_isRefused_472 ⟨Nat.le_of_ble_eq_true rfl, Nat.le_of_ble_eq_true rfl⟩ ?_
  refine n_sipush (v := (-1671 : Int32)) C dL_isRefused_475 (by decide) ?_
  refine n_icmp_ne_t (tgt := 668) C dL_isRefused_478 (by decide) (by decide) ?_
  refine n_aload_n C 7 dL_isRefused_481 rfl rfl ?_
  refine n_bipush (v := (13 : Int32)) C dL_isRefused_482 (by decide) ?_
  refine n_iload_n C 8 dL_isRefused_484 rfl rfl ?_
  refine n_iconst (v := (2 : Int32)) C dL_isRefused_485 (by decide) ?_
  refine n_irem C dL_isRefused_486 (by decide) ?_
  refine n_eq (v := (0 : Int32)) (by decide) ?_
  refine n_iload C 4 dL_isRefused_487 rfl ?_
  refine n_iconst (v := (0 : Int32)) C dL_isRefused_489 (by decide) ?_
  refine n_iconst (v := (0 : Int32)) C dL_isRefused_490 (by decide) ?_
  refine n_callh (As := [.ref (ad 0), .int (13 : Int32), .int (0 : Int32), .int (0 : Int32), .int (0 : Int32), .int (0 : Int32)]) (n := 6) (r := (-1671 : Int32)) C (a_at l hl D cI cJ ad nS0 (0 : Int32) (0 : Int32) (0 : Int32) (0 : Int32) zx_at_0_0 (by decide)) ⟨rfl, rfl⟩ lwh_act (hR := ⟨Nat.le_of_ble_eq_true rfl, Nat.le_of_ble_eq_true rfl⟩) rfl rfl (Nat.le_of_ble_eq_true rfl) dL_isRefused_491 ⟨Nat.le_of_ble_eq_true rfl, Nat.le_of_ble_eq_true rfl⟩ ?_
  refine n_sipush (v := (-1671 : Int32)) C dL_isRefused_494 (by decide) ?_
  refine n_icmp_ne_t (tgt := 668) C dL_isRefused_497 (by decide) (by decide) ?_
  refine n_aload_n C 7 dL_isRefused_500 rfl rfl ?_
  refine n_bipush (v := (13 : Int32)) C dL_isRefused_501 (by decide) ?_
  refine n_iload_n C 5 dL_isRefused_503 rfl rfl ?_
  refine n_iconst (v := (1 : Int32)) C dL_isRefused_504 (by decide) ?_
  refine n_iconst (v := (0 : Int32)) C dL_isRefused_505 (by decide) ?_
  refine n_iconst (v := (0 : Int32)) C dL_isRefused_506 (by decide) ?_
  refine n_callh (As := [.ref (ad 0), .int (13 : Int32), .int (-1 : Int32), .int (1 : Int32), .int (0 : Int32), .int (0 : Int32)]) (n := 6) (r := (-1671 : Int32)) C (a_at l hl D cI cJ ad nS0 (-1 : Int32) (1 : Int32) (0 : Int32) (0 : Int32) zx_at_m1_1 (by decide)) ⟨rfl, rfl⟩ lwh_act (hR := ⟨Nat.le_of_ble_eq_true rfl, Nat.le_of_ble_eq_true rfl⟩) rfl rfl (Nat.le_of_ble_eq_true rfl) dL_isRefused_507 ⟨Nat.le_of_ble_eq_true rfl, Nat.le_of_ble_eq_true rfl⟩ ?_
  refine n_sipush (v := (-1671 : Int32)) C dL_isRefused_510 (by decide) ?_
  refine n_icmp_ne_t (tgt := 668) C dL_isRefused_513 (by decide) (by decide) ?_
  refine n_aload_n C 7 dL_isRefused_516 rfl rfl ?_
  refine n_bipush (v := (14 : Int32)) C dL_isRefused_517 (by decide) ?_
  refine n_iload_n C 8 dL_isRefused_519 rfl rfl ?_
  refine n_iconst (v := (2 : Int32)) C dL_isRefused_520 (by decide) ?_
  refine n_irem C dL_isRefused_521 (by decide) ?_
  refine n_eq (v := (0 : Int32)) (by decide) ?_
  refine n_iload C 4 dL_isRefused_522 rfl ?_
  refine n_iconst (v := (0 : Int32)) C dL_isRefused_524 (by decide) ?_
  refine n_iconst (v := (0 : Int32)) C dL_isRefused_525 (by decide) ?_
  refine n_callh (As := [.ref (ad 0), .int (14 : Int32), .int (0 : Int32), .int (0 : Int32), .int (0 : Int32), .int (0 : Int32)]) (n := 6) (r := (-1671 : Int32)) C (a_atAnew l hl D cI cJ ad nS0 (0 : Int32) (0 : Int32) (0 : Int32) (0 : Int32) zx_atAnew_0_0 (by decide)) ⟨rfl, rfl⟩ lwh_act (hR := ⟨Nat.le_of_ble_eq_true rfl, Nat.le_of_ble_eq_true rfl⟩) rfl rfl (Nat.le_of_ble_eq_true rfl) dL_isRefused_526 ⟨Nat.le_of_ble_eq_true rfl, Nat.le_of_ble_eq_true rfl⟩ ?_
  refine n_sipush (v := (-1671 : Int32)) C dL_isRefused_529 (by decide) ?_
  refine n_icmp_ne_t (tgt := 668) C dL_isRefused_532 (by decide) (by decide) ?_
  refine n_aload_n C 7 dL_isRefused_535 rfl rfl ?_
  refine n_bipush (v := (15 : Int32)) C dL_isRefused_536 (by decide) ?_
  refine n_iload_n C 6 dL_isRefused_538 rfl rfl ?_
  refine n_if_eq_f (tgt := 551) C dL_isRefused_539 (by decide) (by decide) ?_
  refine n_iconst (v := (-1 : Int32)) C dL_isRefused_542 (by decide) ?_
  refine n_iload_n C 8 dL_isRefused_543 rfl rfl ?_
  refine n_bipush (v := (30 : Int32)) C dL_isRefused_544 (by decide) ?_
  refine n_irem C dL_isRefused_546 (by decide) ?_
  refine n_eq (v := (0 : Int32)) (by decide) ?_
  refine n_isub C dL_isRefused_547 ?_
  refine n_eq (v := (-1 : Int32)) (by decide) ?_
  refine n_goto (tgt := 552) C dL_isRefused_548 (by decide) ?_
  refine n_iconst (v := (0 : Int32)) C dL_isRefused_552 (by decide) ?_
  refine n_iconst (v := (0 : Int32)) C dL_isRefused_553 (by decide) ?_
  refine n_iconst (v := (0 : Int32)) C dL_isRefused_554 (by decide) ?_
  refine n_callh (As := [.ref (ad 0), .int (15 : Int32), .int (-1 : Int32), .int (0 : Int32), .int (0 : Int32), .int (0 : Int32)]) (n := 6) (r := (-1672 : Int32)) C (a_about l hl D cI cJ ad nS0 (-1 : Int32) (0 : Int32) (0 : Int32) (0 : Int32) zx_about_m1 (by decide)) ⟨rfl, rfl⟩ lwh_act (hR := ⟨Nat.le_of_ble_eq_true rfl, Nat.le_of_ble_eq_true rfl⟩) rfl rfl (Nat.le_of_ble_eq_true rfl) dL_isRefused_555 ⟨Nat.le_of_ble_eq_true rfl, Nat.le_of_ble_eq_true rfl⟩ ?_
  refine n_sipush (v := (-1672 : Int32)) C dL_isRefused_558 (by decide) ?_
  refine n_icmp_ne_t (tgt := 668) C dL_isRefused_561 (by decide) (by decide) ?_
  refine n_aload_n C 7 dL_isRefused_564 rfl rfl ?_
  refine n_bipush (v := (16 : Int32)) C dL_isRefused_565 (by decide) ?_
  refine n_iload_n C 5 dL_isRefused_567 rfl rfl ?_
  refine n_bipush (v := (9 : Int32)) C dL_isRefused_568 (by decide) ?_
  refine n_iconst (v := (0 : Int32)) C dL_isRefused_570 (by decide) ?_
  refine n_iconst (v := (0 : Int32)) C dL_isRefused_571 (by decide) ?_
  refine n_callh (As := [.ref (ad 0), .int (16 : Int32), .int (-1 : Int32), .int (9 : Int32), .int (0 : Int32), .int (0 : Int32)]) (n := 6) (r := (-1671 : Int32)) C (a_of l hl D cI cJ ad nS0 (-1 : Int32) (9 : Int32) (0 : Int32) (0 : Int32) zx_of_m1_9 (by decide)) ⟨rfl, rfl⟩ lwh_act (hR := ⟨Nat.le_of_ble_eq_true rfl, Nat.le_of_ble_eq_true rfl⟩) rfl rfl (Nat.le_of_ble_eq_true rfl) dL_isRefused_572 ⟨Nat.le_of_ble_eq_true rfl, Nat.le_of_ble_eq_true rfl⟩ ?_
  refine n_sipush (v := (-1671 : Int32)) C dL_isRefused_575 (by decide) ?_
  refine n_icmp_ne_t (tgt := 668) C dL_isRefused_578 (by decide) (by decide) ?_
  refine n_aload_n C 7 dL_isRefused_581 rfl rfl ?_
  refine n_bipush (v := (16 : Int32)) C dL_isRefused_582 (by decide) ?_
  refine n_iload_n C 8 dL_isRefused_584 rfl rfl ?_
  refine n_iconst (v := (2 : Int32)) C dL_isRefused_585 (by decide) ?_
  refine n_irem C dL_isRefused_586 (by decide) ?_
  refine n_eq (v := (0 : Int32)) (by decide) ?_
  refine n_iload_n C 5 dL_isRefused_587 rfl rfl ?_
  refine n_iconst (v := (0 : Int32)) C dL_isRefused_588 (by decide) ?_
  refine n_iconst (v := (0 : Int32)) C dL_isRefused_589 (by decide) ?_
  refine n_callh (As := [.ref (ad 0), .int (16 : Int32), .int (0 : Int32), .int (-1 : Int32), .int (0 : Int32), .int (0 : Int32)]) (n := 6) (r := (-1672 : Int32)) C (a_of l hl D cI cJ ad nS0 (0 : Int32) (-1 : Int32) (0 : Int32) (0 : Int32) zx_of_0_m1 (by decide)) ⟨rfl, rfl⟩ lwh_act (hR := ⟨Nat.le_of_ble_eq_true rfl, Nat.le_of_ble_eq_true rfl⟩) rfl rfl (Nat.le_of_ble_eq_true rfl) dL_isRefused_590 ⟨Nat.le_of_ble_eq_true rfl, Nat.le_of_ble_eq_true rfl⟩ ?_
  refine n_sipush (v := (-1672 : Int32)) C dL_isRefused_593 (by decide) ?_
  refine n_icmp_ne_t (tgt := 668) C dL_isRefused_596 (by decide) (by decide) ?_
  refine n_aload_n C 7 dL_isRefused_599 rfl rfl ?_
  refine n_bipush (v := (17 : Int32)) C dL_isRefused_600 (by decide) ?_
  refine n_iload_n C 5 dL_isRefused_602 rfl rfl ?_
  refine n_bipush (v := (9 : Int32)) C dL_isRefused_603 (by decide) ?_
  refine n_iconst (v := (0 : Int32)) C dL_isRefused_605 (by decide) ?_
  refine n_iconst (v := (0 : Int32)) C dL_isRefused_606 (by decide) ?_
  refine n_callh (As := [.ref (ad 0), .int (17 : Int32), .int (-1 : Int32), .int (9 : Int32), .int (0 : Int32), .int (0 : Int32)]) (n := 6) (r := (-1671 : Int32)) C (a_lost l hl D cI cJ ad nS0 (-1 : Int32) (9 : Int32) (0 : Int32) (0 : Int32) zx_lost_m1_9 (by decide)) ⟨rfl, rfl⟩ lwh_act (hR := ⟨Nat.le_of_ble_eq_true rfl, Nat.le_of_ble_eq_true rfl⟩) rfl rfl (Nat.le_of_ble_eq_true rfl) dL_isRefused_607 ⟨Nat.le_of_ble_eq_true rfl, Nat.le_of_ble_eq_true rfl⟩ ?_
  refine n_sipush (v := (-1671 : Int32)) C dL_isRefused_610 (by decide) ?_
  refine n_icmp_ne_t (tgt := 668) C dL_isRefused_613 (by decide) (by decide) ?_
  refine n_aload_n C 7 dL_isRefused_616 rfl rfl ?_
  refine n_bipush (v := (17 : Int32)) C dL_isRefused_617 (by decide) ?_
  refine n_iload_n C 8 dL_isRefused_619 rfl rfl ?_
  refine n_iconst (v := (2 : Int32)) C dL_isRefused_620 (by decide) ?_
  refine n_irem C dL_isRefused_621 (by decide) ?_
  refine n_eq (v := (0 : Int32)) (by decide) ?_
  refine n_iload_n C 6 dL_isRefused_622 rfl rfl ?_
  refine n_if_eq_f (tgt := 635) C dL_isRefused_623 (by decide) (by decide) ?_
  refine n_iconst (v := (-1 : Int32)) C dL_isRefused_626 (by decide) ?_
  refine n_iload_n C 8 dL_isRefused_627 rfl rfl ?_
  refine n_bipush (v := (30 : Int32)) C dL_isRefused_628 (by decide) ?_
  refine n_irem C dL_isRefused_630 (by decide) ?_
  refine n_eq (v := (0 : Int32)) (by decide) ?_
  refine n_isub C dL_isRefused_631 ?_
  refine n_eq (v := (-1 : Int32)) (by decide) ?_
  refine n_goto (tgt := 637) C dL_isRefused_632 (by decide) ?_
  refine n_iconst (v := (0 : Int32)) C dL_isRefused_637 (by decide) ?_
  refine n_iconst (v := (0 : Int32)) C dL_isRefused_638 (by decide) ?_
  refine n_callh (As := [.ref (ad 0), .int (17 : Int32), .int (0 : Int32), .int (-1 : Int32), .int (0 : Int32), .int (0 : Int32)]) (n := 6) (r := (-1672 : Int32)) C (a_lost l hl D cI cJ ad nS0 (0 : Int32) (-1 : Int32) (0 : Int32) (0 : Int32) zx_lost_0_m1 (by decide)) ⟨rfl, rfl⟩ lwh_act (hR := ⟨Nat.le_of_ble_eq_true rfl, Nat.le_of_ble_eq_true rfl⟩) rfl rfl (Nat.le_of_ble_eq_true rfl) dL_isRefused_639 ⟨Nat.le_of_ble_eq_true rfl, Nat.le_of_ble_eq_true rfl⟩ ?_
  refine n_sipush (v := (-1672 : Int32)) C dL_isRefused_642 (by decide) ?_
  refine n_icmp_ne_t (tgt := 668) C dL_isRefused_645 (by decide) (by decide) ?_
  refine n_aload_n C 7 dL_isRefused_648 rfl rfl ?_
  refine n_bipush (v := (18 : Int32)) C dL_isRefused_649 (by decide) ?_
  refine n_iload_n C 5 dL_isRefused_651 rfl rfl ?_
  refine n_iconst (v := (0 : Int32)) C dL_isRefused_652 (by decide) ?_
  refine n_iconst (v := (0 : Int32)) C dL_isRefused_653 (by decide) ?_
  refine n_iconst (v := (0 : Int32)) C dL_isRefused_654 (by decide) ?_
  refine n_callh (As := [.ref (ad 0), .int (18 : Int32), .int (-1 : Int32), .int (0 : Int32), .int (0 : Int32), .int (0 : Int32)]) (n := 6) (r := (-1671 : Int32)) C (a_sets l hl D cI cJ ad nS0 (-1 : Int32) (0 : Int32) (0 : Int32) (0 : Int32) zx_sets_m1 (by decide)) ⟨rfl, rfl⟩ lwh_act (hR := ⟨Nat.le_of_ble_eq_true rfl, Nat.le_of_ble_eq_true rfl⟩) rfl rfl (Nat.le_of_ble_eq_true rfl) dL_isRefused_655 ⟨Nat.le_of_ble_eq_true rfl, Nat.le_of_ble_eq_true rfl⟩ ?_
  refine n_sipush (v := (-1671 : Int32)) C dL_isRefused_658 (by decide) ?_
  refine n_icmp_ne_t (tgt := 668) C dL_isRefused_661 (by decide) (by decide) ?_
  refine n_iconst (v := (1 : Int32)) C dL_isRefused_664 (by decide) ?_
  refine n_goto (tgt := 669) C dL_isRefused_665 (by decide) ?_
  refine n_istore (L' := [(10, .int (1 : Int32)), (9, .int (0 : Int32)), (8, .int (0 : Int32)), (6, .long (-1628093155160432834 : Int64)), (5, .int (0 : Int32)), (4, .int (0 : Int32)), (3, .int (-1 : Int32)), (2, .int (1 : Int32)), (0, .ref (ad 0)), (1, .int (0 : Int32))]) C dL_isRefused_669 (by decide) rfl ?_
  refine n_iload C 0 dL_isRefused_671 rfl ?_
  refine n_if_eq_f (tgt := 811) C dL_isRefused_673 (by decide) (by decide) ?_
  refine n_iload C 2 dL_isRefused_676 rfl ?_
  refine n_if_eq_t (tgt := 735) C dL_isRefused_678 (by decide) (by decide) ?_
  refine n_aload_n C 8 dL_isRefused_735 rfl rfl ?_
  refine n_iconst (v := (3 : Int32)) C dL_isRefused_736 (by decide) ?_
  refine n_iconst (v := (1 : Int32)) C dL_isRefused_737 (by decide) ?_
  refine n_iload_n C 9 dL_isRefused_738 rfl rfl ?_
  refine n_bipush (v := (20 : Int32)) C dL_isRefused_739 (by decide) ?_
  refine n_irem C dL_isRefused_741 (by decide) ?_
  refine n_eq (v := (0 : Int32)) (by decide) ?_
  refine n_iadd C dL_isRefused_742 ?_
  refine n_eq (v := (1 : Int32)) (by decide) ?_
  refine n_iconst (v := (0 : Int32)) C dL_isRefused_743 (by decide) ?_
  refine n_iconst (v := (0 : Int32)) C dL_isRefused_744 (by decide) ?_
  refine n_iconst (v := (0 : Int32)) C dL_isRefused_745 (by decide) ?_
  refine n_callh (As := [.ref (ad 0), .int (3 : Int32), .int (1 : Int32), .int (0 : Int32), .int (0 : Int32), .int (0 : Int32)]) (n := 6) (r := (-1673 : Int32)) C (a_serve l hl D cI cJ ad nS0 (1 : Int32) (0 : Int32) (0 : Int32) (0 : Int32) zx_serve_1 (by decide)) ⟨rfl, rfl⟩ lwh_act (hR := ⟨Nat.le_of_ble_eq_true rfl, Nat.le_of_ble_eq_true rfl⟩) rfl rfl (Nat.le_of_ble_eq_true rfl) dL_isRefused_746 ⟨Nat.le_of_ble_eq_true rfl, Nat.le_of_ble_eq_true rfl⟩ ?_
  refine n_sipush (v := (-1673 : Int32)) C dL_isRefused_749 (by decide) ?_
  refine n_icmp_ne_t (tgt := 811) C dL_isRefused_752 (by decide) (by decide) ?_
  refine n_aload_n C 8 dL_isRefused_755 rfl rfl ?_
  refine n_bipush (v := (7 : Int32)) C dL_isRefused_756 (by decide) ?_
  refine n_iconst (v := (0 : Int32)) C dL_isRefused_758 (by decide) ?_
  refine n_iconst (v := (0 : Int32)) C dL_isRefused_759 (by decide) ?_
  refine n_iconst (v := (0 : Int32)) C dL_isRefused_760 (by decide) ?_
  refine n_iconst (v := (0 : Int32)) C dL_isRefused_761 (by decide) ?_
  refine n_callh (As := [.ref (ad 0), .int (7 : Int32), .int (0 : Int32), .int (0 : Int32), .int (0 : Int32), .int (0 : Int32)]) (n := 6) (r := (-1673 : Int32)) C (a_find l hl D cI cJ ad nS0 (0 : Int32) (0 : Int32) (0 : Int32) (0 : Int32) zx_find (by decide)) ⟨rfl, rfl⟩ lwh_act (hR := ⟨Nat.le_of_ble_eq_true rfl, Nat.le_of_ble_eq_true rfl⟩) rfl rfl (Nat.le_of_ble_eq_true rfl) dL_isRefused_762 ⟨Nat.le_of_ble_eq_true rfl, Nat.le_of_ble_eq_true rfl⟩ ?_
  refine n_sipush (v := (-1673 : Int32)) C dL_isRefused_765 (by decide) ?_
  refine n_icmp_ne_t (tgt := 811) C dL_isRefused_768 (by decide) (by decide) ?_
  refine n_aload_n C 8 dL_isRefused_771 rfl rfl ?_
  refine n_bipush (v := (8 : Int32)) C dL_isRefused_772 (by decide) ?_
  refine n_iload_n C 9 dL_isRefused_774 rfl rfl ?_
  refine n_iconst (v := (2 : Int32)) C dL_isRefused_775 (by decide) ?_
  refine n_irem C dL_isRefused_776 (by decide) ?_
  refine n_eq (v := (0 : Int32)) (by decide) ?_
  refine n_iconst (v := (1 : Int32)) C dL_isRefused_777 (by decide) ?_
  refine n_iconst (v := (0 : Int32)) C dL_isRefused_778 (by decide) ?_
  refine n_iconst (v := (0 : Int32)) C dL_isRefused_779 (by decide) ?_
  refine n_callh (As := [.ref (ad 0), .int (8 : Int32), .int (0 : Int32), .int (1 : Int32), .int (0 : Int32), .int (0 : Int32)]) (n := 6) (r := (-1673 : Int32)) C (a_exchange l hl D cI cJ ad nS0 (0 : Int32) (1 : Int32) (0 : Int32) (0 : Int32) zx_exchange_0_1 (by decide)) ⟨rfl, rfl⟩ lwh_act (hR := ⟨Nat.le_of_ble_eq_true rfl, Nat.le_of_ble_eq_true rfl⟩) rfl rfl (Nat.le_of_ble_eq_true rfl) dL_isRefused_780 ⟨Nat.le_of_ble_eq_true rfl, Nat.le_of_ble_eq_true rfl⟩ ?_
  refine n_sipush (v := (-1673 : Int32)) C dL_isRefused_783 (by decide) ?_
  refine n_icmp_ne_t (tgt := 811) C dL_isRefused_786 (by decide) (by decide) ?_
  refine n_aload_n C 8 dL_isRefused_789 rfl rfl ?_
  refine n_bipush (v := (9 : Int32)) C dL_isRefused_790 (by decide) ?_
  refine n_iload_n C 9 dL_isRefused_792 rfl rfl ?_
  refine n_iconst (v := (2 : Int32)) C dL_isRefused_793 (by decide) ?_
  refine n_irem C dL_isRefused_794 (by decide) ?_
  refine n_eq (v := (0 : Int32)) (by decide) ?_
  refine n_iconst (v := (1 : Int32)) C dL_isRefused_795 (by decide) ?_
  refine n_iconst (v := (2 : Int32)) C dL_isRefused_796 (by decide) ?_
  refine n_iconst (v := (0 : Int32)) C dL_isRefused_797 (by decide) ?_
  refine n_callh (As := [.ref (ad 0), .int (9 : Int32), .int (0 : Int32), .int (1 : Int32), .int (2 : Int32), .int (0 : Int32)]) (n := 6) (r := (-1673 : Int32)) C (a_substitute l hl D cI cJ ad nS0 (0 : Int32) (1 : Int32) (2 : Int32) (0 : Int32) zx_substitute_0_1_2 (by decide)) ⟨rfl, rfl⟩ lwh_act (hR := ⟨Nat.le_of_ble_eq_true rfl, Nat.le_of_ble_eq_true rfl⟩) rfl rfl (Nat.le_of_ble_eq_true rfl) dL_isRefused_798 ⟨Nat.le_of_ble_eq_true rfl, Nat.le_of_ble_eq_true rfl⟩ ?_
  refine n_sipush (v := (-1673 : Int32)) C dL_isRefused_801 (by decide) ?_
  refine n_icmp_ne_t (tgt := 811) C dL_isRefused_804 (by decide) (by decide) ?_
  refine n_iconst (v := (1 : Int32)) C dL_isRefused_807 (by decide) ?_
  refine n_goto (tgt := 812) C dL_isRefused_808 (by decide) ?_
  refine n_istore (L' := [(10, .int (1 : Int32)), (9, .int (0 : Int32)), (8, .int (0 : Int32)), (6, .long (-1628093155160432834 : Int64)), (5, .int (0 : Int32)), (4, .int (0 : Int32)), (3, .int (-1 : Int32)), (2, .int (1 : Int32)), (0, .ref (ad 0)), (1, .int (0 : Int32))]) C dL_isRefused_812 (by decide) rfl ?_
  refine n_iload C 0 dL_isRefused_814 rfl ?_
  refine n_if_eq_f (tgt := 986) C dL_isRefused_816 (by decide) (by decide) ?_
  refine n_iload C 1 dL_isRefused_819 rfl ?_
  refine n_if_eq_t (tgt := 923) C dL_isRefused_821 (by decide) (by decide) ?_
  refine n_aload_n C 8 dL_isRefused_923 rfl rfl ?_
  refine n_iconst (v := (4 : Int32)) C dL_isRefused_924 (by decide) ?_
  refine n_iload_n C 9 dL_isRefused_925 rfl rfl ?_
  refine n_iconst (v := (2 : Int32)) C dL_isRefused_926 (by decide) ?_
  refine n_irem C dL_isRefused_927 (by decide) ?_
  refine n_eq (v := (0 : Int32)) (by decide) ?_
  refine n_iconst (v := (1 : Int32)) C dL_isRefused_928 (by decide) ?_
  refine n_iload_n C 9 dL_isRefused_929 rfl rfl ?_
  refine n_bipush (v := (20 : Int32)) C dL_isRefused_930 (by decide) ?_
  refine n_irem C dL_isRefused_932 (by decide) ?_
  refine n_eq (v := (0 : Int32)) (by decide) ?_
  refine n_iadd C dL_isRefused_933 ?_
  refine n_eq (v := (1 : Int32)) (by decide) ?_
  refine n_iconst (v := (0 : Int32)) C dL_isRefused_934 (by decide) ?_
  refine n_iconst (v := (0 : Int32)) C dL_isRefused_935 (by decide) ?_
  refine n_callh (As := [.ref (ad 0), .int (4 : Int32), .int (0 : Int32), .int (1 : Int32), .int (0 : Int32), .int (0 : Int32)]) (n := 6) (r := (-1673 : Int32)) C (a_touch l hl D cI cJ ad nS0 (0 : Int32) (1 : Int32) (0 : Int32) zx_touch_0_1_0_0 (by decide)) ⟨rfl, rfl⟩ lwh_act (hR := ⟨Nat.le_of_ble_eq_true rfl, Nat.le_of_ble_eq_true rfl⟩) rfl rfl (Nat.le_of_ble_eq_true rfl) dL_isRefused_936 ⟨Nat.le_of_ble_eq_true rfl, Nat.le_of_ble_eq_true rfl⟩ ?_
  refine n_sipush (v := (-1673 : Int32)) C dL_isRefused_939 (by decide) ?_
  refine n_icmp_ne_t (tgt := 986) C dL_isRefused_942 (by decide) (by decide) ?_
  refine n_aload_n C 8 dL_isRefused_945 rfl rfl ?_
  refine n_iconst (v := (5 : Int32)) C dL_isRefused_946 (by decide) ?_
  refine n_iload_n C 9 dL_isRefused_947 rfl rfl ?_
  refine n_iconst (v := (3 : Int32)) C dL_isRefused_948 (by decide) ?_
  refine n_irem C dL_isRefused_949 (by decide) ?_
  refine n_eq (v := (0 : Int32)) (by decide) ?_
  refine n_iconst (v := (1 : Int32)) C dL_isRefused_950 (by decide) ?_
  refine n_isub C dL_isRefused_951 ?_
  refine n_eq (v := (-1 : Int32)) (by decide) ?_
  refine n_iconst (v := (0 : Int32)) C dL_isRefused_952 (by decide) ?_
  refine n_iconst (v := (0 : Int32)) C dL_isRefused_953 (by decide) ?_
  refine n_iconst (v := (0 : Int32)) C dL_isRefused_954 (by decide) ?_
  refine n_callh (As := [.ref (ad 0), .int (5 : Int32), .int (-1 : Int32), .int (0 : Int32), .int (0 : Int32), .int (0 : Int32)]) (n := 6) (r := (-1673 : Int32)) C (a_fall l hl D cI cJ ad nS0 (-1 : Int32) (0 : Int32) (0 : Int32) (0 : Int32) zx_fall_m1 (by decide)) ⟨rfl, rfl⟩ lwh_act (hR := ⟨Nat.le_of_ble_eq_true rfl, Nat.le_of_ble_eq_true rfl⟩) rfl rfl (Nat.le_of_ble_eq_true rfl) dL_isRefused_955 ⟨Nat.le_of_ble_eq_true rfl, Nat.le_of_ble_eq_true rfl⟩ ?_
  refine n_sipush (v := (-1673 : Int32)) C dL_isRefused_958 (by decide) ?_
  refine n_icmp_ne_t (tgt := 986) C dL_isRefused_961 (by decide) (by decide) ?_
  refine n_aload_n C 8 dL_isRefused_964 rfl rfl ?_
  refine n_bipush (v := (6 : Int32)) C dL_isRefused_965 (by decide) ?_
  refine n_iload_n C 9 dL_isRefused_967 rfl rfl ?_
  refine n_iconst (v := (2 : Int32)) C dL_isRefused_968 (by decide) ?_
  refine n_irem C dL_isRefused_969 (by decide) ?_
  refine n_eq (v := (0 : Int32)) (by decide) ?_
  refine n_iconst (v := (1 : Int32)) C dL_isRefused_970 (by decide) ?_
  refine n_iconst (v := (0 : Int32)) C dL_isRefused_971 (by decide) ?_
  refine n_iconst (v := (0 : Int32)) C dL_isRefused_972 (by decide) ?_
  refine n_callh (As := [.ref (ad 0), .int (6 : Int32), .int (0 : Int32), .int (1 : Int32), .int (0 : Int32), .int (0 : Int32)]) (n := 6) (r := (-1673 : Int32)) C (a_net l hl D cI cJ ad nS0 (0 : Int32) (0 : Int32) (0 : Int32) zx_net_0_1 (by decide)) ⟨rfl, rfl⟩ lwh_act (hR := ⟨Nat.le_of_ble_eq_true rfl, Nat.le_of_ble_eq_true rfl⟩) rfl rfl (Nat.le_of_ble_eq_true rfl) dL_isRefused_973 ⟨Nat.le_of_ble_eq_true rfl, Nat.le_of_ble_eq_true rfl⟩ ?_
  refine n_sipush (v := (-1673 : Int32)) C dL_isRefused_976 (by decide) ?_
  refine n_icmp_ne_t (tgt := 986) C dL_isRefused_979 (by decide) (by decide) ?_
  refine n_iconst (v := (1 : Int32)) C dL_isRefused_982 (by decide) ?_
  refine n_goto (tgt := 987) C dL_isRefused_983 (by decide) ?_
  refine n_istore (L' := [(10, .int (1 : Int32)), (9, .int (0 : Int32)), (8, .int (0 : Int32)), (6, .long (-1628093155160432834 : Int64)), (5, .int (0 : Int32)), (4, .int (0 : Int32)), (3, .int (-1 : Int32)), (2, .int (1 : Int32)), (0, .ref (ad 0)), (1, .int (0 : Int32))]) C dL_isRefused_987 (by decide) rfl ?_
  refine n_iload C 0 dL_isRefused_989 rfl ?_
  refine n_if_eq_f (tgt := 1008) C dL_isRefused_991 (by decide) (by decide) ?_
  refine n_aload_n C 8 dL_isRefused_994 rfl rfl ?_
  refine n_calll (As := [.ref (ad 0)]) (n := 1) C (w_all l hl D cI cJ ad) ⟨rfl, rfl⟩ lws_all (hR := ⟨Nat.le_of_ble_eq_true rfl, Nat.le_of_ble_eq_true rfl⟩) rfl rfl (Nat.le_of_ble_eq_true rfl) dL_isRefused_995 ⟨Nat.le_of_ble_eq_true rfl, Nat.le_of_ble_eq_true rfl⟩ ?_
  refine n_lload C 3 dL_isRefused_998 rfl ?_
  refine n_lcmp C dL_isRefused_1000 ?_
  refine n_if_ne_t (tgt := 1008) C dL_isRefused_1001 (by decide) (by decide) ?_
  refine n_iconst (v := (1 : Int32)) C dL_isRefused_1004 (by decide) ?_
  refine n_goto (tgt := 1009) C dL_isRefused_1005 (by decide) ?_
  exact n_retz C (Or.inr rfl) hr dL_isRefused_1009 (Nat.le_of_ble_eq_true rfl) (Nat.le_of_ble_eq_true rfl) (Nat.le_of_ble_eq_true rfl)
