theorem gsi {i Ln : Nat} (j : Nat) {v : Int32} (hv : v = nI j) (h : i + j < Ln) (hL : Ln ≤ 2560) : (nI i + v).toNatClampNeg = i + j ∧ vp_in (nI i + v) Ln := by
  rw [hv, nI_add]
  exact ⟨nI_clamp (by omega), vp_in_nI h (by omega)⟩
theorem g_bad {σ σ' : gSt} {G : Prop} : gX (some ((0 : Int32), σ)) ((1 : Int32), σ') G := fun h => absurd (show (0 : Int32) = 1 from congrArg Prod.fst (Option.some.inj h)) (by decide)
theorem g_end {p : Program} {l : Launch} {e : Env} {R : Room} {s : State} {m : MethodId} {args : Array Value} {below : List Frame} {meth : Method} {c : Code} {D : va_G} {cI cJ : ClassId} {ad : Nat → Nat} {A : Nat → Prop} {nL cells slots : Nat} {Q : State → Prop} {σ σ' : gSt} {pc : Nat} {L : List (Nat × Value)} {st : List Value} (K : gG p l e R s m args below meth c D cI cJ ad A nL cells slots Q σ' pc L st) : gX (some ((1 : Int32), σ)) ((1 : Int32), σ') (gG p l e R s m args below meth c D cI cJ ad A nL cells slots Q σ pc L st) := by
  intro h
  cases h
  exact K
theorem lwh_line : Cond.methodLink RL 84 yL_line ∈ gT ∧ Cond.static yL_line ∈ gT ∧ Cond.initialized yL_line.cls ∈ gT ∧ Cond.codeWith yL_line cL_line 6 (some .int) [(0, 12, 15, 13), (0, 12, 19, 15)] ∈ gT ∧ (yL_line.cls ≠ "java/lang/invoke/MethodHandle" ∧ yL_line.cls ≠ "java/lang/invoke/VarHandle" ∧ (parseMethodDescriptor yL_line.desc).map (fun d => d.parameters.length) = some 5) := ⟨lq84, lq85, lq86, lq87, by decide +kernel⟩
theorem lwm_line : gWv RL 89 RX6 yX6_line cX6_line 6 (some .int) 3 := ⟨lq88, lq89, lq90, lq91, lq92, by decide +kernel⟩
theorem lwm_thrown : gWv RL 90 RX6 yX6_thrown cX6_thrown 1 (some .int) 0 := ⟨lq93, lq94, lq95, lq91, lq96, by decide +kernel⟩
theorem lwh_libero : Cond.methodLink RL 93 yL_libero ∈ gT ∧ Cond.static yL_libero ∈ gT ∧ Cond.initialized yL_libero.cls ∈ gT ∧ Cond.codeWith yL_libero cL_libero 5 (some .int) [(0, 10, 13, 13), (0, 10, 17, 15)] ∈ gT ∧ (yL_libero.cls ≠ "java/lang/invoke/MethodHandle" ∧ yL_libero.cls ≠ "java/lang/invoke/VarHandle" ∧ (parseMethodDescriptor yL_libero.desc).map (fun d => d.parameters.length) = some 4) := ⟨lq97, lq98, lq99, lq100, by decide +kernel⟩
theorem lwm_libero : gWv RL 96 RX6 yX6_libero cX6_libero 5 (some .int) 2 := ⟨lq101, lq102, lq103, lq91, lq104, by decide +kernel⟩
theorem lwh_begin : Cond.methodLink RL 97 yL_begin ∈ gT ∧ Cond.static yL_begin ∈ gT ∧ Cond.initialized yL_begin.cls ∈ gT ∧ Cond.codeWith yL_begin cL_begin 4 (some .int) [(0, 9, 12, 13), (0, 9, 15, 15)] ∈ gT ∧ (yL_begin.cls ≠ "java/lang/invoke/MethodHandle" ∧ yL_begin.cls ≠ "java/lang/invoke/VarHandle" ∧ (parseMethodDescriptor yL_begin.desc).map (fun d => d.parameters.length) = some 3) := ⟨lq105, lq106, lq107, lq108, by decide +kernel⟩
theorem lwm_begin : gWv RL 100 RX6 yX6_begin cX6_begin 4 (some .int) 1 := ⟨lq109, lq110, lq111, lq91, lq112, by decide +kernel⟩
theorem lwh_serve : Cond.methodLink RL 101 yL_serve ∈ gT ∧ Cond.static yL_serve ∈ gT ∧ Cond.initialized yL_serve.cls ∈ gT ∧ Cond.codeWith yL_serve cL_serve 4 (some .int) [(0, 16, 19, 13), (0, 16, 22, 15)] ∈ gT ∧ (yL_serve.cls ≠ "java/lang/invoke/MethodHandle" ∧ yL_serve.cls ≠ "java/lang/invoke/VarHandle" ∧ (parseMethodDescriptor yL_serve.desc).map (fun d => d.parameters.length) = some 3) := ⟨lq113, lq114, lq115, lq116, by decide +kernel⟩
theorem lwm_serve : gWv RL 103 RX6 yX6_serve cX6_serve 5 (some .boolean) 1 := ⟨lq117, lq118, lq119, lq91, lq120, by decide +kernel⟩
theorem lwh_touch : Cond.methodLink RL 104 yL_touch ∈ gT ∧ Cond.static yL_touch ∈ gT ∧ Cond.initialized yL_touch.cls ∈ gT ∧ Cond.codeWith yL_touch cL_touch 7 (some .int) [(0, 14, 17, 13), (0, 14, 21, 33), (0, 14, 25, 15)] ∈ gT ∧ (yL_touch.cls ≠ "java/lang/invoke/MethodHandle" ∧ yL_touch.cls ≠ "java/lang/invoke/VarHandle" ∧ (parseMethodDescriptor yL_touch.desc).map (fun d => d.parameters.length) = some 6) := ⟨lq121, lq122, lq123, lq124, by decide +kernel⟩
theorem lwm_touch : gWv RL 107 RX6 yX6_touch cX6_touch 9 (some .int) 4 := ⟨lq125, lq126, lq127, lq91, lq128, by decide +kernel⟩
theorem lwh_fall : Cond.methodLink RL 108 yL_fall ∈ gT ∧ Cond.static yL_fall ∈ gT ∧ Cond.initialized yL_fall.cls ∈ gT ∧ Cond.codeWith yL_fall cL_fall 4 (some .int) [(0, 9, 12, 13), (0, 9, 15, 15)] ∈ gT ∧ (yL_fall.cls ≠ "java/lang/invoke/MethodHandle" ∧ yL_fall.cls ≠ "java/lang/invoke/VarHandle" ∧ (parseMethodDescriptor yL_fall.desc).map (fun d => d.parameters.length) = some 3) := ⟨lq129, lq130, lq131, lq132, by decide +kernel⟩
theorem lwm_fall : gWv RL 110 RX6 yX6_fall cX6_fall 4 (some .int) 1 := ⟨lq133, lq134, lq135, lq91, lq136, by decide +kernel⟩
theorem lwh_net : Cond.methodLink RL 111 yL_net ∈ gT ∧ Cond.static yL_net ∈ gT ∧ Cond.initialized yL_net.cls ∈ gT ∧ Cond.codeWith yL_net cL_net 5 (some .int) [(0, 17, 20, 13), (0, 17, 24, 15)] ∈ gT ∧ (yL_net.cls ≠ "java/lang/invoke/MethodHandle" ∧ yL_net.cls ≠ "java/lang/invoke/VarHandle" ∧ (parseMethodDescriptor yL_net.desc).map (fun d => d.parameters.length) = some 4) := ⟨lq137, lq138, lq139, lq140, by decide +kernel⟩
theorem lwm_net : gWv RL 114 RX6 yX6_net cX6_net 3 (some .boolean) 2 := ⟨lq141, lq142, lq143, lq91, lq144, by decide +kernel⟩
theorem lwh_find : Cond.methodLink RL 115 yL_find ∈ gT ∧ Cond.static yL_find ∈ gT ∧ Cond.initialized yL_find.cls ∈ gT ∧ Cond.codeWith yL_find cL_find 3 (some .int) [(0, 8, 11, 15)] ∈ gT ∧ (yL_find.cls ≠ "java/lang/invoke/MethodHandle" ∧ yL_find.cls ≠ "java/lang/invoke/VarHandle" ∧ (parseMethodDescriptor yL_find.desc).map (fun d => d.parameters.length) = some 2) := ⟨lq145, lq146, lq147, lq148, by decide +kernel⟩
theorem lwm_find : gWv RL 118 RX6 yX6_find cX6_find 4 (some .int) 0 := ⟨lq149, lq150, lq151, lq91, lq152, by decide +kernel⟩
theorem lwh_exchange : Cond.methodLink RL 119 yL_exchange ∈ gT ∧ Cond.static yL_exchange ∈ gT ∧ Cond.initialized yL_exchange.cls ∈ gT ∧ Cond.codeWith yL_exchange cL_exchange 5 (some .int) [(0, 17, 20, 13), (0, 17, 24, 15)] ∈ gT ∧ (yL_exchange.cls ≠ "java/lang/invoke/MethodHandle" ∧ yL_exchange.cls ≠ "java/lang/invoke/VarHandle" ∧ (parseMethodDescriptor yL_exchange.desc).map (fun d => d.parameters.length) = some 4) := ⟨lq153, lq154, lq155, lq156, by decide +kernel⟩
theorem lwm_exchange : gWv RL 121 RX6 yX6_exchange cX6_exchange 8 (some .boolean) 2 := ⟨lq157, lq158, lq159, lq91, lq160, by decide +kernel⟩
theorem lwh_substitute : Cond.methodLink RL 122 yL_substitute ∈ gT ∧ Cond.static yL_substitute ∈ gT ∧ Cond.initialized yL_substitute.cls ∈ gT ∧ Cond.codeWith yL_substitute cL_substitute 6 (some .int) [(0, 12, 15, 13), (0, 12, 19, 15)] ∈ gT ∧ (yL_substitute.cls ≠ "java/lang/invoke/MethodHandle" ∧ yL_substitute.cls ≠ "java/lang/invoke/VarHandle" ∧ (parseMethodDescriptor yL_substitute.desc).map (fun d => d.parameters.length) = some 5) := ⟨lq161, lq162, lq163, lq164, by decide +kernel⟩
theorem lwm_substitute : gWv RL 124 RX6 yX6_substitute cX6_substitute 11 (some .int) 3 := ⟨lq165, lq166, lq167, lq91, lq168, by decide +kernel⟩
theorem lwh_challenge : Cond.methodLink RL 125 yL_challenge ∈ gT ∧ Cond.static yL_challenge ∈ gT ∧ Cond.initialized yL_challenge.cls ∈ gT ∧ Cond.codeWith yL_challenge cL_challenge 4 (some .int) [(0, 16, 19, 13), (0, 16, 22, 15)] ∈ gT ∧ (yL_challenge.cls ≠ "java/lang/invoke/MethodHandle" ∧ yL_challenge.cls ≠ "java/lang/invoke/VarHandle" ∧ (parseMethodDescriptor yL_challenge.desc).map (fun d => d.parameters.length) = some 3) := ⟨lq169, lq170, lq171, lq172, by decide +kernel⟩
theorem lwm_challenge : gWv RL 127 RX6 yX6_challenge cX6_challenge 5 (some .boolean) 1 := ⟨lq173, lq174, lq175, lq91, lq176, by decide +kernel⟩
theorem lwh_points : Cond.methodLink RL 128 yL_points ∈ gT ∧ Cond.static yL_points ∈ gT ∧ Cond.initialized yL_points.cls ∈ gT ∧ Cond.codeWith yL_points cL_points 4 (some .int) [(0, 9, 12, 13)] ∈ gT ∧ (yL_points.cls ≠ "java/lang/invoke/MethodHandle" ∧ yL_points.cls ≠ "java/lang/invoke/VarHandle" ∧ (parseMethodDescriptor yL_points.desc).map (fun d => d.parameters.length) = some 3) := ⟨lq177, lq178, lq179, lq180, by decide +kernel⟩
theorem lwm_points : gWv RL 130 RX6 yX6_points cX6_points 2 (some .int) 1 := ⟨lq181, lq182, lq183, lq91, lq184, by decide +kernel⟩
theorem lwh_pointsAnew : Cond.methodLink RL 131 yL_pointsAnew ∈ gT ∧ Cond.static yL_pointsAnew ∈ gT ∧ Cond.initialized yL_pointsAnew.cls ∈ gT ∧ Cond.codeWith yL_pointsAnew cL_pointsAnew 4 (some .int) [(0, 9, 12, 13)] ∈ gT ∧ (yL_pointsAnew.cls ≠ "java/lang/invoke/MethodHandle" ∧ yL_pointsAnew.cls ≠ "java/lang/invoke/VarHandle" ∧ (parseMethodDescriptor yL_pointsAnew.desc).map (fun d => d.parameters.length) = some 3) := ⟨lq185, lq186, lq187, lq188, by decide +kernel⟩
theorem lwm_pointsAnew : gWv RL 133 RX6 yX6_pointsAnew cX6_pointsAnew 2 (some .int) 1 := ⟨lq189, lq190, lq191, lq91, lq192, by decide +kernel⟩
theorem lwh_sets : Cond.methodLink RL 134 yL_sets ∈ gT ∧ Cond.static yL_sets ∈ gT ∧ Cond.initialized yL_sets.cls ∈ gT ∧ Cond.codeWith yL_sets cL_sets 4 (some .int) [(0, 9, 12, 13)] ∈ gT ∧ (yL_sets.cls ≠ "java/lang/invoke/MethodHandle" ∧ yL_sets.cls ≠ "java/lang/invoke/VarHandle" ∧ (parseMethodDescriptor yL_sets.desc).map (fun d => d.parameters.length) = some 3) := ⟨lq193, lq194, lq195, lq196, by decide +kernel⟩
theorem lwm_sets : gWv RL 136 RX6 yX6_sets cX6_sets 2 (some .int) 1 := ⟨lq197, lq198, lq199, lq91, lq200, by decide +kernel⟩
theorem lwh_at : Cond.methodLink RL 137 yL_at ∈ gT ∧ Cond.static yL_at ∈ gT ∧ Cond.initialized yL_at.cls ∈ gT ∧ Cond.codeWith yL_at cL_at 5 (some .int) [(0, 10, 13, 13)] ∈ gT ∧ (yL_at.cls ≠ "java/lang/invoke/MethodHandle" ∧ yL_at.cls ≠ "java/lang/invoke/VarHandle" ∧ (parseMethodDescriptor yL_at.desc).map (fun d => d.parameters.length) = some 4) := ⟨lq201, lq202, lq203, lq204, by decide +kernel⟩
theorem lwm_at : gWv RL 139 RX6 yX6_at cX6_at 3 (some .int) 2 := ⟨lq205, lq206, lq207, lq91, lq208, by decide +kernel⟩
theorem lwh_atAnew : Cond.methodLink RL 140 yL_atAnew ∈ gT ∧ Cond.static yL_atAnew ∈ gT ∧ Cond.initialized yL_atAnew.cls ∈ gT ∧ Cond.codeWith yL_atAnew cL_atAnew 5 (some .int) [(0, 10, 13, 13)] ∈ gT ∧ (yL_atAnew.cls ≠ "java/lang/invoke/MethodHandle" ∧ yL_atAnew.cls ≠ "java/lang/invoke/VarHandle" ∧ (parseMethodDescriptor yL_atAnew.desc).map (fun d => d.parameters.length) = some 4) := ⟨lq209, lq210, lq211, lq212, by decide +kernel⟩
theorem lwm_atAnew : gWv RL 142 RX6 yX6_atAnew cX6_atAnew 3 (some .int) 2 := ⟨lq213, lq214, lq215, lq91, lq216, by decide +kernel⟩
theorem lwh_about : Cond.methodLink RL 143 yL_about ∈ gT ∧ Cond.static yL_about ∈ gT ∧ Cond.initialized yL_about.cls ∈ gT ∧ Cond.codeWith yL_about cL_about 4 (some .int) [(0, 9, 12, 33)] ∈ gT ∧ (yL_about.cls ≠ "java/lang/invoke/MethodHandle" ∧ yL_about.cls ≠ "java/lang/invoke/VarHandle" ∧ (parseMethodDescriptor yL_about.desc).map (fun d => d.parameters.length) = some 3) := ⟨lq217, lq218, lq219, lq220, by decide +kernel⟩
theorem lwm_about : gWv RL 145 RX6 yX6_about cX6_about 2 (some .int) 1 := ⟨lq221, lq222, lq223, lq91, lq224, by decide +kernel⟩
theorem lwh_of : Cond.methodLink RL 146 yL_of ∈ gT ∧ Cond.static yL_of ∈ gT ∧ Cond.initialized yL_of.cls ∈ gT ∧ Cond.codeWith yL_of cL_of 5 (some .int) [(0, 10, 13, 13), (0, 10, 17, 33)] ∈ gT ∧ (yL_of.cls ≠ "java/lang/invoke/MethodHandle" ∧ yL_of.cls ≠ "java/lang/invoke/VarHandle" ∧ (parseMethodDescriptor yL_of.desc).map (fun d => d.parameters.length) = some 4) := ⟨lq225, lq226, lq227, lq228, by decide +kernel⟩
theorem lwm_of : gWv RL 148 RX6 yX6_of cX6_of 3 (some .int) 2 := ⟨lq229, lq230, lq231, lq91, lq232, by decide +kernel⟩
theorem lwh_lost : Cond.methodLink RL 149 yL_lost ∈ gT ∧ Cond.static yL_lost ∈ gT ∧ Cond.initialized yL_lost.cls ∈ gT ∧ Cond.codeWith yL_lost cL_lost 5 (some .int) [(0, 10, 13, 13), (0, 10, 17, 33)] ∈ gT ∧ (yL_lost.cls ≠ "java/lang/invoke/MethodHandle" ∧ yL_lost.cls ≠ "java/lang/invoke/VarHandle" ∧ (parseMethodDescriptor yL_lost.desc).map (fun d => d.parameters.length) = some 4) := ⟨lq233, lq234, lq235, lq236, by decide +kernel⟩
theorem lwm_lost : gWv RL 151 RX6 yX6_lost cX6_lost 3 (some .int) 2 := ⟨lq237, lq238, lq239, lq91, lq240, by decide +kernel⟩
def F_case_line (v1 : Int32) (v2 : Int32) (v3 : Int32) (σ : gSt) : Option (Int32 × gSt) := gbi (F_Law_line v1 v2 v3 σ) fun k1 σ2 => gbi (F_Model_line v1 v2 v3 σ2) fun b3 σ4 => gbi (F_Model_thrown σ4) fun b5 σ6 => if b5 = k1 then (if k1 = (0 : Int32) then (if (σ6 31 0) = b3 then (some ((1 : Int32), σ6)) else (some ((0 : Int32), σ6))) else (some ((1 : Int32), σ6))) else (some ((0 : Int32), σ6))

set_option maxHeartbeats 4000000 in
set_option maxRecDepth 100000 in
theorem law_line {p : Program} {l : Launch} {e : Env} {s : State} {m : MethodId} {args : Array Value} {below : List Frame} {meth : Method} {c : Code} {D : va_G} {cI cJ : ClassId} {ad : Nat → Nat} {A : Nat → Prop} {b Ln : Nat} {xs : Nat → Int32} {cells slots : Nat} {Q : State → Prop} (hl : l.stackTraces = false) (C : gC p s m args meth c D cI cJ ad A cL_law 7 RL) (hX0 : va_X b Ln xs s s.heap) (hbl : b < s.heap.size) (hbA : ¬ A b) (hL : Ln ≤ 2560) (hf0 : cells + 1 ≤ room_1.cells ∧ slots + 6 ≤ room_1.slots) (i : Nat) (hi : i + 5 ≤ Ln) (σ σ' : gSt) (K : gG p l e room_1 s m args below meth c D cI cJ ad A 7 (cells + 1) (slots + 6) Q σ' 1408 [(4, .int (nI i)), (3, .ref (ad 31)), (2, .ref (ad 28)), (1, .ref (ad 0)), (0, .ref b)] []) : gX (F_case_line (xs (i + 1)) (xs (i + 2)) (xs (i + 3)) σ) ((1 : Int32), σ') (gG p l e room_1 s m args below meth c D cI cJ ad A 7 cells slots Q σ 128 [(4, .int (nI i)), (3, .ref (ad 31)), (2, .ref (ad 28)), (1, .ref (ad 0)), (0, .ref b)] []) := by
  have hf := hf0
  unfold F_case_line
  refine g_aload_n C 3 dL_law_128 rfl rfl ?_
  refine g_aload_n C 4 dL_law_129 rfl rfl ?_
  refine g_iload C 0 dL_law_130 rfl ?_
  refine g_iconst (v := (1 : Int32)) C dL_law_132 (by decide) ?_
  refine g_iadd C dL_law_133 ?_
  refine g_sld C hX0 hbl hbA (i + 1) (gsi 1 rfl (by omega) hL) dL_law_134 ?_
  refine g_aload_n C 4 dL_law_135 rfl rfl ?_
  refine g_iload C 0 dL_law_136 rfl ?_
  refine g_iconst (v := (2 : Int32)) C dL_law_138 (by decide) ?_
  refine g_iadd C dL_law_139 ?_
  refine g_sld C hX0 hbl hbA (i + 2) (gsi 2 rfl (by omega) hL) dL_law_140 ?_
  refine g_aload_n C 4 dL_law_141 rfl rfl ?_
  refine g_iload C 0 dL_law_142 rfl ?_
  refine g_iconst (v := (3 : Int32)) C dL_law_144 (by decide) ?_
  refine g_iadd C dL_law_145 ?_
  refine g_sld C hX0 hbl hbA (i + 3) (gsi 3 rfl (by omega) hL) dL_law_146 ?_
  refine g_aload_n C 1 dL_law_147 rfl rfl ?_
  refine g_callH (As := [.ref (ad 0), .int (xs (i + 1)), .int (xs (i + 2)), .int (xs (i + 3)), .ref (ad 31)]) (n := 5) C (c_Law_line l hl D cI cJ ad (xs (i + 1)) (xs (i + 2)) (xs (i + 3))) ⟨rfl, rfl⟩ lwh_line (hR := ⟨Nat.le_of_ble_eq_true rfl, Nat.le_of_ble_eq_true rfl⟩) rfl rfl (Nat.le_of_ble_eq_true rfl) dL_law_148 hf (fun k1 σ2 => ?_)
  refine g_istore (L' := [(5, .int k1), (4, .int (nI i)), (3, .ref (ad 31)), (2, .ref (ad 28)), (1, .ref (ad 0)), (0, .ref b)]) C dL_law_151 (by decide) rfl ?_
  refine g_aload_n C 3 dL_law_153 rfl rfl ?_
  refine g_aload_n C 5 dL_law_154 rfl rfl ?_
  refine g_iload C 1 dL_law_155 rfl ?_
  refine g_iconst (v := (1 : Int32)) C dL_law_157 (by decide) ?_
  refine g_iadd C dL_law_158 ?_
  refine g_sld C hX0 hbl hbA (i + 1) (gsi 1 rfl (by omega) hL) dL_law_159 ?_
  refine g_aload_n C 5 dL_law_160 rfl rfl ?_
  refine g_iload C 1 dL_law_161 rfl ?_
  refine g_iconst (v := (2 : Int32)) C dL_law_163 (by decide) ?_
  refine g_iadd C dL_law_164 ?_
  refine g_sld C hX0 hbl hbA (i + 2) (gsi 2 rfl (by omega) hL) dL_law_165 ?_
  refine g_aload_n C 5 dL_law_166 rfl rfl ?_
  refine g_iload C 1 dL_law_167 rfl ?_
  refine g_iconst (v := (3 : Int32)) C dL_law_169 (by decide) ?_
  refine g_iadd C dL_law_170 ?_
  refine g_sld C hX0 hbl hbA (i + 3) (gsi 3 rfl (by omega) hL) dL_law_171 ?_
  refine g_callvi (As := [.int (xs (i + 1)), .int (xs (i + 2)), .int (xs (i + 3))]) (n := 3) C (c_Model_line l hl D cI cJ ad (xs (i + 1)) (xs (i + 2)) (xs (i + 3))) ⟨rfl, rfl⟩ gcl6 rfl lwm_line (hR := ⟨Nat.le_of_ble_eq_true rfl, Nat.le_of_ble_eq_true rfl⟩) rfl rfl (Nat.le_of_ble_eq_true rfl) dL_law_172 hf (fun b3 σ4 => ?_)
  refine g_istore (L' := [(6, .int b3), (5, .int k1), (4, .int (nI i)), (3, .ref (ad 31)), (2, .ref (ad 28)), (1, .ref (ad 0)), (0, .ref b)]) C dL_law_175 (by decide) rfl ?_
  refine g_aload_n C 4 dL_law_177 rfl rfl ?_
  refine g_callvi (As := []) (n := 0) C (c_Model_thrown l hl D cI cJ ad) ⟨rfl, rfl⟩ gcl6 rfl lwm_thrown (hR := ⟨Nat.le_of_ble_eq_true rfl, Nat.le_of_ble_eq_true rfl⟩) rfl rfl (Nat.le_of_ble_eq_true rfl) dL_law_178 hf (fun b5 σ6 => ?_)
  refine g_iload C 1 dL_law_181 rfl ?_
  refine g_icmp_eq (tgt := 188) C dL_law_183 (by decide) (fun h => ?_) (fun h => ?_)
  · refine g_iload C 1 dL_law_188 rfl ?_
    refine g_if_ne (tgt := 205) C dL_law_190 (by decide) (fun h => ?_) (fun h => ?_)
    · refine g_aload_n C 3 dL_law_193 rfl rfl ?_
      refine g_iconst (v := (0 : Int32)) C dL_law_194 (by decide) ?_
      refine g_lald (o := 31) C rfl rfl dL_law_195 ?_
      refine g_iload C 0 dL_law_196 rfl ?_
      refine g_i2l C dL_law_198 ?_
      refine g_lcmpeq (x := (σ6 31 0)) (y := b3) (tgt := 205) C dL_law_199 dL_law_200 (by decide) (fun h => ?_) (fun h => ?_)
      · refine g_goto (tgt := 1408) C dL_law_205 (by decide) ?_
        refine g_loc [2, 3, 4, 5, 6] rfl ?_
        exact g_end K
      · exact g_bad
    · refine g_goto (tgt := 1408) C dL_law_205 (by decide) ?_
      refine g_loc [2, 3, 4, 5, 6] rfl ?_
      exact g_end K
  · exact g_bad

def F_case_libero (v1 : Int32) (v2 : Int32) (σ : gSt) : Option (Int32 × gSt) := gbi (F_Law_libero v1 v2 σ) fun k1 σ2 => gbi (F_Model_libero v1 v2 σ2) fun b3 σ4 => gbi (F_Model_thrown σ4) fun b5 σ6 => if b5 = k1 then (if k1 = (0 : Int32) then (if (σ6 31 0) = b3 then (some ((1 : Int32), σ6)) else (some ((0 : Int32), σ6))) else (some ((1 : Int32), σ6))) else (some ((0 : Int32), σ6))

set_option maxHeartbeats 4000000 in
set_option maxRecDepth 100000 in
theorem law_libero {p : Program} {l : Launch} {e : Env} {s : State} {m : MethodId} {args : Array Value} {below : List Frame} {meth : Method} {c : Code} {D : va_G} {cI cJ : ClassId} {ad : Nat → Nat} {A : Nat → Prop} {b Ln : Nat} {xs : Nat → Int32} {cells slots : Nat} {Q : State → Prop} (hl : l.stackTraces = false) (C : gC p s m args meth c D cI cJ ad A cL_law 7 RL) (hX0 : va_X b Ln xs s s.heap) (hbl : b < s.heap.size) (hbA : ¬ A b) (hL : Ln ≤ 2560) (hf0 : cells + 1 ≤ room_1.cells ∧ slots + 6 ≤ room_1.slots) (i : Nat) (hi : i + 5 ≤ Ln) (σ σ' : gSt) (K : gG p l e room_1 s m args below meth c D cI cJ ad A 7 (cells + 1) (slots + 6) Q σ' 1408 [(4, .int (nI i)), (3, .ref (ad 31)), (2, .ref (ad 28)), (1, .ref (ad 0)), (0, .ref b)] []) : gX (F_case_libero (xs (i + 1)) (xs (i + 2)) σ) ((1 : Int32), σ') (gG p l e room_1 s m args below meth c D cI cJ ad A 7 cells slots Q σ 208 [(4, .int (nI i)), (3, .ref (ad 31)), (2, .ref (ad 28)), (1, .ref (ad 0)), (0, .ref b)] []) := by
  have hf := hf0
  unfold F_case_libero
  refine g_aload_n C 3 dL_law_208 rfl rfl ?_
  refine g_aload_n C 4 dL_law_209 rfl rfl ?_
  refine g_iload C 0 dL_law_210 rfl ?_
  refine g_iconst (v := (1 : Int32)) C dL_law_212 (by decide) ?_
  refine g_iadd C dL_law_213 ?_
  refine g_sld C hX0 hbl hbA (i + 1) (gsi 1 rfl (by omega) hL) dL_law_214 ?_
  refine g_aload_n C 4 dL_law_215 rfl rfl ?_
  refine g_iload C 0 dL_law_216 rfl ?_
  refine g_iconst (v := (2 : Int32)) C dL_law_218 (by decide) ?_
  refine g_iadd C dL_law_219 ?_
  refine g_sld C hX0 hbl hbA (i + 2) (gsi 2 rfl (by omega) hL) dL_law_220 ?_
  refine g_aload_n C 1 dL_law_221 rfl rfl ?_
  refine g_callH (As := [.ref (ad 0), .int (xs (i + 1)), .int (xs (i + 2)), .ref (ad 31)]) (n := 4) C (c_Law_libero l hl D cI cJ ad (xs (i + 1)) (xs (i + 2))) ⟨rfl, rfl⟩ lwh_libero (hR := ⟨Nat.le_of_ble_eq_true rfl, Nat.le_of_ble_eq_true rfl⟩) rfl rfl (Nat.le_of_ble_eq_true rfl) dL_law_222 hf (fun k1 σ2 => ?_)
  refine g_istore (L' := [(5, .int k1), (4, .int (nI i)), (3, .ref (ad 31)), (2, .ref (ad 28)), (1, .ref (ad 0)), (0, .ref b)]) C dL_law_225 (by decide) rfl ?_
  refine g_aload_n C 3 dL_law_227 rfl rfl ?_
  refine g_aload_n C 5 dL_law_228 rfl rfl ?_
  refine g_iload C 1 dL_law_229 rfl ?_
  refine g_iconst (v := (1 : Int32)) C dL_law_231 (by decide) ?_
  refine g_iadd C dL_law_232 ?_
  refine g_sld C hX0 hbl hbA (i + 1) (gsi 1 rfl (by omega) hL) dL_law_233 ?_
  refine g_aload_n C 5 dL_law_234 rfl rfl ?_
  refine g_iload C 1 dL_law_235 rfl ?_
  refine g_iconst (v := (2 : Int32)) C dL_law_237 (by decide) ?_
  refine g_iadd C dL_law_238 ?_
  refine g_sld C hX0 hbl hbA (i + 2) (gsi 2 rfl (by omega) hL) dL_law_239 ?_
  refine g_callvi (As := [.int (xs (i + 1)), .int (xs (i + 2))]) (n := 2) C (c_Model_libero l hl D cI cJ ad (xs (i + 1)) (xs (i + 2))) ⟨rfl, rfl⟩ gcl6 rfl lwm_libero (hR := ⟨Nat.le_of_ble_eq_true rfl, Nat.le_of_ble_eq_true rfl⟩) rfl rfl (Nat.le_of_ble_eq_true rfl) dL_law_240 hf (fun b3 σ4 => ?_)
  refine g_istore (L' := [(6, .int b3), (5, .int k1), (4, .int (nI i)), (3, .ref (ad 31)), (2, .ref (ad 28)), (1, .ref (ad 0)), (0, .ref b)]) C dL_law_243 (by decide) rfl ?_
  refine g_aload_n C 4 dL_law_245 rfl rfl ?_
  refine g_callvi (As := []) (n := 0) C (c_Model_thrown l hl D cI cJ ad) ⟨rfl, rfl⟩ gcl6 rfl lwm_thrown (hR := ⟨Nat.le_of_ble_eq_true rfl, Nat.le_of_ble_eq_true rfl⟩) rfl rfl (Nat.le_of_ble_eq_true rfl) dL_law_246 hf (fun b5 σ6 => ?_)
  refine g_iload C 1 dL_law_249 rfl ?_
  refine g_icmp_eq (tgt := 256) C dL_law_251 (by decide) (fun h => ?_) (fun h => ?_)
  · refine g_iload C 1 dL_law_256 rfl ?_
    refine g_if_ne (tgt := 273) C dL_law_258 (by decide) (fun h => ?_) (fun h => ?_)
    · refine g_aload_n C 3 dL_law_261 rfl rfl ?_
      refine g_iconst (v := (0 : Int32)) C dL_law_262 (by decide) ?_
      refine g_lald (o := 31) C rfl rfl dL_law_263 ?_
      refine g_iload C 0 dL_law_264 rfl ?_
      refine g_i2l C dL_law_266 ?_
      refine g_lcmpeq (x := (σ6 31 0)) (y := b3) (tgt := 273) C dL_law_267 dL_law_268 (by decide) (fun h => ?_) (fun h => ?_)
      · refine g_goto (tgt := 1408) C dL_law_273 (by decide) ?_
        refine g_loc [2, 3, 4, 5, 6] rfl ?_
        exact g_end K
      · exact g_bad
    · refine g_goto (tgt := 1408) C dL_law_273 (by decide) ?_
      refine g_loc [2, 3, 4, 5, 6] rfl ?_
      exact g_end K
  · exact g_bad

def F_case_begin (v1 : Int32) (σ : gSt) : Option (Int32 × gSt) := gbi (F_Law_begin v1 σ) fun k1 σ2 => gbi (F_Model_begin v1 σ2) fun b3 σ4 => gbi (F_Model_thrown σ4) fun b5 σ6 => if b5 = k1 then (if k1 = (0 : Int32) then (if (σ6 31 0) = b3 then (some ((1 : Int32), σ6)) else (some ((0 : Int32), σ6))) else (some ((1 : Int32), σ6))) else (some ((0 : Int32), σ6))

set_option maxHeartbeats 4000000 in
set_option maxRecDepth 100000 in
theorem law_begin {p : Program} {l : Launch} {e : Env} {s : State} {m : MethodId} {args : Array Value} {below : List Frame} {meth : Method} {c : Code} {D : va_G} {cI cJ : ClassId} {ad : Nat → Nat} {A : Nat → Prop} {b Ln : Nat} {xs : Nat → Int32} {cells slots : Nat} {Q : State → Prop} (hl : l.stackTraces = false) (C : gC p s m args meth c D cI cJ ad A cL_law 7 RL) (hX0 : va_X b Ln xs s s.heap) (hbl : b < s.heap.size) (hbA : ¬ A b) (hL : Ln ≤ 2560) (hf0 : cells + 1 ≤ room_1.cells ∧ slots + 6 ≤ room_1.slots) (i : Nat) (hi : i + 5 ≤ Ln) (σ σ' : gSt) (K : gG p l e room_1 s m args below meth c D cI cJ ad A 7 (cells + 1) (slots + 6) Q σ' 1408 [(4, .int (nI i)), (3, .ref (ad 31)), (2, .ref (ad 28)), (1, .ref (ad 0)), (0, .ref b)] []) : gX (F_case_begin (xs (i + 1)) σ) ((1 : Int32), σ') (gG p l e room_1 s m args below meth c D cI cJ ad A 7 cells slots Q σ 276 [(4, .int (nI i)), (3, .ref (ad 31)), (2, .ref (ad 28)), (1, .ref (ad 0)), (0, .ref b)] []) := by
  have hf := hf0
  unfold F_case_begin
  refine g_aload_n C 3 dL_law_276 rfl rfl ?_
  refine g_aload_n C 4 dL_law_277 rfl rfl ?_
  refine g_iload C 0 dL_law_278 rfl ?_
  refine g_iconst (v := (1 : Int32)) C dL_law_280 (by decide) ?_
  refine g_iadd C dL_law_281 ?_
  refine g_sld C hX0 hbl hbA (i + 1) (gsi 1 rfl (by omega) hL) dL_law_282 ?_
  refine g_aload_n C 1 dL_law_283 rfl rfl ?_
  refine g_callH (As := [.ref (ad 0), .int (xs (i + 1)), .ref (ad 31)]) (n := 3) C (c_Law_begin l hl D cI cJ ad (xs (i + 1))) ⟨rfl, rfl⟩ lwh_begin (hR := ⟨Nat.le_of_ble_eq_true rfl, Nat.le_of_ble_eq_true rfl⟩) rfl rfl (Nat.le_of_ble_eq_true rfl) dL_law_284 hf (fun k1 σ2 => ?_)
  refine g_istore (L' := [(5, .int k1), (4, .int (nI i)), (3, .ref (ad 31)), (2, .ref (ad 28)), (1, .ref (ad 0)), (0, .ref b)]) C dL_law_287 (by decide) rfl ?_
  refine g_aload_n C 3 dL_law_289 rfl rfl ?_
  refine g_aload_n C 5 dL_law_290 rfl rfl ?_
  refine g_iload C 1 dL_law_291 rfl ?_
  refine g_iconst (v := (1 : Int32)) C dL_law_293 (by decide) ?_
  refine g_iadd C dL_law_294 ?_
  refine g_sld C hX0 hbl hbA (i + 1) (gsi 1 rfl (by omega) hL) dL_law_295 ?_
  refine g_callvi (As := [.int (xs (i + 1))]) (n := 1) C (c_Model_begin l hl D cI cJ ad (xs (i + 1))) ⟨rfl, rfl⟩ gcl6 rfl lwm_begin (hR := ⟨Nat.le_of_ble_eq_true rfl, Nat.le_of_ble_eq_true rfl⟩) rfl rfl (Nat.le_of_ble_eq_true rfl) dL_law_296 hf (fun b3 σ4 => ?_)
  refine g_istore (L' := [(6, .int b3), (5, .int k1), (4, .int (nI i)), (3, .ref (ad 31)), (2, .ref (ad 28)), (1, .ref (ad 0)), (0, .ref b)]) C dL_law_299 (by decide) rfl ?_
  refine g_aload_n C 4 dL_law_301 rfl rfl ?_
  refine g_callvi (As := []) (n := 0) C (c_Model_thrown l hl D cI cJ ad) ⟨rfl, rfl⟩ gcl6 rfl lwm_thrown (hR := ⟨Nat.le_of_ble_eq_true rfl, Nat.le_of_ble_eq_true rfl⟩) rfl rfl (Nat.le_of_ble_eq_true rfl) dL_law_302 hf (fun b5 σ6 => ?_)
  refine g_iload C 1 dL_law_305 rfl ?_
  refine g_icmp_eq (tgt := 312) C dL_law_307 (by decide) (fun h => ?_) (fun h => ?_)
  · refine g_iload C 1 dL_law_312 rfl ?_
    refine g_if_ne (tgt := 329) C dL_law_314 (by decide) (fun h => ?_) (fun h => ?_)
    · refine g_aload_n C 3 dL_law_317 rfl rfl ?_
      refine g_iconst (v := (0 : Int32)) C dL_law_318 (by decide) ?_
      refine g_lald (o := 31) C rfl rfl dL_law_319 ?_
      refine g_iload C 0 dL_law_320 rfl ?_
      refine g_i2l C dL_law_322 ?_
      refine g_lcmpeq (x := (σ6 31 0)) (y := b3) (tgt := 329) C dL_law_323 dL_law_324 (by decide) (fun h => ?_) (fun h => ?_)
      · refine g_goto (tgt := 1408) C dL_law_329 (by decide) ?_
        refine g_loc [2, 3, 4, 5, 6] rfl ?_
        exact g_end K
      · exact g_bad
    · refine g_goto (tgt := 1408) C dL_law_329 (by decide) ?_
      refine g_loc [2, 3, 4, 5, 6] rfl ?_
      exact g_end K
  · exact g_bad

def F_case_serve (v1 : Int32) (σ : gSt) : Option (Int32 × gSt) := gbi (F_Law_serve v1 σ) fun k1 σ2 => gbi (F_Model_serve v1 σ2) fun b3 σ4 => gbi (F_Model_thrown σ4) fun b5 σ6 => if b5 = k1 then (if k1 = (0 : Int32) then (if b3 = (0 : Int32) then (if (σ6 31 0) = (0 : Int32) then (some ((1 : Int32), σ6)) else (some ((0 : Int32), σ6))) else (if (σ6 31 0) = (1 : Int32) then (some ((1 : Int32), σ6)) else (some ((0 : Int32), σ6)))) else (some ((1 : Int32), σ6))) else (some ((0 : Int32), σ6))

set_option maxHeartbeats 4000000 in
set_option maxRecDepth 100000 in
theorem law_serve {p : Program} {l : Launch} {e : Env} {s : State} {m : MethodId} {args : Array Value} {below : List Frame} {meth : Method} {c : Code} {D : va_G} {cI cJ : ClassId} {ad : Nat → Nat} {A : Nat → Prop} {b Ln : Nat} {xs : Nat → Int32} {cells slots : Nat} {Q : State → Prop} (hl : l.stackTraces = false) (C : gC p s m args meth c D cI cJ ad A cL_law 7 RL) (hX0 : va_X b Ln xs s s.heap) (hbl : b < s.heap.size) (hbA : ¬ A b) (hL : Ln ≤ 2560) (hf0 : cells + 1 ≤ room_1.cells ∧ slots + 6 ≤ room_1.slots) (i : Nat) (hi : i + 5 ≤ Ln) (σ σ' : gSt) (K : gG p l e room_1 s m args below meth c D cI cJ ad A 7 (cells + 1) (slots + 6) Q σ' 1408 [(4, .int (nI i)), (3, .ref (ad 31)), (2, .ref (ad 28)), (1, .ref (ad 0)), (0, .ref b)] []) : gX (F_case_serve (xs (i + 1)) σ) ((1 : Int32), σ') (gG p l e room_1 s m args below meth c D cI cJ ad A 7 cells slots Q σ 332 [(4, .int (nI i)), (3, .ref (ad 31)), (2, .ref (ad 28)), (1, .ref (ad 0)), (0, .ref b)] []) := by
  have hf := hf0
  unfold F_case_serve
  refine g_aload_n C 3 dL_law_332 rfl rfl ?_
  refine g_aload_n C 4 dL_law_333 rfl rfl ?_
  refine g_iload C 0 dL_law_334 rfl ?_
  refine g_iconst (v := (1 : Int32)) C dL_law_336 (by decide) ?_
  refine g_iadd C dL_law_337 ?_
  refine g_sld C hX0 hbl hbA (i + 1) (gsi 1 rfl (by omega) hL) dL_law_338 ?_
  refine g_aload_n C 1 dL_law_339 rfl rfl ?_
  refine g_callH (As := [.ref (ad 0), .int (xs (i + 1)), .ref (ad 31)]) (n := 3) C (c_Law_serve l hl D cI cJ ad (xs (i + 1))) ⟨rfl, rfl⟩ lwh_serve (hR := ⟨Nat.le_of_ble_eq_true rfl, Nat.le_of_ble_eq_true rfl⟩) rfl rfl (Nat.le_of_ble_eq_true rfl) dL_law_340 hf (fun k1 σ2 => ?_)
  refine g_istore (L' := [(5, .int k1), (4, .int (nI i)), (3, .ref (ad 31)), (2, .ref (ad 28)), (1, .ref (ad 0)), (0, .ref b)]) C dL_law_343 (by decide) rfl ?_
  refine g_aload_n C 3 dL_law_345 rfl rfl ?_
  refine g_aload_n C 5 dL_law_346 rfl rfl ?_
  refine g_iload C 1 dL_law_347 rfl ?_
  refine g_iconst (v := (1 : Int32)) C dL_law_349 (by decide) ?_
  refine g_iadd C dL_law_350 ?_
  refine g_sld C hX0 hbl hbA (i + 1) (gsi 1 rfl (by omega) hL) dL_law_351 ?_
  refine g_callvi (As := [.int (xs (i + 1))]) (n := 1) C (c_Model_serve l hl D cI cJ ad (xs (i + 1))) ⟨rfl, rfl⟩ gcl6 rfl lwm_serve (hR := ⟨Nat.le_of_ble_eq_true rfl, Nat.le_of_ble_eq_true rfl⟩) rfl rfl (Nat.le_of_ble_eq_true rfl) dL_law_352 hf (fun b3 σ4 => ?_)
  refine g_istore (L' := [(6, .int b3), (5, .int k1), (4, .int (nI i)), (3, .ref (ad 31)), (2, .ref (ad 28)), (1, .ref (ad 0)), (0, .ref b)]) C dL_law_355 (by decide) rfl ?_
  refine g_aload_n C 4 dL_law_357 rfl rfl ?_
  refine g_callvi (As := []) (n := 0) C (c_Model_thrown l hl D cI cJ ad) ⟨rfl, rfl⟩ gcl6 rfl lwm_thrown (hR := ⟨Nat.le_of_ble_eq_true rfl, Nat.le_of_ble_eq_true rfl⟩) rfl rfl (Nat.le_of_ble_eq_true rfl) dL_law_358 hf (fun b5 σ6 => ?_)
  refine g_iload C 1 dL_law_361 rfl ?_
  refine g_icmp_eq (tgt := 368) C dL_law_363 (by decide) (fun h => ?_) (fun h => ?_)
  · refine g_iload C 1 dL_law_368 rfl ?_
    refine g_if_ne (tgt := 392) C dL_law_370 (by decide) (fun h => ?_) (fun h => ?_)
    · refine g_aload_n C 3 dL_law_373 rfl rfl ?_
      refine g_iconst (v := (0 : Int32)) C dL_law_374 (by decide) ?_
      refine g_lald (o := 31) C rfl rfl dL_law_375 ?_
      refine g_iload C 0 dL_law_376 rfl ?_
      refine g_if_eq (tgt := 385) C dL_law_378 (by decide) (fun h => ?_) (fun h => ?_)
      · refine g_lconst C (0 : Int32) dL_law_385 (by decide) ?_
        refine g_lcmpeq (x := (σ6 31 0)) (y := (0 : Int32)) (tgt := 392) C dL_law_386 dL_law_387 (by decide) (fun h => ?_) (fun h => ?_)
        · refine g_goto (tgt := 1408) C dL_law_392 (by decide) ?_
          refine g_loc [2, 3, 4, 5, 6] rfl ?_
          exact g_end K
        · exact g_bad
      · refine g_lconst C (1 : Int32) dL_law_381 (by decide) ?_
        refine g_goto (tgt := 386) C dL_law_382 (by decide) ?_
        refine g_lcmpeq (x := (σ6 31 0)) (y := (1 : Int32)) (tgt := 392) C dL_law_386 dL_law_387 (by decide) (fun h => ?_) (fun h => ?_)
        · refine g_goto (tgt := 1408) C dL_law_392 (by decide) ?_
          refine g_loc [2, 3, 4, 5, 6] rfl ?_
          exact g_end K
        · exact g_bad
    · refine g_goto (tgt := 1408) C dL_law_392 (by decide) ?_
      refine g_loc [2, 3, 4, 5, 6] rfl ?_
      exact g_end K
  · exact g_bad

def F_case_touch (v1 : Int32) (v2 : Int32) (v3 : Int32) (v4 : Int32) (σ : gSt) : Option (Int32 × gSt) := if v4 = (0 : Int32) then (gbi (F_Law_touch v1 v2 v3 (0 : Int32) σ) fun k1 σ2 => if v4 = (0 : Int32) then (gbi (F_Model_touch v1 v2 v3 (0 : Int32) σ2) fun b3 σ4 => gbi (F_Model_thrown σ4) fun b5 σ6 => if b5 = k1 then (if k1 = (0 : Int32) then (if (σ6 31 0) = b3 then (some ((1 : Int32), σ6)) else (some ((0 : Int32), σ6))) else (some ((1 : Int32), σ6))) else (some ((0 : Int32), σ6))) else (gbi (F_Model_touch v1 v2 v3 (1 : Int32) σ2) fun b7 σ8 => gbi (F_Model_thrown σ8) fun b9 σ10 => if b9 = k1 then (if k1 = (0 : Int32) then (if (σ10 31 0) = b7 then (some ((1 : Int32), σ10)) else (some ((0 : Int32), σ10))) else (some ((1 : Int32), σ10))) else (some ((0 : Int32), σ10)))) else (gbi (F_Law_touch v1 v2 v3 (1 : Int32) σ) fun k11 σ12 => if v4 = (0 : Int32) then (gbi (F_Model_touch v1 v2 v3 (0 : Int32) σ12) fun b13 σ14 => gbi (F_Model_thrown σ14) fun b15 σ16 => if b15 = k11 then (if k11 = (0 : Int32) then (if (σ16 31 0) = b13 then (some ((1 : Int32), σ16)) else (some ((0 : Int32), σ16))) else (some ((1 : Int32), σ16))) else (some ((0 : Int32), σ16))) else (gbi (F_Model_touch v1 v2 v3 (1 : Int32) σ12) fun b17 σ18 => gbi (F_Model_thrown σ18) fun b19 σ20 => if b19 = k11 then (if k11 = (0 : Int32) then (if (σ20 31 0) = b17 then (some ((1 : Int32), σ20)) else (some ((0 : Int32), σ20))) else (some ((1 : Int32), σ20))) else (some ((0 : Int32), σ20))))

set_option maxHeartbeats 4000000 in
set_option maxRecDepth 100000 in
theorem law_touch {p : Program} {l : Launch} {e : Env} {s : State} {m : MethodId} {args : Array Value} {below : List Frame} {meth : Method} {c : Code} {D : va_G} {cI cJ : ClassId} {ad : Nat → Nat} {A : Nat → Prop} {b Ln : Nat} {xs : Nat → Int32} {cells slots : Nat} {Q : State → Prop} (hl : l.stackTraces = false) (C : gC p s m args meth c D cI cJ ad A cL_law 7 RL) (hX0 : va_X b Ln xs s s.heap) (hbl : b < s.heap.size) (hbA : ¬ A b) (hL : Ln ≤ 2560) (hf0 : cells + 1 ≤ room_1.cells ∧ slots + 6 ≤ room_1.slots) (i : Nat) (hi : i + 5 ≤ Ln) (σ σ' : gSt) (K : gG p l e room_1 s m args below meth c D cI cJ ad A 7 (cells + 1) (slots + 6) Q σ' 1408 [(4, .int (nI i)), (3, .ref (ad 31)), (2, .ref (ad 28)), (1, .ref (ad 0)), (0, .ref b)] []) : gX (F_case_touch (xs (i + 1)) (xs (i + 2)) (xs (i + 3)) (xs (i + 4)) σ) ((1 : Int32), σ') (gG p l e room_1 s m args below meth c D cI cJ ad A 7 cells slots Q σ 395 [(4, .int (nI i)), (3, .ref (ad 31)), (2, .ref (ad 28)), (1, .ref (ad 0)), (0, .ref b)] []) := by
  have hf := hf0
  unfold F_case_touch
  refine g_aload_n C 3 dL_law_395 rfl rfl ?_
  refine g_aload_n C 4 dL_law_396 rfl rfl ?_
  refine g_iload C 0 dL_law_397 rfl ?_
  refine g_iconst (v := (1 : Int32)) C dL_law_399 (by decide) ?_
  refine g_iadd C dL_law_400 ?_
  refine g_sld C hX0 hbl hbA (i + 1) (gsi 1 rfl (by omega) hL) dL_law_401 ?_
  refine g_aload_n C 4 dL_law_402 rfl rfl ?_
  refine g_iload C 0 dL_law_403 rfl ?_
  refine g_iconst (v := (2 : Int32)) C dL_law_405 (by decide) ?_
  refine g_iadd C dL_law_406 ?_
  refine g_sld C hX0 hbl hbA (i + 2) (gsi 2 rfl (by omega) hL) dL_law_407 ?_
  refine g_aload_n C 4 dL_law_408 rfl rfl ?_
  refine g_iload C 0 dL_law_409 rfl ?_
  refine g_iconst (v := (3 : Int32)) C dL_law_411 (by decide) ?_
  refine g_iadd C dL_law_412 ?_
  refine g_sld C hX0 hbl hbA (i + 3) (gsi 3 rfl (by omega) hL) dL_law_413 ?_
  refine g_aload_n C 4 dL_law_414 rfl rfl ?_
  refine g_iload C 0 dL_law_415 rfl ?_
  refine g_iconst (v := (4 : Int32)) C dL_law_417 (by decide) ?_
  refine g_iadd C dL_law_418 ?_
  refine g_sld C hX0 hbl hbA (i + 4) (gsi 4 rfl (by omega) hL) dL_law_419 ?_
  refine g_if_eq (tgt := 427) C dL_law_420 (by decide) (fun h => ?_) (fun h => ?_)
  · refine g_iconst (v := (0 : Int32)) C dL_law_427 (by decide) ?_
    refine g_aload_n C 1 dL_law_428 rfl rfl ?_
    refine g_callH (As := [.ref (ad 0), .int (xs (i + 1)), .int (xs (i + 2)), .int (xs (i + 3)), .int (0 : Int32), .ref (ad 31)]) (n := 6) C (c_Law_touch l hl D cI cJ ad (xs (i + 1)) (xs (i + 2)) (xs (i + 3)) (0 : Int32)) ⟨rfl, rfl⟩ lwh_touch (hR := ⟨Nat.le_of_ble_eq_true rfl, Nat.le_of_ble_eq_true rfl⟩) rfl rfl (Nat.le_of_ble_eq_true rfl) dL_law_429 hf (fun k1 σ2 => ?_)
    refine g_istore (L' := [(5, .int k1), (4, .int (nI i)), (3, .ref (ad 31)), (2, .ref (ad 28)), (1, .ref (ad 0)), (0, .ref b)]) C dL_law_432 (by decide) rfl ?_
    refine g_aload_n C 3 dL_law_434 rfl rfl ?_
    refine g_aload_n C 5 dL_law_435 rfl rfl ?_
    refine g_iload C 1 dL_law_436 rfl ?_
    refine g_iconst (v := (1 : Int32)) C dL_law_438 (by decide) ?_
    refine g_iadd C dL_law_439 ?_
    refine g_sld C hX0 hbl hbA (i + 1) (gsi 1 rfl (by omega) hL) dL_law_440 ?_
    refine g_aload_n C 5 dL_law_441 rfl rfl ?_
    refine g_iload C 1 dL_law_442 rfl ?_
    refine g_iconst (v := (2 : Int32)) C dL_law_444 (by decide) ?_
    refine g_iadd C dL_law_445 ?_
    refine g_sld C hX0 hbl hbA (i + 2) (gsi 2 rfl (by omega) hL) dL_law_446 ?_
    refine g_aload_n C 5 dL_law_447 rfl rfl ?_
    refine g_iload C 1 dL_law_448 rfl ?_
    refine g_iconst (v := (3 : Int32)) C dL_law_450 (by decide) ?_
    refine g_iadd C dL_law_451 ?_
    refine g_sld C hX0 hbl hbA (i + 3) (gsi 3 rfl (by omega) hL) dL_law_452 ?_
    refine g_aload_n C 5 dL_law_453 rfl rfl ?_
    refine g_iload C 1 dL_law_454 rfl ?_
    refine g_iconst (v := (4 : Int32)) C dL_law_456 (by decide) ?_
    refine g_iadd C dL_law_457 ?_
    refine g_sld C hX0 hbl hbA (i + 4) (gsi 4 rfl (by omega) hL) dL_law_458 ?_
    refine g_if_eq (tgt := 466) C dL_law_459 (by decide) (fun h => ?_) (fun h => ?_)
    · refine g_iconst (v := (0 : Int32)) C dL_law_466 (by decide) ?_
      refine g_callvi (As := [.int (xs (i + 1)), .int (xs (i + 2)), .int (xs (i + 3)), .int (0 : Int32)]) (n := 4) C (c_Model_touch l hl D cI cJ ad (xs (i + 1)) (xs (i + 2)) (xs (i + 3)) (0 : Int32)) ⟨rfl, rfl⟩ gcl6 rfl lwm_touch (hR := ⟨Nat.le_of_ble_eq_true rfl, Nat.le_of_ble_eq_true rfl⟩) rfl rfl (Nat.le_of_ble_eq_true rfl) dL_law_467 hf (fun b3 σ4 => ?_)
      refine g_istore (L' := [(6, .int b3), (5, .int k1), (4, .int (nI i)), (3, .ref (ad 31)), (2, .ref (ad 28)), (1, .ref (ad 0)), (0, .ref b)]) C dL_law_470 (by decide) rfl ?_
      refine g_aload_n C 4 dL_law_472 rfl rfl ?_
      refine g_callvi (As := []) (n := 0) C (c_Model_thrown l hl D cI cJ ad) ⟨rfl, rfl⟩ gcl6 rfl lwm_thrown (hR := ⟨Nat.le_of_ble_eq_true rfl, Nat.le_of_ble_eq_true rfl⟩) rfl rfl (Nat.le_of_ble_eq_true rfl) dL_law_473 hf (fun b5 σ6 => ?_)
      refine g_iload C 1 dL_law_476 rfl ?_
      refine g_icmp_eq (tgt := 483) C dL_law_478 (by decide) (fun h => ?_) (fun h => ?_)
      · refine g_iload C 1 dL_law_483 rfl ?_
        refine g_if_ne (tgt := 500) C dL_law_485 (by decide) (fun h => ?_) (fun h => ?_)
        · refine g_aload_n C 3 dL_law_488 rfl rfl ?_
          refine g_iconst (v := (0 : Int32)) C dL_law_489 (by decide) ?_
          refine g_lald (o := 31) C rfl rfl dL_law_490 ?_
          refine g_iload C 0 dL_law_491 rfl ?_
          refine g_i2l C dL_law_493 ?_
          refine g_lcmpeq (x := (σ6 31 0)) (y := b3) (tgt := 500) C dL_law_494 dL_law_495 (by decide) (fun h => ?_) (fun h => ?_)
          · refine g_goto (tgt := 1408) C dL_law_500 (by decide) ?_
            refine g_loc [2, 3, 4, 5, 6] rfl ?_
            exact g_end K
          · exact g_bad
        · refine g_goto (tgt := 1408) C dL_law_500 (by decide) ?_
          refine g_loc [2, 3, 4, 5, 6] rfl ?_
          exact g_end K
      · exact g_bad
    · refine g_iconst (v := (1 : Int32)) C dL_law_462 (by decide) ?_
      refine g_goto (tgt := 467) C dL_law_463 (by decide) ?_
      refine g_callvi (As := [.int (xs (i + 1)), .int (xs (i + 2)), .int (xs (i + 3)), .int (1 : Int32)]) (n := 4) C (c_Model_touch l hl D cI cJ ad (xs (i + 1)) (xs (i + 2)) (xs (i + 3)) (1 : Int32)) ⟨rfl, rfl⟩ gcl6 rfl lwm_touch (hR := ⟨Nat.le_of_ble_eq_true rfl, Nat.le_of_ble_eq_true rfl⟩) rfl rfl (Nat.le_of_ble_eq_true rfl) dL_law_467 hf (fun b7 σ8 => ?_)
      refine g_istore (L' := [(6, .int b7), (5, .int k1), (4, .int (nI i)), (3, .ref (ad 31)), (2, .ref (ad 28)), (1, .ref (ad 0)), (0, .ref b)]) C dL_law_470 (by decide) rfl ?_
      refine g_aload_n C 4 dL_law_472 rfl rfl ?_
      refine g_callvi (As := []) (n := 0) C (c_Model_thrown l hl D cI cJ ad) ⟨rfl, rfl⟩ gcl6 rfl lwm_thrown (hR := ⟨Nat.le_of_ble_eq_true rfl, Nat.le_of_ble_eq_true rfl⟩) rfl rfl (Nat.le_of_ble_eq_true rfl) dL_law_473 hf (fun b9 σ10 => ?_)
      refine g_iload C 1 dL_law_476 rfl ?_
      refine g_icmp_eq (tgt := 483) C dL_law_478 (by decide) (fun h => ?_) (fun h => ?_)
      · refine g_iload C 1 dL_law_483 rfl ?_
        refine g_if_ne (tgt := 500) C dL_law_485 (by decide) (fun h => ?_) (fun h => ?_)
        · refine g_aload_n C 3 dL_law_488 rfl rfl ?_
          refine g_iconst (v := (0 : Int32)) C dL_law_489 (by decide) ?_
          refine g_lald (o := 31) C rfl rfl dL_law_490 ?_
          refine g_iload C 0 dL_law_491 rfl ?_
          refine g_i2l C dL_law_493 ?_
          refine g_lcmpeq (x := (σ10 31 0)) (y := b7) (tgt := 500) C dL_law_494 dL_law_495 (by decide) (fun h => ?_) (fun h => ?_)
          · refine g_goto (tgt := 1408) C dL_law_500 (by decide) ?_
            refine g_loc [2, 3, 4, 5, 6] rfl ?_
            exact g_end K
          · exact g_bad
        · refine g_goto (tgt := 1408) C dL_law_500 (by decide) ?_
          refine g_loc [2, 3, 4, 5, 6] rfl ?_
          exact g_end K
      · exact g_bad
  · refine g_iconst (v := (1 : Int32)) C dL_law_423 (by decide) ?_
    refine g_goto (tgt := 428) C dL_law_424 (by decide) ?_
    refine g_aload_n C 1 dL_law_428 rfl rfl ?_
    refine g_callH (As := [.ref (ad 0), .int (xs (i + 1)), .int (xs (i + 2)), .int (xs (i + 3)), .int (1 : Int32), .ref (ad 31)]) (n := 6) C (c_Law_touch l hl D cI cJ ad (xs (i + 1)) (xs (i + 2)) (xs (i + 3)) (1 : Int32)) ⟨rfl, rfl⟩ lwh_touch (hR := ⟨Nat.le_of_ble_eq_true rfl, Nat.le_of_ble_eq_true rfl⟩) rfl rfl (Nat.le_of_ble_eq_true rfl) dL_law_429 hf (fun k11 σ12 => ?_)
    refine g_istore (L' := [(5, .int k11), (4, .int (nI i)), (3, .ref (ad 31)), (2, .ref (ad 28)), (1, .ref (ad 0)), (0, .ref b)]) C dL_law_432 (by decide) rfl ?_
    refine g_aload_n C 3 dL_law_434 rfl rfl ?_
    refine g_aload_n C 5 dL_law_435 rfl rfl ?_
    refine g_iload C 1 dL_law_436 rfl ?_
    refine g_iconst (v := (1 : Int32)) C dL_law_438 (by decide) ?_
    refine g_iadd C dL_law_439 ?_
    refine g_sld C hX0 hbl hbA (i + 1) (gsi 1 rfl (by omega) hL) dL_law_440 ?_
    refine g_aload_n C 5 dL_law_441 rfl rfl ?_
    refine g_iload C 1 dL_law_442 rfl ?_
    refine g_iconst (v := (2 : Int32)) C dL_law_444 (by decide) ?_
    refine g_iadd C dL_law_445 ?_
    refine g_sld C hX0 hbl hbA (i + 2) (gsi 2 rfl (by omega) hL) dL_law_446 ?_
    refine g_aload_n C 5 dL_law_447 rfl rfl ?_
    refine g_iload C 1 dL_law_448 rfl ?_
    refine g_iconst (v := (3 : Int32)) C dL_law_450 (by decide) ?_
    refine g_iadd C dL_law_451 ?_
    refine g_sld C hX0 hbl hbA (i + 3) (gsi 3 rfl (by omega) hL) dL_law_452 ?_
    refine g_aload_n C 5 dL_law_453 rfl rfl ?_
    refine g_iload C 1 dL_law_454 rfl ?_
    refine g_iconst (v := (4 : Int32)) C dL_law_456 (by decide) ?_
    refine g_iadd C dL_law_457 ?_
    refine g_sld C hX0 hbl hbA (i + 4) (gsi 4 rfl (by omega) hL) dL_law_458 ?_
    refine g_if_eq (tgt := 466) C dL_law_459 (by decide) (fun h => ?_) (fun h => ?_)
    · refine g_iconst (v := (0 : Int32)) C dL_law_466 (by decide) ?_
      refine g_callvi (As := [.int (xs (i + 1)), .int (xs (i + 2)), .int (xs (i + 3)), .int (0 : Int32)]) (n := 4) C (c_Model_touch l hl D cI cJ ad (xs (i + 1)) (xs (i + 2)) (xs (i + 3)) (0 : Int32)) ⟨rfl, rfl⟩ gcl6 rfl lwm_touch (hR := ⟨Nat.le_of_ble_eq_true rfl, Nat.le_of_ble_eq_true rfl⟩) rfl rfl (Nat.le_of_ble_eq_true rfl) dL_law_467 hf (fun b13 σ14 => ?_)
      refine g_istore (L' := [(6, .int b13), (5, .int k11), (4, .int (nI i)), (3, .ref (ad 31)), (2, .ref (ad 28)), (1, .ref (ad 0)), (0, .ref b)]) C dL_law_470 (by decide) rfl ?_
      refine g_aload_n C 4 dL_law_472 rfl rfl ?_
      refine g_callvi (As := []) (n := 0) C (c_Model_thrown l hl D cI cJ ad) ⟨rfl, rfl⟩ gcl6 rfl lwm_thrown (hR := ⟨Nat.le_of_ble_eq_true rfl, Nat.le_of_ble_eq_true rfl⟩) rfl rfl (Nat.le_of_ble_eq_true rfl) dL_law_473 hf (fun b15 σ16 => ?_)
      refine g_iload C 1 dL_law_476 rfl ?_
      refine g_icmp_eq (tgt := 483) C dL_law_478 (by decide) (fun h => ?_) (fun h => ?_)
      · refine g_iload C 1 dL_law_483 rfl ?_
        refine g_if_ne (tgt := 500) C dL_law_485 (by decide) (fun h => ?_) (fun h => ?_)
        · refine g_aload_n C 3 dL_law_488 rfl rfl ?_
          refine g_iconst (v := (0 : Int32)) C dL_law_489 (by decide) ?_
          refine g_lald (o := 31) C rfl rfl dL_law_490 ?_
          refine g_iload C 0 dL_law_491 rfl ?_
          refine g_i2l C dL_law_493 ?_
          refine g_lcmpeq (x := (σ16 31 0)) (y := b13) (tgt := 500) C dL_law_494 dL_law_495 (by decide) (fun h => ?_) (fun h => ?_)
          · refine g_goto (tgt := 1408) C dL_law_500 (by decide) ?_
            refine g_loc [2, 3, 4, 5, 6] rfl ?_
            exact g_end K
          · exact g_bad
        · refine g_goto (tgt := 1408) C dL_law_500 (by decide) ?_
          refine g_loc [2, 3, 4, 5, 6] rfl ?_
          exact g_end K
      · exact g_bad
    · refine g_iconst (v := (1 : Int32)) C dL_law_462 (by decide) ?_
      refine g_goto (tgt := 467) C dL_law_463 (by decide) ?_
      refine g_callvi (As := [.int (xs (i + 1)), .int (xs (i + 2)), .int (xs (i + 3)), .int (1 : Int32)]) (n := 4) C (c_Model_touch l hl D cI cJ ad (xs (i + 1)) (xs (i + 2)) (xs (i + 3)) (1 : Int32)) ⟨rfl, rfl⟩ gcl6 rfl lwm_touch (hR := ⟨Nat.le_of_ble_eq_true rfl, Nat.le_of_ble_eq_true rfl⟩) rfl rfl (Nat.le_of_ble_eq_true rfl) dL_law_467 hf (fun b17 σ18 => ?_)
      refine g_istore (L' := [(6, .int b17), (5, .int k11), (4, .int (nI i)), (3, .ref (ad 31)), (2, .ref (ad 28)), (1, .ref (ad 0)), (0, .ref b)]) C dL_law_470 (by decide) rfl ?_
      refine g_aload_n C 4 dL_law_472 rfl rfl ?_
      refine g_callvi (As := []) (n := 0) C (c_Model_thrown l hl D cI cJ ad) ⟨rfl, rfl⟩ gcl6 rfl lwm_thrown (hR := ⟨Nat.le_of_ble_eq_true rfl, Nat.le_of_ble_eq_true rfl⟩) rfl rfl (Nat.le_of_ble_eq_true rfl) dL_law_473 hf (fun b19 σ20 => ?_)
      refine g_iload C 1 dL_law_476 rfl ?_
      refine g_icmp_eq (tgt := 483) C dL_law_478 (by decide) (fun h => ?_) (fun h => ?_)
      · refine g_iload C 1 dL_law_483 rfl ?_
        refine g_if_ne (tgt := 500) C dL_law_485 (by decide) (fun h => ?_) (fun h => ?_)
        · refine g_aload_n C 3 dL_law_488 rfl rfl ?_
          refine g_iconst (v := (0 : Int32)) C dL_law_489 (by decide) ?_
          refine g_lald (o := 31) C rfl rfl dL_law_490 ?_
          refine g_iload C 0 dL_law_491 rfl ?_
          refine g_i2l C dL_law_493 ?_
          refine g_lcmpeq (x := (σ20 31 0)) (y := b17) (tgt := 500) C dL_law_494 dL_law_495 (by decide) (fun h => ?_) (fun h => ?_)
          · refine g_goto (tgt := 1408) C dL_law_500 (by decide) ?_
            refine g_loc [2, 3, 4, 5, 6] rfl ?_
            exact g_end K
          · exact g_bad
        · refine g_goto (tgt := 1408) C dL_law_500 (by decide) ?_
          refine g_loc [2, 3, 4, 5, 6] rfl ?_
          exact g_end K
      · exact g_bad

def F_case_fall (v1 : Int32) (σ : gSt) : Option (Int32 × gSt) := gbi (F_Law_fall v1 σ) fun k1 σ2 => gbi (F_Model_fall v1 σ2) fun b3 σ4 => gbi (F_Model_thrown σ4) fun b5 σ6 => if b5 = k1 then (if k1 = (0 : Int32) then (if (σ6 31 0) = b3 then (some ((1 : Int32), σ6)) else (some ((0 : Int32), σ6))) else (some ((1 : Int32), σ6))) else (some ((0 : Int32), σ6))

set_option maxHeartbeats 4000000 in
set_option maxRecDepth 100000 in
theorem law_fall {p : Program} {l : Launch} {e : Env} {s : State} {m : MethodId} {args : Array Value} {below : List Frame} {meth : Method} {c : Code} {D : va_G} {cI cJ : ClassId} {ad : Nat → Nat} {A : Nat → Prop} {b Ln : Nat} {xs : Nat → Int32} {cells slots : Nat} {Q : State → Prop} (hl : l.stackTraces = false) (C : gC p s m args meth c D cI cJ ad A cL_law 7 RL) (hX0 : va_X b Ln xs s s.heap) (hbl : b < s.heap.size) (hbA : ¬ A b) (hL : Ln ≤ 2560) (hf0 : cells + 1 ≤ room_1.cells ∧ slots + 6 ≤ room_1.slots) (i : Nat) (hi : i + 5 ≤ Ln) (σ σ' : gSt) (K : gG p l e room_1 s m args below meth c D cI cJ ad A 7 (cells + 1) (slots + 6) Q σ' 1408 [(4, .int (nI i)), (3, .ref (ad 31)), (2, .ref (ad 28)), (1, .ref (ad 0)), (0, .ref b)] []) : gX (F_case_fall (xs (i + 1)) σ) ((1 : Int32), σ') (gG p l e room_1 s m args below meth c D cI cJ ad A 7 cells slots Q σ 503 [(4, .int (nI i)), (3, .ref (ad 31)), (2, .ref (ad 28)), (1, .ref (ad 0)), (0, .ref b)] []) := by
  have hf := hf0
  unfold F_case_fall
  refine g_aload_n C 3 dL_law_503 rfl rfl ?_
  refine g_aload_n C 4 dL_law_504 rfl rfl ?_
  refine g_iload C 0 dL_law_505 rfl ?_
  refine g_iconst (v := (1 : Int32)) C dL_law_507 (by decide) ?_
  refine g_iadd C dL_law_508 ?_
  refine g_sld C hX0 hbl hbA (i + 1) (gsi 1 rfl (by omega) hL) dL_law_509 ?_
  refine g_aload_n C 1 dL_law_510 rfl rfl ?_
  refine g_callH (As := [.ref (ad 0), .int (xs (i + 1)), .ref (ad 31)]) (n := 3) C (c_Law_fall l hl D cI cJ ad (xs (i + 1))) ⟨rfl, rfl⟩ lwh_fall (hR := ⟨Nat.le_of_ble_eq_true rfl, Nat.le_of_ble_eq_true rfl⟩) rfl rfl (Nat.le_of_ble_eq_true rfl) dL_law_511 hf (fun k1 σ2 => ?_)
  refine g_istore (L' := [(5, .int k1), (4, .int (nI i)), (3, .ref (ad 31)), (2, .ref (ad 28)), (1, .ref (ad 0)), (0, .ref b)]) C dL_law_514 (by decide) rfl ?_
  refine g_aload_n C 3 dL_law_516 rfl rfl ?_
  refine g_aload_n C 5 dL_law_517 rfl rfl ?_
  refine g_iload C 1 dL_law_518 rfl ?_
  refine g_iconst (v := (1 : Int32)) C dL_law_520 (by decide) ?_
  refine g_iadd C dL_law_521 ?_
  refine g_sld C hX0 hbl hbA (i + 1) (gsi 1 rfl (by omega) hL) dL_law_522 ?_
  refine g_callvi (As := [.int (xs (i + 1))]) (n := 1) C (c_Model_fall l hl D cI cJ ad (xs (i + 1))) ⟨rfl, rfl⟩ gcl6 rfl lwm_fall (hR := ⟨Nat.le_of_ble_eq_true rfl, Nat.le_of_ble_eq_true rfl⟩) rfl rfl (Nat.le_of_ble_eq_true rfl) dL_law_523 hf (fun b3 σ4 => ?_)
  refine g_istore (L' := [(6, .int b3), (5, .int k1), (4, .int (nI i)), (3, .ref (ad 31)), (2, .ref (ad 28)), (1, .ref (ad 0)), (0, .ref b)]) C dL_law_526 (by decide) rfl ?_
  refine g_aload_n C 4 dL_law_528 rfl rfl ?_
  refine g_callvi (As := []) (n := 0) C (c_Model_thrown l hl D cI cJ ad) ⟨rfl, rfl⟩ gcl6 rfl lwm_thrown (hR := ⟨Nat.le_of_ble_eq_true rfl, Nat.le_of_ble_eq_true rfl⟩) rfl rfl (Nat.le_of_ble_eq_true rfl) dL_law_529 hf (fun b5 σ6 => ?_)
  refine g_iload C 1 dL_law_532 rfl ?_
  refine g_icmp_eq (tgt := 539) C dL_law_534 (by decide) (fun h => ?_) (fun h => ?_)
  · refine g_iload C 1 dL_law_539 rfl ?_
    refine g_if_ne (tgt := 556) C dL_law_541 (by decide) (fun h => ?_) (fun h => ?_)
    · refine g_aload_n C 3 dL_law_544 rfl rfl ?_
      refine g_iconst (v := (0 : Int32)) C dL_law_545 (by decide) ?_
      refine g_lald (o := 31) C rfl rfl dL_law_546 ?_
      refine g_iload C 0 dL_law_547 rfl ?_
      refine g_i2l C dL_law_549 ?_
      refine g_lcmpeq (x := (σ6 31 0)) (y := b3) (tgt := 556) C dL_law_550 dL_law_551 (by decide) (fun h => ?_) (fun h => ?_)
      · refine g_goto (tgt := 1408) C dL_law_556 (by decide) ?_
        refine g_loc [2, 3, 4, 5, 6] rfl ?_
        exact g_end K
      · exact g_bad
    · refine g_goto (tgt := 1408) C dL_law_556 (by decide) ?_
      refine g_loc [2, 3, 4, 5, 6] rfl ?_
      exact g_end K
  · exact g_bad

def F_case_net (v1 : Int32) (v2 : Int32) (σ : gSt) : Option (Int32 × gSt) := if v2 = (0 : Int32) then (gbi (F_Law_net v1 (0 : Int32) σ) fun k1 σ2 => if v2 = (0 : Int32) then (gbi (F_Model_net v1 (0 : Int32) σ2) fun b3 σ4 => gbi (F_Model_thrown σ4) fun b5 σ6 => if b5 = k1 then (if k1 = (0 : Int32) then (if b3 = (0 : Int32) then (if (σ6 31 0) = (0 : Int32) then (some ((1 : Int32), σ6)) else (some ((0 : Int32), σ6))) else (if (σ6 31 0) = (1 : Int32) then (some ((1 : Int32), σ6)) else (some ((0 : Int32), σ6)))) else (some ((1 : Int32), σ6))) else (some ((0 : Int32), σ6))) else (gbi (F_Model_net v1 (1 : Int32) σ2) fun b7 σ8 => gbi (F_Model_thrown σ8) fun b9 σ10 => if b9 = k1 then (if k1 = (0 : Int32) then (if b7 = (0 : Int32) then (if (σ10 31 0) = (0 : Int32) then (some ((1 : Int32), σ10)) else (some ((0 : Int32), σ10))) else (if (σ10 31 0) = (1 : Int32) then (some ((1 : Int32), σ10)) else (some ((0 : Int32), σ10)))) else (some ((1 : Int32), σ10))) else (some ((0 : Int32), σ10)))) else (gbi (F_Law_net v1 (1 : Int32) σ) fun k11 σ12 => if v2 = (0 : Int32) then (gbi (F_Model_net v1 (0 : Int32) σ12) fun b13 σ14 => gbi (F_Model_thrown σ14) fun b15 σ16 => if b15 = k11 then (if k11 = (0 : Int32) then (if b13 = (0 : Int32) then (if (σ16 31 0) = (0 : Int32) then (some ((1 : Int32), σ16)) else (some ((0 : Int32), σ16))) else (if (σ16 31 0) = (1 : Int32) then (some ((1 : Int32), σ16)) else (some ((0 : Int32), σ16)))) else (some ((1 : Int32), σ16))) else (some ((0 : Int32), σ16))) else (gbi (F_Model_net v1 (1 : Int32) σ12) fun b17 σ18 => gbi (F_Model_thrown σ18) fun b19 σ20 => if b19 = k11 then (if k11 = (0 : Int32) then (if b17 = (0 : Int32) then (if (σ20 31 0) = (0 : Int32) then (some ((1 : Int32), σ20)) else (some ((0 : Int32), σ20))) else (if (σ20 31 0) = (1 : Int32) then (some ((1 : Int32), σ20)) else (some ((0 : Int32), σ20)))) else (some ((1 : Int32), σ20))) else (some ((0 : Int32), σ20))))

set_option maxHeartbeats 4000000 in
set_option maxRecDepth 100000 in
theorem law_net {p : Program} {l : Launch} {e : Env} {s : State} {m : MethodId} {args : Array Value} {below : List Frame} {meth : Method} {c : Code} {D : va_G} {cI cJ : ClassId} {ad : Nat → Nat} {A : Nat → Prop} {b Ln : Nat} {xs : Nat → Int32} {cells slots : Nat} {Q : State → Prop} (hl : l.stackTraces = false) (C : gC p s m args meth c D cI cJ ad A cL_law 7 RL) (hX0 : va_X b Ln xs s s.heap) (hbl : b < s.heap.size) (hbA : ¬ A b) (hL : Ln ≤ 2560) (hf0 : cells + 1 ≤ room_1.cells ∧ slots + 6 ≤ room_1.slots) (i : Nat) (hi : i + 5 ≤ Ln) (σ σ' : gSt) (K : gG p l e room_1 s m args below meth c D cI cJ ad A 7 (cells + 1) (slots + 6) Q σ' 1408 [(4, .int (nI i)), (3, .ref (ad 31)), (2, .ref (ad 28)), (1, .ref (ad 0)), (0, .ref b)] []) : gX (F_case_net (xs (i + 1)) (xs (i + 2)) σ) ((1 : Int32), σ') (gG p l e room_1 s m args below meth c D cI cJ ad A 7 cells slots Q σ 559 [(4, .int (nI i)), (3, .ref (ad 31)), (2, .ref (ad 28)), (1, .ref (ad 0)), (0, .ref b)] []) := by
  have hf := hf0
  unfold F_case_net
  refine g_aload_n C 3 dL_law_559 rfl rfl ?_
  refine g_aload_n C 4 dL_law_560 rfl rfl ?_
  refine g_iload C 0 dL_law_561 rfl ?_
  refine g_iconst (v := (1 : Int32)) C dL_law_563 (by decide) ?_
  refine g_iadd C dL_law_564 ?_
  refine g_sld C hX0 hbl hbA (i + 1) (gsi 1 rfl (by omega) hL) dL_law_565 ?_
  refine g_aload_n C 4 dL_law_566 rfl rfl ?_
  refine g_iload C 0 dL_law_567 rfl ?_
  refine g_iconst (v := (2 : Int32)) C dL_law_569 (by decide) ?_
  refine g_iadd C dL_law_570 ?_
  refine g_sld C hX0 hbl hbA (i + 2) (gsi 2 rfl (by omega) hL) dL_law_571 ?_
  refine g_if_eq (tgt := 579) C dL_law_572 (by decide) (fun h => ?_) (fun h => ?_)
  · refine g_iconst (v := (0 : Int32)) C dL_law_579 (by decide) ?_
    refine g_aload_n C 1 dL_law_580 rfl rfl ?_
    refine g_callH (As := [.ref (ad 0), .int (xs (i + 1)), .int (0 : Int32), .ref (ad 31)]) (n := 4) C (c_Law_net l hl D cI cJ ad (xs (i + 1)) (0 : Int32)) ⟨rfl, rfl⟩ lwh_net (hR := ⟨Nat.le_of_ble_eq_true rfl, Nat.le_of_ble_eq_true rfl⟩) rfl rfl (Nat.le_of_ble_eq_true rfl) dL_law_581 hf (fun k1 σ2 => ?_)
    refine g_istore (L' := [(5, .int k1), (4, .int (nI i)), (3, .ref (ad 31)), (2, .ref (ad 28)), (1, .ref (ad 0)), (0, .ref b)]) C dL_law_584 (by decide) rfl ?_
    refine g_aload_n C 3 dL_law_586 rfl rfl ?_
    refine g_aload_n C 5 dL_law_587 rfl rfl ?_
    refine g_iload C 1 dL_law_588 rfl ?_
    refine g_iconst (v := (1 : Int32)) C dL_law_590 (by decide) ?_
    refine g_iadd C dL_law_591 ?_
    refine g_sld C hX0 hbl hbA (i + 1) (gsi 1 rfl (by omega) hL) dL_law_592 ?_
    refine g_aload_n C 5 dL_law_593 rfl rfl ?_
    refine g_iload C 1 dL_law_594 rfl ?_
    refine g_iconst (v := (2 : Int32)) C dL_law_596 (by decide) ?_
    refine g_iadd C dL_law_597 ?_
    refine g_sld C hX0 hbl hbA (i + 2) (gsi 2 rfl (by omega) hL) dL_law_598 ?_
    refine g_if_eq (tgt := 606) C dL_law_599 (by decide) (fun h => ?_) (fun h => ?_)
    · refine g_iconst (v := (0 : Int32)) C dL_law_606 (by decide) ?_
      refine g_callvi (As := [.int (xs (i + 1)), .int (0 : Int32)]) (n := 2) C (c_Model_net l hl D cI cJ ad (xs (i + 1)) (0 : Int32)) ⟨rfl, rfl⟩ gcl6 rfl lwm_net (hR := ⟨Nat.le_of_ble_eq_true rfl, Nat.le_of_ble_eq_true rfl⟩) rfl rfl (Nat.le_of_ble_eq_true rfl) dL_law_607 hf (fun b3 σ4 => ?_)
      refine g_istore (L' := [(6, .int b3), (5, .int k1), (4, .int (nI i)), (3, .ref (ad 31)), (2, .ref (ad 28)), (1, .ref (ad 0)), (0, .ref b)]) C dL_law_610 (by decide) rfl ?_
      refine g_aload_n C 4 dL_law_612 rfl rfl ?_
      refine g_callvi (As := []) (n := 0) C (c_Model_thrown l hl D cI cJ ad) ⟨rfl, rfl⟩ gcl6 rfl lwm_thrown (hR := ⟨Nat.le_of_ble_eq_true rfl, Nat.le_of_ble_eq_true rfl⟩) rfl rfl (Nat.le_of_ble_eq_true rfl) dL_law_613 hf (fun b5 σ6 => ?_)
      refine g_iload C 1 dL_law_616 rfl ?_
      refine g_icmp_eq (tgt := 623) C dL_law_618 (by decide) (fun h => ?_) (fun h => ?_)
      · refine g_iload C 1 dL_law_623 rfl ?_
        refine g_if_ne (tgt := 647) C dL_law_625 (by decide) (fun h => ?_) (fun h => ?_)
        · refine g_aload_n C 3 dL_law_628 rfl rfl ?_
          refine g_iconst (v := (0 : Int32)) C dL_law_629 (by decide) ?_
          refine g_lald (o := 31) C rfl rfl dL_law_630 ?_
          refine g_iload C 0 dL_law_631 rfl ?_
          refine g_if_eq (tgt := 640) C dL_law_633 (by decide) (fun h => ?_) (fun h => ?_)
          · refine g_lconst C (0 : Int32) dL_law_640 (by decide) ?_
            refine g_lcmpeq (x := (σ6 31 0)) (y := (0 : Int32)) (tgt := 647) C dL_law_641 dL_law_642 (by decide) (fun h => ?_) (fun h => ?_)
            · refine g_goto (tgt := 1408) C dL_law_647 (by decide) ?_
              refine g_loc [2, 3, 4, 5, 6] rfl ?_
              exact g_end K
            · exact g_bad
          · refine g_lconst C (1 : Int32) dL_law_636 (by decide) ?_
            refine g_goto (tgt := 641) C dL_law_637 (by decide) ?_
            refine g_lcmpeq (x := (σ6 31 0)) (y := (1 : Int32)) (tgt := 647) C dL_law_641 dL_law_642 (by decide) (fun h => ?_) (fun h => ?_)
            · refine g_goto (tgt := 1408) C dL_law_647 (by decide) ?_
              refine g_loc [2, 3, 4, 5, 6] rfl ?_
              exact g_end K
            · exact g_bad
        · refine g_goto (tgt := 1408) C dL_law_647 (by decide) ?_
          refine g_loc [2, 3, 4, 5, 6] rfl ?_
          exact g_end K
      · exact g_bad
    · refine g_iconst (v := (1 : Int32)) C dL_law_602 (by decide) ?_
      refine g_goto (tgt := 607) C dL_law_603 (by decide) ?_
      refine g_callvi (As := [.int (xs (i + 1)), .int (1 : Int32)]) (n := 2) C (c_Model_net l hl D cI cJ ad (xs (i + 1)) (1 : Int32)) ⟨rfl, rfl⟩ gcl6 rfl lwm_net (hR := ⟨Nat.le_of_ble_eq_true rfl, Nat.le_of_ble_eq_true rfl⟩) rfl rfl (Nat.le_of_ble_eq_true rfl) dL_law_607 hf (fun b7 σ8 => ?_)
      refine g_istore (L' := [(6, .int b7), (5, .int k1), (4, .int (nI i)), (3, .ref (ad 31)), (2, .ref (ad 28)), (1, .ref (ad 0)), (0, .ref b)]) C dL_law_610 (by decide) rfl ?_
      refine g_aload_n C 4 dL_law_612 rfl rfl ?_
      refine g_callvi (As := []) (n := 0) C (c_Model_thrown l hl D cI cJ ad) ⟨rfl, rfl⟩ gcl6 rfl lwm_thrown (hR := ⟨Nat.le_of_ble_eq_true rfl, Nat.le_of_ble_eq_true rfl⟩) rfl rfl (Nat.le_of_ble_eq_true rfl) dL_law_613 hf (fun b9 σ10 => ?_)
      refine g_iload C 1 dL_law_616 rfl ?_
      refine g_icmp_eq (tgt := 623) C dL_law_618 (by decide) (fun h => ?_) (fun h => ?_)
      · refine g_iload C 1 dL_law_623 rfl ?_
        refine g_if_ne (tgt := 647) C dL_law_625 (by decide) (fun h => ?_) (fun h => ?_)
        · refine g_aload_n C 3 dL_law_628 rfl rfl ?_
          refine g_iconst (v := (0 : Int32)) C dL_law_629 (by decide) ?_
          refine g_lald (o := 31) C rfl rfl dL_law_630 ?_
          refine g_iload C 0 dL_law_631 rfl ?_
          refine g_if_eq (tgt := 640) C dL_law_633 (by decide) (fun h => ?_) (fun h => ?_)
          · refine g_lconst C (0 : Int32) dL_law_640 (by decide) ?_
            refine g_lcmpeq (x := (σ10 31 0)) (y := (0 : Int32)) (tgt := 647) C dL_law_641 dL_law_642 (by decide) (fun h => ?_) (fun h => ?_)
            · refine g_goto (tgt := 1408) C dL_law_647 (by decide) ?_
              refine g_loc [2, 3, 4, 5, 6] rfl ?_
              exact g_end K
            · exact g_bad
          · refine g_lconst C (1 : Int32) dL_law_636 (by decide) ?_
            refine g_goto (tgt := 641) C dL_law_637 (by decide) ?_
            refine g_lcmpeq (x := (σ10 31 0)) (y := (1 : Int32)) (tgt := 647) C dL_law_641 dL_law_642 (by decide) (fun h => ?_) (fun h => ?_)
            · refine g_goto (tgt := 1408) C dL_law_647 (by decide) ?_
              refine g_loc [2, 3, 4, 5, 6] rfl ?_
              exact g_end K
            · exact g_bad
        · refine g_goto (tgt := 1408) C dL_law_647 (by decide) ?_
          refine g_loc [2, 3, 4, 5, 6] rfl ?_
          exact g_end K
      · exact g_bad
  · refine g_iconst (v := (1 : Int32)) C dL_law_575 (by decide) ?_
    refine g_goto (tgt := 580) C dL_law_576 (by decide) ?_
    refine g_aload_n C 1 dL_law_580 rfl rfl ?_
    refine g_callH (As := [.ref (ad 0), .int (xs (i + 1)), .int (1 : Int32), .ref (ad 31)]) (n := 4) C (c_Law_net l hl D cI cJ ad (xs (i + 1)) (1 : Int32)) ⟨rfl, rfl⟩ lwh_net (hR := ⟨Nat.le_of_ble_eq_true rfl, Nat.le_of_ble_eq_true rfl⟩) rfl rfl (Nat.le_of_ble_eq_true rfl) dL_law_581 hf (fun k11 σ12 => ?_)
    refine g_istore (L' := [(5, .int k11), (4, .int (nI i)), (3, .ref (ad 31)), (2, .ref (ad 28)), (1, .ref (ad 0)), (0, .ref b)]) C dL_law_584 (by decide) rfl ?_
    refine g_aload_n C 3 dL_law_586 rfl rfl ?_
    refine g_aload_n C 5 dL_law_587 rfl rfl ?_
    refine g_iload C 1 dL_law_588 rfl ?_
    refine g_iconst (v := (1 : Int32)) C dL_law_590 (by decide) ?_
    refine g_iadd C dL_law_591 ?_
    refine g_sld C hX0 hbl hbA (i + 1) (gsi 1 rfl (by omega) hL) dL_law_592 ?_
    refine g_aload_n C 5 dL_law_593 rfl rfl ?_
    refine g_iload C 1 dL_law_594 rfl ?_
    refine g_iconst (v := (2 : Int32)) C dL_law_596 (by decide) ?_
    refine g_iadd C dL_law_597 ?_
    refine g_sld C hX0 hbl hbA (i + 2) (gsi 2 rfl (by omega) hL) dL_law_598 ?_
    refine g_if_eq (tgt := 606) C dL_law_599 (by decide) (fun h => ?_) (fun h => ?_)
    · refine g_iconst (v := (0 : Int32)) C dL_law_606 (by decide) ?_
      refine g_callvi (As := [.int (xs (i + 1)), .int (0 : Int32)]) (n := 2) C (c_Model_net l hl D cI cJ ad (xs (i + 1)) (0 : Int32)) ⟨rfl, rfl⟩ gcl6 rfl lwm_net (hR := ⟨Nat.le_of_ble_eq_true rfl, Nat.le_of_ble_eq_true rfl⟩) rfl rfl (Nat.le_of_ble_eq_true rfl) dL_law_607 hf (fun b13 σ14 => ?_)
      refine g_istore (L' := [(6, .int b13), (5, .int k11), (4, .int (nI i)), (3, .ref (ad 31)), (2, .ref (ad 28)), (1, .ref (ad 0)), (0, .ref b)]) C dL_law_610 (by decide) rfl ?_
      refine g_aload_n C 4 dL_law_612 rfl rfl ?_
      refine g_callvi (As := []) (n := 0) C (c_Model_thrown l hl D cI cJ ad) ⟨rfl, rfl⟩ gcl6 rfl lwm_thrown (hR := ⟨Nat.le_of_ble_eq_true rfl, Nat.le_of_ble_eq_true rfl⟩) rfl rfl (Nat.le_of_ble_eq_true rfl) dL_law_613 hf (fun b15 σ16 => ?_)
      refine g_iload C 1 dL_law_616 rfl ?_
      refine g_icmp_eq (tgt := 623) C dL_law_618 (by decide) (fun h => ?_) (fun h => ?_)
      · refine g_iload C 1 dL_law_623 rfl ?_
        refine g_if_ne (tgt := 647) C dL_law_625 (by decide) (fun h => ?_) (fun h => ?_)
        · refine g_aload_n C 3 dL_law_628 rfl rfl ?_
          refine g_iconst (v := (0 : Int32)) C dL_law_629 (by decide) ?_
          refine g_lald (o := 31) C rfl rfl dL_law_630 ?_
          refine g_iload C 0 dL_law_631 rfl ?_
          refine g_if_eq (tgt := 640) C dL_law_633 (by decide) (fun h => ?_) (fun h => ?_)
          · refine g_lconst C (0 : Int32) dL_law_640 (by decide) ?_
            refine g_lcmpeq (x := (σ16 31 0)) (y := (0 : Int32)) (tgt := 647) C dL_law_641 dL_law_642 (by decide) (fun h => ?_) (fun h => ?_)
            · refine g_goto (tgt := 1408) C dL_law_647 (by decide) ?_
              refine g_loc [2, 3, 4, 5, 6] rfl ?_
              exact g_end K
            · exact g_bad
          · refine g_lconst C (1 : Int32) dL_law_636 (by decide) ?_
            refine g_goto (tgt := 641) C dL_law_637 (by decide) ?_
            refine g_lcmpeq (x := (σ16 31 0)) (y := (1 : Int32)) (tgt := 647) C dL_law_641 dL_law_642 (by decide) (fun h => ?_) (fun h => ?_)
            · refine g_goto (tgt := 1408) C dL_law_647 (by decide) ?_
              refine g_loc [2, 3, 4, 5, 6] rfl ?_
              exact g_end K
            · exact g_bad
        · refine g_goto (tgt := 1408) C dL_law_647 (by decide) ?_
          refine g_loc [2, 3, 4, 5, 6] rfl ?_
          exact g_end K
      · exact g_bad
    · refine g_iconst (v := (1 : Int32)) C dL_law_602 (by decide) ?_
      refine g_goto (tgt := 607) C dL_law_603 (by decide) ?_
      refine g_callvi (As := [.int (xs (i + 1)), .int (1 : Int32)]) (n := 2) C (c_Model_net l hl D cI cJ ad (xs (i + 1)) (1 : Int32)) ⟨rfl, rfl⟩ gcl6 rfl lwm_net (hR := ⟨Nat.le_of_ble_eq_true rfl, Nat.le_of_ble_eq_true rfl⟩) rfl rfl (Nat.le_of_ble_eq_true rfl) dL_law_607 hf (fun b17 σ18 => ?_)
      refine g_istore (L' := [(6, .int b17), (5, .int k11), (4, .int (nI i)), (3, .ref (ad 31)), (2, .ref (ad 28)), (1, .ref (ad 0)), (0, .ref b)]) C dL_law_610 (by decide) rfl ?_
      refine g_aload_n C 4 dL_law_612 rfl rfl ?_
      refine g_callvi (As := []) (n := 0) C (c_Model_thrown l hl D cI cJ ad) ⟨rfl, rfl⟩ gcl6 rfl lwm_thrown (hR := ⟨Nat.le_of_ble_eq_true rfl, Nat.le_of_ble_eq_true rfl⟩) rfl rfl (Nat.le_of_ble_eq_true rfl) dL_law_613 hf (fun b19 σ20 => ?_)
      refine g_iload C 1 dL_law_616 rfl ?_
      refine g_icmp_eq (tgt := 623) C dL_law_618 (by decide) (fun h => ?_) (fun h => ?_)
      · refine g_iload C 1 dL_law_623 rfl ?_
        refine g_if_ne (tgt := 647) C dL_law_625 (by decide) (fun h => ?_) (fun h => ?_)
        · refine g_aload_n C 3 dL_law_628 rfl rfl ?_
          refine g_iconst (v := (0 : Int32)) C dL_law_629 (by decide) ?_
          refine g_lald (o := 31) C rfl rfl dL_law_630 ?_
          refine g_iload C 0 dL_law_631 rfl ?_
          refine g_if_eq (tgt := 640) C dL_law_633 (by decide) (fun h => ?_) (fun h => ?_)
          · refine g_lconst C (0 : Int32) dL_law_640 (by decide) ?_
            refine g_lcmpeq (x := (σ20 31 0)) (y := (0 : Int32)) (tgt := 647) C dL_law_641 dL_law_642 (by decide) (fun h => ?_) (fun h => ?_)
            · refine g_goto (tgt := 1408) C dL_law_647 (by decide) ?_
              refine g_loc [2, 3, 4, 5, 6] rfl ?_
              exact g_end K
            · exact g_bad
          · refine g_lconst C (1 : Int32) dL_law_636 (by decide) ?_
            refine g_goto (tgt := 641) C dL_law_637 (by decide) ?_
            refine g_lcmpeq (x := (σ20 31 0)) (y := (1 : Int32)) (tgt := 647) C dL_law_641 dL_law_642 (by decide) (fun h => ?_) (fun h => ?_)
            · refine g_goto (tgt := 1408) C dL_law_647 (by decide) ?_
              refine g_loc [2, 3, 4, 5, 6] rfl ?_
              exact g_end K
            · exact g_bad
        · refine g_goto (tgt := 1408) C dL_law_647 (by decide) ?_
          refine g_loc [2, 3, 4, 5, 6] rfl ?_
          exact g_end K
      · exact g_bad

def F_case_find  (σ : gSt) : Option (Int32 × gSt) := gbi (F_Law_find σ) fun k1 σ2 => gbi (F_Model_find σ2) fun b3 σ4 => gbi (F_Model_thrown σ4) fun b5 σ6 => if b5 = k1 then (if k1 = (0 : Int32) then (if (σ6 31 0) = b3 then (some ((1 : Int32), σ6)) else (some ((0 : Int32), σ6))) else (some ((1 : Int32), σ6))) else (some ((0 : Int32), σ6))

set_option maxHeartbeats 4000000 in
set_option maxRecDepth 100000 in
theorem law_find {p : Program} {l : Launch} {e : Env} {s : State} {m : MethodId} {args : Array Value} {below : List Frame} {meth : Method} {c : Code} {D : va_G} {cI cJ : ClassId} {ad : Nat → Nat} {A : Nat → Prop} {b Ln : Nat} {xs : Nat → Int32} {cells slots : Nat} {Q : State → Prop} (hl : l.stackTraces = false) (C : gC p s m args meth c D cI cJ ad A cL_law 7 RL) (hX0 : va_X b Ln xs s s.heap) (hbl : b < s.heap.size) (hbA : ¬ A b) (hL : Ln ≤ 2560) (hf0 : cells + 1 ≤ room_1.cells ∧ slots + 6 ≤ room_1.slots) (i : Nat) (hi : i + 5 ≤ Ln) (σ σ' : gSt) (K : gG p l e room_1 s m args below meth c D cI cJ ad A 7 (cells + 1) (slots + 6) Q σ' 1408 [(4, .int (nI i)), (3, .ref (ad 31)), (2, .ref (ad 28)), (1, .ref (ad 0)), (0, .ref b)] []) : gX (F_case_find σ) ((1 : Int32), σ') (gG p l e room_1 s m args below meth c D cI cJ ad A 7 cells slots Q σ 650 [(4, .int (nI i)), (3, .ref (ad 31)), (2, .ref (ad 28)), (1, .ref (ad 0)), (0, .ref b)] []) := by
  have hf := hf0
  unfold F_case_find
  refine g_aload_n C 3 dL_law_650 rfl rfl ?_
  refine g_aload_n C 1 dL_law_651 rfl rfl ?_
  refine g_callH (As := [.ref (ad 0), .ref (ad 31)]) (n := 2) C (c_Law_find l hl D cI cJ ad) ⟨rfl, rfl⟩ lwh_find (hR := ⟨Nat.le_of_ble_eq_true rfl, Nat.le_of_ble_eq_true rfl⟩) rfl rfl (Nat.le_of_ble_eq_true rfl) dL_law_652 hf (fun k1 σ2 => ?_)
  refine g_istore (L' := [(5, .int k1), (4, .int (nI i)), (3, .ref (ad 31)), (2, .ref (ad 28)), (1, .ref (ad 0)), (0, .ref b)]) C dL_law_655 (by decide) rfl ?_
  refine g_aload_n C 3 dL_law_657 rfl rfl ?_
  refine g_callvi (As := []) (n := 0) C (c_Model_find l hl D cI cJ ad) ⟨rfl, rfl⟩ gcl6 rfl lwm_find (hR := ⟨Nat.le_of_ble_eq_true rfl, Nat.le_of_ble_eq_true rfl⟩) rfl rfl (Nat.le_of_ble_eq_true rfl) dL_law_658 hf (fun b3 σ4 => ?_)
  refine g_istore (L' := [(6, .int b3), (5, .int k1), (4, .int (nI i)), (3, .ref (ad 31)), (2, .ref (ad 28)), (1, .ref (ad 0)), (0, .ref b)]) C dL_law_661 (by decide) rfl ?_
  refine g_aload_n C 4 dL_law_663 rfl rfl ?_
  refine g_callvi (As := []) (n := 0) C (c_Model_thrown l hl D cI cJ ad) ⟨rfl, rfl⟩ gcl6 rfl lwm_thrown (hR := ⟨Nat.le_of_ble_eq_true rfl, Nat.le_of_ble_eq_true rfl⟩) rfl rfl (Nat.le_of_ble_eq_true rfl) dL_law_664 hf (fun b5 σ6 => ?_)
  refine g_iload C 1 dL_law_667 rfl ?_
  refine g_icmp_eq (tgt := 674) C dL_law_669 (by decide) (fun h => ?_) (fun h => ?_)
  · refine g_iload C 1 dL_law_674 rfl ?_
    refine g_if_ne (tgt := 691) C dL_law_676 (by decide) (fun h => ?_) (fun h => ?_)
    · refine g_aload_n C 3 dL_law_679 rfl rfl ?_
      refine g_iconst (v := (0 : Int32)) C dL_law_680 (by decide) ?_
      refine g_lald (o := 31) C rfl rfl dL_law_681 ?_
      refine g_iload C 0 dL_law_682 rfl ?_
      refine g_i2l C dL_law_684 ?_
      refine g_lcmpeq (x := (σ6 31 0)) (y := b3) (tgt := 691) C dL_law_685 dL_law_686 (by decide) (fun h => ?_) (fun h => ?_)
      · refine g_goto (tgt := 1408) C dL_law_691 (by decide) ?_
        refine g_loc [2, 3, 4, 5, 6] rfl ?_
        exact g_end K
      · exact g_bad
    · refine g_goto (tgt := 1408) C dL_law_691 (by decide) ?_
      refine g_loc [2, 3, 4, 5, 6] rfl ?_
      exact g_end K
  · exact g_bad

def F_case_exchange (v1 : Int32) (v2 : Int32) (σ : gSt) : Option (Int32 × gSt) := gbi (F_Law_exchange v1 v2 σ) fun k1 σ2 => gbi (F_Model_exchange v1 v2 σ2) fun b3 σ4 => gbi (F_Model_thrown σ4) fun b5 σ6 => if b5 = k1 then (if k1 = (0 : Int32) then (if b3 = (0 : Int32) then (if (σ6 31 0) = (0 : Int32) then (some ((1 : Int32), σ6)) else (some ((0 : Int32), σ6))) else (if (σ6 31 0) = (1 : Int32) then (some ((1 : Int32), σ6)) else (some ((0 : Int32), σ6)))) else (some ((1 : Int32), σ6))) else (some ((0 : Int32), σ6))

set_option maxHeartbeats 4000000 in
set_option maxRecDepth 100000 in
theorem law_exchange {p : Program} {l : Launch} {e : Env} {s : State} {m : MethodId} {args : Array Value} {below : List Frame} {meth : Method} {c : Code} {D : va_G} {cI cJ : ClassId} {ad : Nat → Nat} {A : Nat → Prop} {b Ln : Nat} {xs : Nat → Int32} {cells slots : Nat} {Q : State → Prop} (hl : l.stackTraces = false) (C : gC p s m args meth c D cI cJ ad A cL_law 7 RL) (hX0 : va_X b Ln xs s s.heap) (hbl : b < s.heap.size) (hbA : ¬ A b) (hL : Ln ≤ 2560) (hf0 : cells + 1 ≤ room_1.cells ∧ slots + 6 ≤ room_1.slots) (i : Nat) (hi : i + 5 ≤ Ln) (σ σ' : gSt) (K : gG p l e room_1 s m args below meth c D cI cJ ad A 7 (cells + 1) (slots + 6) Q σ' 1408 [(4, .int (nI i)), (3, .ref (ad 31)), (2, .ref (ad 28)), (1, .ref (ad 0)), (0, .ref b)] []) : gX (F_case_exchange (xs (i + 1)) (xs (i + 2)) σ) ((1 : Int32), σ') (gG p l e room_1 s m args below meth c D cI cJ ad A 7 cells slots Q σ 694 [(4, .int (nI i)), (3, .ref (ad 31)), (2, .ref (ad 28)), (1, .ref (ad 0)), (0, .ref b)] []) := by
  have hf := hf0
  unfold F_case_exchange
  refine g_aload_n C 3 dL_law_694 rfl rfl ?_
  refine g_aload_n C 4 dL_law_695 rfl rfl ?_
  refine g_iload C 0 dL_law_696 rfl ?_
  refine g_iconst (v := (1 : Int32)) C dL_law_698 (by decide) ?_
  refine g_iadd C dL_law_699 ?_
  refine g_sld C hX0 hbl hbA (i + 1) (gsi 1 rfl (by omega) hL) dL_law_700 ?_
  refine g_aload_n C 4 dL_law_701 rfl rfl ?_
  refine g_iload C 0 dL_law_702 rfl ?_
  refine g_iconst (v := (2 : Int32)) C dL_law_704 (by decide) ?_
  refine g_iadd C dL_law_705 ?_
  refine g_sld C hX0 hbl hbA (i + 2) (gsi 2 rfl (by omega) hL) dL_law_706 ?_
  refine g_aload_n C 1 dL_law_707 rfl rfl ?_
  refine g_callH (As := [.ref (ad 0), .int (xs (i + 1)), .int (xs (i + 2)), .ref (ad 31)]) (n := 4) C (c_Law_exchange l hl D cI cJ ad (xs (i + 1)) (xs (i + 2))) ⟨rfl, rfl⟩ lwh_exchange (hR := ⟨Nat.le_of_ble_eq_true rfl, Nat.le_of_ble_eq_true rfl⟩) rfl rfl (Nat.le_of_ble_eq_true rfl) dL_law_708 hf (fun k1 σ2 => ?_)
  refine g_istore (L' := [(5, .int k1), (4, .int (nI i)), (3, .ref (ad 31)), (2, .ref (ad 28)), (1, .ref (ad 0)), (0, .ref b)]) C dL_law_711 (by decide) rfl ?_
  refine g_aload_n C 3 dL_law_713 rfl rfl ?_
  refine g_aload_n C 5 dL_law_714 rfl rfl ?_
  refine g_iload C 1 dL_law_715 rfl ?_
  refine g_iconst (v := (1 : Int32)) C dL_law_717 (by decide) ?_
  refine g_iadd C dL_law_718 ?_
  refine g_sld C hX0 hbl hbA (i + 1) (gsi 1 rfl (by omega) hL) dL_law_719 ?_
  refine g_aload_n C 5 dL_law_720 rfl rfl ?_
  refine g_iload C 1 dL_law_721 rfl ?_
  refine g_iconst (v := (2 : Int32)) C dL_law_723 (by decide) ?_
  refine g_iadd C dL_law_724 ?_
  refine g_sld C hX0 hbl hbA (i + 2) (gsi 2 rfl (by omega) hL) dL_law_725 ?_
  refine g_callvi (As := [.int (xs (i + 1)), .int (xs (i + 2))]) (n := 2) C (c_Model_exchange l hl D cI cJ ad (xs (i + 1)) (xs (i + 2))) ⟨rfl, rfl⟩ gcl6 rfl lwm_exchange (hR := ⟨Nat.le_of_ble_eq_true rfl, Nat.le_of_ble_eq_true rfl⟩) rfl rfl (Nat.le_of_ble_eq_true rfl) dL_law_726 hf (fun b3 σ4 => ?_)
  refine g_istore (L' := [(6, .int b3), (5, .int k1), (4, .int (nI i)), (3, .ref (ad 31)), (2, .ref (ad 28)), (1, .ref (ad 0)), (0, .ref b)]) C dL_law_729 (by decide) rfl ?_
  refine g_aload_n C 4 dL_law_731 rfl rfl ?_
  refine g_callvi (As := []) (n := 0) C (c_Model_thrown l hl D cI cJ ad) ⟨rfl, rfl⟩ gcl6 rfl lwm_thrown (hR := ⟨Nat.le_of_ble_eq_true rfl, Nat.le_of_ble_eq_true rfl⟩) rfl rfl (Nat.le_of_ble_eq_true rfl) dL_law_732 hf (fun b5 σ6 => ?_)
  refine g_iload C 1 dL_law_735 rfl ?_
  refine g_icmp_eq (tgt := 742) C dL_law_737 (by decide) (fun h => ?_) (fun h => ?_)
  · refine g_iload C 1 dL_law_742 rfl ?_
    refine g_if_ne (tgt := 766) C dL_law_744 (by decide) (fun h => ?_) (fun h => ?_)
    · refine g_aload_n C 3 dL_law_747 rfl rfl ?_
      refine g_iconst (v := (0 : Int32)) C dL_law_748 (by decide) ?_
      refine g_lald (o := 31) C rfl rfl dL_law_749 ?_
      refine g_iload C 0 dL_law_750 rfl ?_
      refine g_if_eq (tgt := 759) C dL_law_752 (by decide) (fun h => ?_) (fun h => ?_)
      · refine g_lconst C (0 : Int32) dL_law_759 (by decide) ?_
        refine g_lcmpeq (x := (σ6 31 0)) (y := (0 : Int32)) (tgt := 766) C dL_law_760 dL_law_761 (by decide) (fun h => ?_) (fun h => ?_)
        · refine g_goto (tgt := 1408) C dL_law_766 (by decide) ?_
          refine g_loc [2, 3, 4, 5, 6] rfl ?_
          exact g_end K
        · exact g_bad
      · refine g_lconst C (1 : Int32) dL_law_755 (by decide) ?_
        refine g_goto (tgt := 760) C dL_law_756 (by decide) ?_
        refine g_lcmpeq (x := (σ6 31 0)) (y := (1 : Int32)) (tgt := 766) C dL_law_760 dL_law_761 (by decide) (fun h => ?_) (fun h => ?_)
        · refine g_goto (tgt := 1408) C dL_law_766 (by decide) ?_
          refine g_loc [2, 3, 4, 5, 6] rfl ?_
          exact g_end K
        · exact g_bad
    · refine g_goto (tgt := 1408) C dL_law_766 (by decide) ?_
      refine g_loc [2, 3, 4, 5, 6] rfl ?_
      exact g_end K
  · exact g_bad

def F_case_substitute (v1 : Int32) (v2 : Int32) (v3 : Int32) (σ : gSt) : Option (Int32 × gSt) := gbi (F_Law_substitute v1 v2 v3 σ) fun k1 σ2 => gbi (F_Model_substitute v1 v2 v3 σ2) fun b3 σ4 => gbi (F_Model_thrown σ4) fun b5 σ6 => if b5 = k1 then (if k1 = (0 : Int32) then (if (σ6 31 0) = b3 then (some ((1 : Int32), σ6)) else (some ((0 : Int32), σ6))) else (some ((1 : Int32), σ6))) else (some ((0 : Int32), σ6))

set_option maxHeartbeats 4000000 in
set_option maxRecDepth 100000 in
theorem law_substitute {p : Program} {l : Launch} {e : Env} {s : State} {m : MethodId} {args : Array Value} {below : List Frame} {meth : Method} {c : Code} {D : va_G} {cI cJ : ClassId} {ad : Nat → Nat} {A : Nat → Prop} {b Ln : Nat} {xs : Nat → Int32} {cells slots : Nat} {Q : State → Prop} (hl : l.stackTraces = false) (C : gC p s m args meth c D cI cJ ad A cL_law 7 RL) (hX0 : va_X b Ln xs s s.heap) (hbl : b < s.heap.size) (hbA : ¬ A b) (hL : Ln ≤ 2560) (hf0 : cells + 1 ≤ room_1.cells ∧ slots + 6 ≤ room_1.slots) (i : Nat) (hi : i + 5 ≤ Ln) (σ σ' : gSt) (K : gG p l e room_1 s m args below meth c D cI cJ ad A 7 (cells + 1) (slots + 6) Q σ' 1408 [(4, .int (nI i)), (3, .ref (ad 31)), (2, .ref (ad 28)), (1, .ref (ad 0)), (0, .ref b)] []) : gX (F_case_substitute (xs (i + 1)) (xs (i + 2)) (xs (i + 3)) σ) ((1 : Int32), σ') (gG p l e room_1 s m args below meth c D cI cJ ad A 7 cells slots Q σ 769 [(4, .int (nI i)), (3, .ref (ad 31)), (2, .ref (ad 28)), (1, .ref (ad 0)), (0, .ref b)] []) := by
  have hf := hf0
  unfold F_case_substitute
  refine g_aload_n C 3 dL_law_769 rfl rfl ?_
  refine g_aload_n C 4 dL_law_770 rfl rfl ?_
  refine g_iload C 0 dL_law_771 rfl ?_
  refine g_iconst (v := (1 : Int32)) C dL_law_773 (by decide) ?_
  refine g_iadd C dL_law_774 ?_
  refine g_sld C hX0 hbl hbA (i + 1) (gsi 1 rfl (by omega) hL) dL_law_775 ?_
  refine g_aload_n C 4 dL_law_776 rfl rfl ?_
  refine g_iload C 0 dL_law_777 rfl ?_
  refine g_iconst (v := (2 : Int32)) C dL_law_779 (by decide) ?_
  refine g_iadd C dL_law_780 ?_
  refine g_sld C hX0 hbl hbA (i + 2) (gsi 2 rfl (by omega) hL) dL_law_781 ?_
  refine g_aload_n C 4 dL_law_782 rfl rfl ?_
  refine g_iload C 0 dL_law_783 rfl ?_
  refine g_iconst (v := (3 : Int32)) C dL_law_785 (by decide) ?_
  refine g_iadd C dL_law_786 ?_
  refine g_sld C hX0 hbl hbA (i + 3) (gsi 3 rfl (by omega) hL) dL_law_787 ?_
  refine g_aload_n C 1 dL_law_788 rfl rfl ?_
  refine g_callH (As := [.ref (ad 0), .int (xs (i + 1)), .int (xs (i + 2)), .int (xs (i + 3)), .ref (ad 31)]) (n := 5) C (c_Law_substitute l hl D cI cJ ad (xs (i + 1)) (xs (i + 2)) (xs (i + 3))) ⟨rfl, rfl⟩ lwh_substitute (hR := ⟨Nat.le_of_ble_eq_true rfl, Nat.le_of_ble_eq_true rfl⟩) rfl rfl (Nat.le_of_ble_eq_true rfl) dL_law_789 hf (fun k1 σ2 => ?_)
  refine g_istore (L' := [(5, .int k1), (4, .int (nI i)), (3, .ref (ad 31)), (2, .ref (ad 28)), (1, .ref (ad 0)), (0, .ref b)]) C dL_law_792 (by decide) rfl ?_
  refine g_aload_n C 3 dL_law_794 rfl rfl ?_
  refine g_aload_n C 5 dL_law_795 rfl rfl ?_
  refine g_iload C 1 dL_law_796 rfl ?_
  refine g_iconst (v := (1 : Int32)) C dL_law_798 (by decide) ?_
  refine g_iadd C dL_law_799 ?_
  refine g_sld C hX0 hbl hbA (i + 1) (gsi 1 rfl (by omega) hL) dL_law_800 ?_
  refine g_aload_n C 5 dL_law_801 rfl rfl ?_
  refine g_iload C 1 dL_law_802 rfl ?_
  refine g_iconst (v := (2 : Int32)) C dL_law_804 (by decide) ?_
  refine g_iadd C dL_law_805 ?_
  refine g_sld C hX0 hbl hbA (i + 2) (gsi 2 rfl (by omega) hL) dL_law_806 ?_
  refine g_aload_n C 5 dL_law_807 rfl rfl ?_
  refine g_iload C 1 dL_law_808 rfl ?_
  refine g_iconst (v := (3 : Int32)) C dL_law_810 (by decide) ?_
  refine g_iadd C dL_law_811 ?_
  refine g_sld C hX0 hbl hbA (i + 3) (gsi 3 rfl (by omega) hL) dL_law_812 ?_
  refine g_callvi (As := [.int (xs (i + 1)), .int (xs (i + 2)), .int (xs (i + 3))]) (n := 3) C (c_Model_substitute l hl D cI cJ ad (xs (i + 1)) (xs (i + 2)) (xs (i + 3))) ⟨rfl, rfl⟩ gcl6 rfl lwm_substitute (hR := ⟨Nat.le_of_ble_eq_true rfl, Nat.le_of_ble_eq_true rfl⟩) rfl rfl (Nat.le_of_ble_eq_true rfl) dL_law_813 hf (fun b3 σ4 => ?_)
  refine g_istore (L' := [(6, .int b3), (5, .int k1), (4, .int (nI i)), (3, .ref (ad 31)), (2, .ref (ad 28)), (1, .ref (ad 0)), (0, .ref b)]) C dL_law_816 (by decide) rfl ?_
  refine g_aload_n C 4 dL_law_818 rfl rfl ?_
  refine g_callvi (As := []) (n := 0) C (c_Model_thrown l hl D cI cJ ad) ⟨rfl, rfl⟩ gcl6 rfl lwm_thrown (hR := ⟨Nat.le_of_ble_eq_true rfl, Nat.le_of_ble_eq_true rfl⟩) rfl rfl (Nat.le_of_ble_eq_true rfl) dL_law_819 hf (fun b5 σ6 => ?_)
  refine g_iload C 1 dL_law_822 rfl ?_
  refine g_icmp_eq (tgt := 829) C dL_law_824 (by decide) (fun h => ?_) (fun h => ?_)
  · refine g_iload C 1 dL_law_829 rfl ?_
    refine g_if_ne (tgt := 846) C dL_law_831 (by decide) (fun h => ?_) (fun h => ?_)
    · refine g_aload_n C 3 dL_law_834 rfl rfl ?_
      refine g_iconst (v := (0 : Int32)) C dL_law_835 (by decide) ?_
      refine g_lald (o := 31) C rfl rfl dL_law_836 ?_
      refine g_iload C 0 dL_law_837 rfl ?_
      refine g_i2l C dL_law_839 ?_
      refine g_lcmpeq (x := (σ6 31 0)) (y := b3) (tgt := 846) C dL_law_840 dL_law_841 (by decide) (fun h => ?_) (fun h => ?_)
      · refine g_goto (tgt := 1408) C dL_law_846 (by decide) ?_
        refine g_loc [2, 3, 4, 5, 6] rfl ?_
        exact g_end K
      · exact g_bad
    · refine g_goto (tgt := 1408) C dL_law_846 (by decide) ?_
      refine g_loc [2, 3, 4, 5, 6] rfl ?_
      exact g_end K
  · exact g_bad

def F_case_challenge (v1 : Int32) (σ : gSt) : Option (Int32 × gSt) := gbi (F_Law_challenge v1 σ) fun k1 σ2 => gbi (F_Model_challenge v1 σ2) fun b3 σ4 => gbi (F_Model_thrown σ4) fun b5 σ6 => if b5 = k1 then (if k1 = (0 : Int32) then (if b3 = (0 : Int32) then (if (σ6 31 0) = (0 : Int32) then (some ((1 : Int32), σ6)) else (some ((0 : Int32), σ6))) else (if (σ6 31 0) = (1 : Int32) then (some ((1 : Int32), σ6)) else (some ((0 : Int32), σ6)))) else (some ((1 : Int32), σ6))) else (some ((0 : Int32), σ6))

set_option maxHeartbeats 4000000 in
set_option maxRecDepth 100000 in
theorem law_challenge {p : Program} {l : Launch} {e : Env} {s : State} {m : MethodId} {args : Array Value} {below : List Frame} {meth : Method} {c : Code} {D : va_G} {cI cJ : ClassId} {ad : Nat → Nat} {A : Nat → Prop} {b Ln : Nat} {xs : Nat → Int32} {cells slots : Nat} {Q : State → Prop} (hl : l.stackTraces = false) (C : gC p s m args meth c D cI cJ ad A cL_law 7 RL) (hX0 : va_X b Ln xs s s.heap) (hbl : b < s.heap.size) (hbA : ¬ A b) (hL : Ln ≤ 2560) (hf0 : cells + 1 ≤ room_1.cells ∧ slots + 6 ≤ room_1.slots) (i : Nat) (hi : i + 5 ≤ Ln) (σ σ' : gSt) (K : gG p l e room_1 s m args below meth c D cI cJ ad A 7 (cells + 1) (slots + 6) Q σ' 1408 [(4, .int (nI i)), (3, .ref (ad 31)), (2, .ref (ad 28)), (1, .ref (ad 0)), (0, .ref b)] []) : gX (F_case_challenge (xs (i + 1)) σ) ((1 : Int32), σ') (gG p l e room_1 s m args below meth c D cI cJ ad A 7 cells slots Q σ 849 [(4, .int (nI i)), (3, .ref (ad 31)), (2, .ref (ad 28)), (1, .ref (ad 0)), (0, .ref b)] []) := by
  have hf := hf0
  unfold F_case_challenge
  refine g_aload_n C 3 dL_law_849 rfl rfl ?_
  refine g_aload_n C 4 dL_law_850 rfl rfl ?_
  refine g_iload C 0 dL_law_851 rfl ?_
  refine g_iconst (v := (1 : Int32)) C dL_law_853 (by decide) ?_
  refine g_iadd C dL_law_854 ?_
  refine g_sld C hX0 hbl hbA (i + 1) (gsi 1 rfl (by omega) hL) dL_law_855 ?_
  refine g_aload_n C 1 dL_law_856 rfl rfl ?_
  refine g_callH (As := [.ref (ad 0), .int (xs (i + 1)), .ref (ad 31)]) (n := 3) C (c_Law_challenge l hl D cI cJ ad (xs (i + 1))) ⟨rfl, rfl⟩ lwh_challenge (hR := ⟨Nat.le_of_ble_eq_true rfl, Nat.le_of_ble_eq_true rfl⟩) rfl rfl (Nat.le_of_ble_eq_true rfl) dL_law_857 hf (fun k1 σ2 => ?_)
  refine g_istore (L' := [(5, .int k1), (4, .int (nI i)), (3, .ref (ad 31)), (2, .ref (ad 28)), (1, .ref (ad 0)), (0, .ref b)]) C dL_law_860 (by decide) rfl ?_
  refine g_aload_n C 3 dL_law_862 rfl rfl ?_
  refine g_aload_n C 5 dL_law_863 rfl rfl ?_
  refine g_iload C 1 dL_law_864 rfl ?_
  refine g_iconst (v := (1 : Int32)) C dL_law_866 (by decide) ?_
  refine g_iadd C dL_law_867 ?_
  refine g_sld C hX0 hbl hbA (i + 1) (gsi 1 rfl (by omega) hL) dL_law_868 ?_
  refine g_callvi (As := [.int (xs (i + 1))]) (n := 1) C (c_Model_challenge l hl D cI cJ ad (xs (i + 1))) ⟨rfl, rfl⟩ gcl6 rfl lwm_challenge (hR := ⟨Nat.le_of_ble_eq_true rfl, Nat.le_of_ble_eq_true rfl⟩) rfl rfl (Nat.le_of_ble_eq_true rfl) dL_law_869 hf (fun b3 σ4 => ?_)
  refine g_istore (L' := [(6, .int b3), (5, .int k1), (4, .int (nI i)), (3, .ref (ad 31)), (2, .ref (ad 28)), (1, .ref (ad 0)), (0, .ref b)]) C dL_law_872 (by decide) rfl ?_
  refine g_aload_n C 4 dL_law_874 rfl rfl ?_
  refine g_callvi (As := []) (n := 0) C (c_Model_thrown l hl D cI cJ ad) ⟨rfl, rfl⟩ gcl6 rfl lwm_thrown (hR := ⟨Nat.le_of_ble_eq_true rfl, Nat.le_of_ble_eq_true rfl⟩) rfl rfl (Nat.le_of_ble_eq_true rfl) dL_law_875 hf (fun b5 σ6 => ?_)
  refine g_iload C 1 dL_law_878 rfl ?_
  refine g_icmp_eq (tgt := 885) C dL_law_880 (by decide) (fun h => ?_) (fun h => ?_)
  · refine g_iload C 1 dL_law_885 rfl ?_
    refine g_if_ne (tgt := 909) C dL_law_887 (by decide) (fun h => ?_) (fun h => ?_)
    · refine g_aload_n C 3 dL_law_890 rfl rfl ?_
      refine g_iconst (v := (0 : Int32)) C dL_law_891 (by decide) ?_
      refine g_lald (o := 31) C rfl rfl dL_law_892 ?_
      refine g_iload C 0 dL_law_893 rfl ?_
      refine g_if_eq (tgt := 902) C dL_law_895 (by decide) (fun h => ?_) (fun h => ?_)
      · refine g_lconst C (0 : Int32) dL_law_902 (by decide) ?_
        refine g_lcmpeq (x := (σ6 31 0)) (y := (0 : Int32)) (tgt := 909) C dL_law_903 dL_law_904 (by decide) (fun h => ?_) (fun h => ?_)
        · refine g_goto (tgt := 1408) C dL_law_909 (by decide) ?_
          refine g_loc [2, 3, 4, 5, 6] rfl ?_
          exact g_end K
        · exact g_bad
      · refine g_lconst C (1 : Int32) dL_law_898 (by decide) ?_
        refine g_goto (tgt := 903) C dL_law_899 (by decide) ?_
        refine g_lcmpeq (x := (σ6 31 0)) (y := (1 : Int32)) (tgt := 909) C dL_law_903 dL_law_904 (by decide) (fun h => ?_) (fun h => ?_)
        · refine g_goto (tgt := 1408) C dL_law_909 (by decide) ?_
          refine g_loc [2, 3, 4, 5, 6] rfl ?_
          exact g_end K
        · exact g_bad
    · refine g_goto (tgt := 1408) C dL_law_909 (by decide) ?_
      refine g_loc [2, 3, 4, 5, 6] rfl ?_
      exact g_end K
  · exact g_bad

def F_case_points (v1 : Int32) (σ : gSt) : Option (Int32 × gSt) := gbi (F_Law_points v1 σ) fun k1 σ2 => gbi (F_Model_points v1 σ2) fun b3 σ4 => gbi (F_Model_thrown σ4) fun b5 σ6 => if b5 = k1 then (if k1 = (0 : Int32) then (if (σ6 31 0) = b3 then (some ((1 : Int32), σ6)) else (some ((0 : Int32), σ6))) else (some ((1 : Int32), σ6))) else (some ((0 : Int32), σ6))

set_option maxHeartbeats 4000000 in
set_option maxRecDepth 100000 in
theorem law_points {p : Program} {l : Launch} {e : Env} {s : State} {m : MethodId} {args : Array Value} {below : List Frame} {meth : Method} {c : Code} {D : va_G} {cI cJ : ClassId} {ad : Nat → Nat} {A : Nat → Prop} {b Ln : Nat} {xs : Nat → Int32} {cells slots : Nat} {Q : State → Prop} (hl : l.stackTraces = false) (C : gC p s m args meth c D cI cJ ad A cL_law 7 RL) (hX0 : va_X b Ln xs s s.heap) (hbl : b < s.heap.size) (hbA : ¬ A b) (hL : Ln ≤ 2560) (hf0 : cells + 1 ≤ room_1.cells ∧ slots + 6 ≤ room_1.slots) (i : Nat) (hi : i + 5 ≤ Ln) (σ σ' : gSt) (K : gG p l e room_1 s m args below meth c D cI cJ ad A 7 (cells + 1) (slots + 6) Q σ' 1408 [(4, .int (nI i)), (3, .ref (ad 31)), (2, .ref (ad 28)), (1, .ref (ad 0)), (0, .ref b)] []) : gX (F_case_points (xs (i + 1)) σ) ((1 : Int32), σ') (gG p l e room_1 s m args below meth c D cI cJ ad A 7 cells slots Q σ 912 [(4, .int (nI i)), (3, .ref (ad 31)), (2, .ref (ad 28)), (1, .ref (ad 0)), (0, .ref b)] []) := by
  have hf := hf0
  unfold F_case_points
  refine g_aload_n C 3 dL_law_912 rfl rfl ?_
  refine g_aload_n C 4 dL_law_913 rfl rfl ?_
  refine g_iload C 0 dL_law_914 rfl ?_
  refine g_iconst (v := (1 : Int32)) C dL_law_916 (by decide) ?_
  refine g_iadd C dL_law_917 ?_
  refine g_sld C hX0 hbl hbA (i + 1) (gsi 1 rfl (by omega) hL) dL_law_918 ?_
  refine g_aload_n C 1 dL_law_919 rfl rfl ?_
  refine g_callH (As := [.ref (ad 0), .int (xs (i + 1)), .ref (ad 31)]) (n := 3) C (c_Law_points l hl D cI cJ ad (xs (i + 1))) ⟨rfl, rfl⟩ lwh_points (hR := ⟨Nat.le_of_ble_eq_true rfl, Nat.le_of_ble_eq_true rfl⟩) rfl rfl (Nat.le_of_ble_eq_true rfl) dL_law_920 hf (fun k1 σ2 => ?_)
  refine g_istore (L' := [(5, .int k1), (4, .int (nI i)), (3, .ref (ad 31)), (2, .ref (ad 28)), (1, .ref (ad 0)), (0, .ref b)]) C dL_law_923 (by decide) rfl ?_
  refine g_aload_n C 3 dL_law_925 rfl rfl ?_
  refine g_aload_n C 5 dL_law_926 rfl rfl ?_
  refine g_iload C 1 dL_law_927 rfl ?_
  refine g_iconst (v := (1 : Int32)) C dL_law_929 (by decide) ?_
  refine g_iadd C dL_law_930 ?_
  refine g_sld C hX0 hbl hbA (i + 1) (gsi 1 rfl (by omega) hL) dL_law_931 ?_
  refine g_callvi (As := [.int (xs (i + 1))]) (n := 1) C (c_Model_points l hl D cI cJ ad (xs (i + 1))) ⟨rfl, rfl⟩ gcl6 rfl lwm_points (hR := ⟨Nat.le_of_ble_eq_true rfl, Nat.le_of_ble_eq_true rfl⟩) rfl rfl (Nat.le_of_ble_eq_true rfl) dL_law_932 hf (fun b3 σ4 => ?_)
  refine g_istore (L' := [(6, .int b3), (5, .int k1), (4, .int (nI i)), (3, .ref (ad 31)), (2, .ref (ad 28)), (1, .ref (ad 0)), (0, .ref b)]) C dL_law_935 (by decide) rfl ?_
  refine g_aload_n C 4 dL_law_937 rfl rfl ?_
  refine g_callvi (As := []) (n := 0) C (c_Model_thrown l hl D cI cJ ad) ⟨rfl, rfl⟩ gcl6 rfl lwm_thrown (hR := ⟨Nat.le_of_ble_eq_true rfl, Nat.le_of_ble_eq_true rfl⟩) rfl rfl (Nat.le_of_ble_eq_true rfl) dL_law_938 hf (fun b5 σ6 => ?_)
  refine g_iload C 1 dL_law_941 rfl ?_
  refine g_icmp_eq (tgt := 948) C dL_law_943 (by decide) (fun h => ?_) (fun h => ?_)
  · refine g_iload C 1 dL_law_948 rfl ?_
    refine g_if_ne (tgt := 965) C dL_law_950 (by decide) (fun h => ?_) (fun h => ?_)
    · refine g_aload_n C 3 dL_law_953 rfl rfl ?_
      refine g_iconst (v := (0 : Int32)) C dL_law_954 (by decide) ?_
      refine g_lald (o := 31) C rfl rfl dL_law_955 ?_
      refine g_iload C 0 dL_law_956 rfl ?_
      refine g_i2l C dL_law_958 ?_
      refine g_lcmpeq (x := (σ6 31 0)) (y := b3) (tgt := 965) C dL_law_959 dL_law_960 (by decide) (fun h => ?_) (fun h => ?_)
      · refine g_goto (tgt := 1408) C dL_law_965 (by decide) ?_
        refine g_loc [2, 3, 4, 5, 6] rfl ?_
        exact g_end K
      · exact g_bad
    · refine g_goto (tgt := 1408) C dL_law_965 (by decide) ?_
      refine g_loc [2, 3, 4, 5, 6] rfl ?_
      exact g_end K
  · exact g_bad

def F_case_pointsAnew (v1 : Int32) (σ : gSt) : Option (Int32 × gSt) := gbi (F_Law_pointsAnew v1 σ) fun k1 σ2 => gbi (F_Model_pointsAnew v1 σ2) fun b3 σ4 => gbi (F_Model_thrown σ4) fun b5 σ6 => if b5 = k1 then (if k1 = (0 : Int32) then (if (σ6 31 0) = b3 then (some ((1 : Int32), σ6)) else (some ((0 : Int32), σ6))) else (some ((1 : Int32), σ6))) else (some ((0 : Int32), σ6))

set_option maxHeartbeats 4000000 in
set_option maxRecDepth 100000 in
theorem law_pointsAnew {p : Program} {l : Launch} {e : Env} {s : State} {m : MethodId} {args : Array Value} {below : List Frame} {meth : Method} {c : Code} {D : va_G} {cI cJ : ClassId} {ad : Nat → Nat} {A : Nat → Prop} {b Ln : Nat} {xs : Nat → Int32} {cells slots : Nat} {Q : State → Prop} (hl : l.stackTraces = false) (C : gC p s m args meth c D cI cJ ad A cL_law 7 RL) (hX0 : va_X b Ln xs s s.heap) (hbl : b < s.heap.size) (hbA : ¬ A b) (hL : Ln ≤ 2560) (hf0 : cells + 1 ≤ room_1.cells ∧ slots + 6 ≤ room_1.slots) (i : Nat) (hi : i + 5 ≤ Ln) (σ σ' : gSt) (K : gG p l e room_1 s m args below meth c D cI cJ ad A 7 (cells + 1) (slots + 6) Q σ' 1408 [(4, .int (nI i)), (3, .ref (ad 31)), (2, .ref (ad 28)), (1, .ref (ad 0)), (0, .ref b)] []) : gX (F_case_pointsAnew (xs (i + 1)) σ) ((1 : Int32), σ') (gG p l e room_1 s m args below meth c D cI cJ ad A 7 cells slots Q σ 968 [(4, .int (nI i)), (3, .ref (ad 31)), (2, .ref (ad 28)), (1, .ref (ad 0)), (0, .ref b)] []) := by
  have hf := hf0
  unfold F_case_pointsAnew
  refine g_aload_n C 3 dL_law_968 rfl rfl ?_
  refine g_aload_n C 4 dL_law_969 rfl rfl ?_
  refine g_iload C 0 dL_law_970 rfl ?_
  refine g_iconst (v := (1 : Int32)) C dL_law_972 (by decide) ?_
  refine g_iadd C dL_law_973 ?_
  refine g_sld C hX0 hbl hbA (i + 1) (gsi 1 rfl (by omega) hL) dL_law_974 ?_
  refine g_aload_n C 1 dL_law_975 rfl rfl ?_
  refine g_callH (As := [.ref (ad 0), .int (xs (i + 1)), .ref (ad 31)]) (n := 3) C (c_Law_pointsAnew l hl D cI cJ ad (xs (i + 1))) ⟨rfl, rfl⟩ lwh_pointsAnew (hR := ⟨Nat.le_of_ble_eq_true rfl, Nat.le_of_ble_eq_true rfl⟩) rfl rfl (Nat.le_of_ble_eq_true rfl) dL_law_976 hf (fun k1 σ2 => ?_)
  refine g_istore (L' := [(5, .int k1), (4, .int (nI i)), (3, .ref (ad 31)), (2, .ref (ad 28)), (1, .ref (ad 0)), (0, .ref b)]) C dL_law_979 (by decide) rfl ?_
  refine g_aload_n C 3 dL_law_981 rfl rfl ?_
  refine g_aload_n C 5 dL_law_982 rfl rfl ?_
  refine g_iload C 1 dL_law_983 rfl ?_
  refine g_iconst (v := (1 : Int32)) C dL_law_985 (by decide) ?_
  refine g_iadd C dL_law_986 ?_
  refine g_sld C hX0 hbl hbA (i + 1) (gsi 1 rfl (by omega) hL) dL_law_987 ?_
  refine g_callvi (As := [.int (xs (i + 1))]) (n := 1) C (c_Model_pointsAnew l hl D cI cJ ad (xs (i + 1))) ⟨rfl, rfl⟩ gcl6 rfl lwm_pointsAnew (hR := ⟨Nat.le_of_ble_eq_true rfl, Nat.le_of_ble_eq_true rfl⟩) rfl rfl (Nat.le_of_ble_eq_true rfl) dL_law_988 hf (fun b3 σ4 => ?_)
  refine g_istore (L' := [(6, .int b3), (5, .int k1), (4, .int (nI i)), (3, .ref (ad 31)), (2, .ref (ad 28)), (1, .ref (ad 0)), (0, .ref b)]) C dL_law_991 (by decide) rfl ?_
  refine g_aload_n C 4 dL_law_993 rfl rfl ?_
  refine g_callvi (As := []) (n := 0) C (c_Model_thrown l hl D cI cJ ad) ⟨rfl, rfl⟩ gcl6 rfl lwm_thrown (hR := ⟨Nat.le_of_ble_eq_true rfl, Nat.le_of_ble_eq_true rfl⟩) rfl rfl (Nat.le_of_ble_eq_true rfl) dL_law_994 hf (fun b5 σ6 => ?_)
  refine g_iload C 1 dL_law_997 rfl ?_
  refine g_icmp_eq (tgt := 1004) C dL_law_999 (by decide) (fun h => ?_) (fun h => ?_)
  · refine g_iload C 1 dL_law_1004 rfl ?_
    refine g_if_ne (tgt := 1021) C dL_law_1006 (by decide) (fun h => ?_) (fun h => ?_)
    · refine g_aload_n C 3 dL_law_1009 rfl rfl ?_
      refine g_iconst (v := (0 : Int32)) C dL_law_1010 (by decide) ?_
      refine g_lald (o := 31) C rfl rfl dL_law_1011 ?_
      refine g_iload C 0 dL_law_1012 rfl ?_
      refine g_i2l C dL_law_1014 ?_
      refine g_lcmpeq (x := (σ6 31 0)) (y := b3) (tgt := 1021) C dL_law_1015 dL_law_1016 (by decide) (fun h => ?_) (fun h => ?_)
      · refine g_goto (tgt := 1408) C dL_law_1021 (by decide) ?_
        refine g_loc [2, 3, 4, 5, 6] rfl ?_
        exact g_end K
      · exact g_bad
    · refine g_goto (tgt := 1408) C dL_law_1021 (by decide) ?_
      refine g_loc [2, 3, 4, 5, 6] rfl ?_
      exact g_end K
  · exact g_bad

def F_case_sets (v1 : Int32) (σ : gSt) : Option (Int32 × gSt) := gbi (F_Law_sets v1 σ) fun k1 σ2 => gbi (F_Model_sets v1 σ2) fun b3 σ4 => gbi (F_Model_thrown σ4) fun b5 σ6 => if b5 = k1 then (if k1 = (0 : Int32) then (if (σ6 31 0) = b3 then (some ((1 : Int32), σ6)) else (some ((0 : Int32), σ6))) else (some ((1 : Int32), σ6))) else (some ((0 : Int32), σ6))

set_option maxHeartbeats 4000000 in
set_option maxRecDepth 100000 in
theorem law_sets {p : Program} {l : Launch} {e : Env} {s : State} {m : MethodId} {args : Array Value} {below : List Frame} {meth : Method} {c : Code} {D : va_G} {cI cJ : ClassId} {ad : Nat → Nat} {A : Nat → Prop} {b Ln : Nat} {xs : Nat → Int32} {cells slots : Nat} {Q : State → Prop} (hl : l.stackTraces = false) (C : gC p s m args meth c D cI cJ ad A cL_law 7 RL) (hX0 : va_X b Ln xs s s.heap) (hbl : b < s.heap.size) (hbA : ¬ A b) (hL : Ln ≤ 2560) (hf0 : cells + 1 ≤ room_1.cells ∧ slots + 6 ≤ room_1.slots) (i : Nat) (hi : i + 5 ≤ Ln) (σ σ' : gSt) (K : gG p l e room_1 s m args below meth c D cI cJ ad A 7 (cells + 1) (slots + 6) Q σ' 1408 [(4, .int (nI i)), (3, .ref (ad 31)), (2, .ref (ad 28)), (1, .ref (ad 0)), (0, .ref b)] []) : gX (F_case_sets (xs (i + 1)) σ) ((1 : Int32), σ') (gG p l e room_1 s m args below meth c D cI cJ ad A 7 cells slots Q σ 1024 [(4, .int (nI i)), (3, .ref (ad 31)), (2, .ref (ad 28)), (1, .ref (ad 0)), (0, .ref b)] []) := by
  have hf := hf0
  unfold F_case_sets
  refine g_aload_n C 3 dL_law_1024 rfl rfl ?_
  refine g_aload_n C 4 dL_law_1025 rfl rfl ?_
  refine g_iload C 0 dL_law_1026 rfl ?_
  refine g_iconst (v := (1 : Int32)) C dL_law_1028 (by decide) ?_
  refine g_iadd C dL_law_1029 ?_
  refine g_sld C hX0 hbl hbA (i + 1) (gsi 1 rfl (by omega) hL) dL_law_1030 ?_
  refine g_aload_n C 1 dL_law_1031 rfl rfl ?_
  refine g_callH (As := [.ref (ad 0), .int (xs (i + 1)), .ref (ad 31)]) (n := 3) C (c_Law_sets l hl D cI cJ ad (xs (i + 1))) ⟨rfl, rfl⟩ lwh_sets (hR := ⟨Nat.le_of_ble_eq_true rfl, Nat.le_of_ble_eq_true rfl⟩) rfl rfl (Nat.le_of_ble_eq_true rfl) dL_law_1032 hf (fun k1 σ2 => ?_)
  refine g_istore (L' := [(5, .int k1), (4, .int (nI i)), (3, .ref (ad 31)), (2, .ref (ad 28)), (1, .ref (ad 0)), (0, .ref b)]) C dL_law_1035 (by decide) rfl ?_
  refine g_aload_n C 3 dL_law_1037 rfl rfl ?_
  refine g_aload_n C 5 dL_law_1038 rfl rfl ?_
  refine g_iload C 1 dL_law_1039 rfl ?_
  refine g_iconst (v := (1 : Int32)) C dL_law_1041 (by decide) ?_
  refine g_iadd C dL_law_1042 ?_
  refine g_sld C hX0 hbl hbA (i + 1) (gsi 1 rfl (by omega) hL) dL_law_1043 ?_
  refine g_callvi (As := [.int (xs (i + 1))]) (n := 1) C (c_Model_sets l hl D cI cJ ad (xs (i + 1))) ⟨rfl, rfl⟩ gcl6 rfl lwm_sets (hR := ⟨Nat.le_of_ble_eq_true rfl, Nat.le_of_ble_eq_true rfl⟩) rfl rfl (Nat.le_of_ble_eq_true rfl) dL_law_1044 hf (fun b3 σ4 => ?_)
  refine g_istore (L' := [(6, .int b3), (5, .int k1), (4, .int (nI i)), (3, .ref (ad 31)), (2, .ref (ad 28)), (1, .ref (ad 0)), (0, .ref b)]) C dL_law_1047 (by decide) rfl ?_
  refine g_aload_n C 4 dL_law_1049 rfl rfl ?_
  refine g_callvi (As := []) (n := 0) C (c_Model_thrown l hl D cI cJ ad) ⟨rfl, rfl⟩ gcl6 rfl lwm_thrown (hR := ⟨Nat.le_of_ble_eq_true rfl, Nat.le_of_ble_eq_true rfl⟩) rfl rfl (Nat.le_of_ble_eq_true rfl) dL_law_1050 hf (fun b5 σ6 => ?_)
  refine g_iload C 1 dL_law_1053 rfl ?_
  refine g_icmp_eq (tgt := 1060) C dL_law_1055 (by decide) (fun h => ?_) (fun h => ?_)
  · refine g_iload C 1 dL_law_1060 rfl ?_
    refine g_if_ne (tgt := 1077) C dL_law_1062 (by decide) (fun h => ?_) (fun h => ?_)
    · refine g_aload_n C 3 dL_law_1065 rfl rfl ?_
      refine g_iconst (v := (0 : Int32)) C dL_law_1066 (by decide) ?_
      refine g_lald (o := 31) C rfl rfl dL_law_1067 ?_
      refine g_iload C 0 dL_law_1068 rfl ?_
      refine g_i2l C dL_law_1070 ?_
      refine g_lcmpeq (x := (σ6 31 0)) (y := b3) (tgt := 1077) C dL_law_1071 dL_law_1072 (by decide) (fun h => ?_) (fun h => ?_)
      · refine g_goto (tgt := 1408) C dL_law_1077 (by decide) ?_
        refine g_loc [2, 3, 4, 5, 6] rfl ?_
        exact g_end K
      · exact g_bad
    · refine g_goto (tgt := 1408) C dL_law_1077 (by decide) ?_
      refine g_loc [2, 3, 4, 5, 6] rfl ?_
      exact g_end K
  · exact g_bad

def F_case_at (v1 : Int32) (v2 : Int32) (σ : gSt) : Option (Int32 × gSt) := gbi (F_Law_at v1 v2 σ) fun k1 σ2 => gbi (F_Model_at v1 v2 σ2) fun b3 σ4 => gbi (F_Model_thrown σ4) fun b5 σ6 => if b5 = k1 then (if k1 = (0 : Int32) then (if (σ6 31 0) = b3 then (some ((1 : Int32), σ6)) else (some ((0 : Int32), σ6))) else (some ((1 : Int32), σ6))) else (some ((0 : Int32), σ6))

set_option maxHeartbeats 4000000 in
set_option maxRecDepth 100000 in
theorem law_at {p : Program} {l : Launch} {e : Env} {s : State} {m : MethodId} {args : Array Value} {below : List Frame} {meth : Method} {c : Code} {D : va_G} {cI cJ : ClassId} {ad : Nat → Nat} {A : Nat → Prop} {b Ln : Nat} {xs : Nat → Int32} {cells slots : Nat} {Q : State → Prop} (hl : l.stackTraces = false) (C : gC p s m args meth c D cI cJ ad A cL_law 7 RL) (hX0 : va_X b Ln xs s s.heap) (hbl : b < s.heap.size) (hbA : ¬ A b) (hL : Ln ≤ 2560) (hf0 : cells + 1 ≤ room_1.cells ∧ slots + 6 ≤ room_1.slots) (i : Nat) (hi : i + 5 ≤ Ln) (σ σ' : gSt) (K : gG p l e room_1 s m args below meth c D cI cJ ad A 7 (cells + 1) (slots + 6) Q σ' 1408 [(4, .int (nI i)), (3, .ref (ad 31)), (2, .ref (ad 28)), (1, .ref (ad 0)), (0, .ref b)] []) : gX (F_case_at (xs (i + 1)) (xs (i + 2)) σ) ((1 : Int32), σ') (gG p l e room_1 s m args below meth c D cI cJ ad A 7 cells slots Q σ 1080 [(4, .int (nI i)), (3, .ref (ad 31)), (2, .ref (ad 28)), (1, .ref (ad 0)), (0, .ref b)] []) := by
  have hf := hf0
  unfold F_case_at
  refine g_aload_n C 3 dL_law_1080 rfl rfl ?_
  refine g_aload_n C 4 dL_law_1081 rfl rfl ?_
  refine g_iload C 0 dL_law_1082 rfl ?_
  refine g_iconst (v := (1 : Int32)) C dL_law_1084 (by decide) ?_
  refine g_iadd C dL_law_1085 ?_
  refine g_sld C hX0 hbl hbA (i + 1) (gsi 1 rfl (by omega) hL) dL_law_1086 ?_
  refine g_aload_n C 4 dL_law_1087 rfl rfl ?_
  refine g_iload C 0 dL_law_1088 rfl ?_
  refine g_iconst (v := (2 : Int32)) C dL_law_1090 (by decide) ?_
  refine g_iadd C dL_law_1091 ?_
  refine g_sld C hX0 hbl hbA (i + 2) (gsi 2 rfl (by omega) hL) dL_law_1092 ?_
  refine g_aload_n C 1 dL_law_1093 rfl rfl ?_
  refine g_callH (As := [.ref (ad 0), .int (xs (i + 1)), .int (xs (i + 2)), .ref (ad 31)]) (n := 4) C (c_Law_at l hl D cI cJ ad (xs (i + 1)) (xs (i + 2))) ⟨rfl, rfl⟩ lwh_at (hR := ⟨Nat.le_of_ble_eq_true rfl, Nat.le_of_ble_eq_true rfl⟩) rfl rfl (Nat.le_of_ble_eq_true rfl) dL_law_1094 hf (fun k1 σ2 => ?_)
  refine g_istore (L' := [(5, .int k1), (4, .int (nI i)), (3, .ref (ad 31)), (2, .ref (ad 28)), (1, .ref (ad 0)), (0, .ref b)]) C dL_law_1097 (by decide) rfl ?_
  refine g_aload_n C 3 dL_law_1099 rfl rfl ?_
  refine g_aload_n C 5 dL_law_1100 rfl rfl ?_
  refine g_iload C 1 dL_law_1101 rfl ?_
  refine g_iconst (v := (1 : Int32)) C dL_law_1103 (by decide) ?_
  refine g_iadd C dL_law_1104 ?_
  refine g_sld C hX0 hbl hbA (i + 1) (gsi 1 rfl (by omega) hL) dL_law_1105 ?_
  refine g_aload_n C 5 dL_law_1106 rfl rfl ?_
  refine g_iload C 1 dL_law_1107 rfl ?_
  refine g_iconst (v := (2 : Int32)) C dL_law_1109 (by decide) ?_
  refine g_iadd C dL_law_1110 ?_
  refine g_sld C hX0 hbl hbA (i + 2) (gsi 2 rfl (by omega) hL) dL_law_1111 ?_
  refine g_callvi (As := [.int (xs (i + 1)), .int (xs (i + 2))]) (n := 2) C (c_Model_at l hl D cI cJ ad (xs (i + 1)) (xs (i + 2))) ⟨rfl, rfl⟩ gcl6 rfl lwm_at (hR := ⟨Nat.le_of_ble_eq_true rfl, Nat.le_of_ble_eq_true rfl⟩) rfl rfl (Nat.le_of_ble_eq_true rfl) dL_law_1112 hf (fun b3 σ4 => ?_)
  refine g_istore (L' := [(6, .int b3), (5, .int k1), (4, .int (nI i)), (3, .ref (ad 31)), (2, .ref (ad 28)), (1, .ref (ad 0)), (0, .ref b)]) C dL_law_1115 (by decide) rfl ?_
  refine g_aload_n C 4 dL_law_1117 rfl rfl ?_
  refine g_callvi (As := []) (n := 0) C (c_Model_thrown l hl D cI cJ ad) ⟨rfl, rfl⟩ gcl6 rfl lwm_thrown (hR := ⟨Nat.le_of_ble_eq_true rfl, Nat.le_of_ble_eq_true rfl⟩) rfl rfl (Nat.le_of_ble_eq_true rfl) dL_law_1118 hf (fun b5 σ6 => ?_)
  refine g_iload C 1 dL_law_1121 rfl ?_
  refine g_icmp_eq (tgt := 1128) C dL_law_1123 (by decide) (fun h => ?_) (fun h => ?_)
  · refine g_iload C 1 dL_law_1128 rfl ?_
    refine g_if_ne (tgt := 1145) C dL_law_1130 (by decide) (fun h => ?_) (fun h => ?_)
    · refine g_aload_n C 3 dL_law_1133 rfl rfl ?_
      refine g_iconst (v := (0 : Int32)) C dL_law_1134 (by decide) ?_
      refine g_lald (o := 31) C rfl rfl dL_law_1135 ?_
      refine g_iload C 0 dL_law_1136 rfl ?_
      refine g_i2l C dL_law_1138 ?_
      refine g_lcmpeq (x := (σ6 31 0)) (y := b3) (tgt := 1145) C dL_law_1139 dL_law_1140 (by decide) (fun h => ?_) (fun h => ?_)
      · refine g_goto (tgt := 1408) C dL_law_1145 (by decide) ?_
        refine g_loc [2, 3, 4, 5, 6] rfl ?_
        exact g_end K
      · exact g_bad
    · refine g_goto (tgt := 1408) C dL_law_1145 (by decide) ?_
      refine g_loc [2, 3, 4, 5, 6] rfl ?_
      exact g_end K
  · exact g_bad

def F_case_atAnew (v1 : Int32) (v2 : Int32) (σ : gSt) : Option (Int32 × gSt) := gbi (F_Law_atAnew v1 v2 σ) fun k1 σ2 => gbi (F_Model_atAnew v1 v2 σ2) fun b3 σ4 => gbi (F_Model_thrown σ4) fun b5 σ6 => if b5 = k1 then (if k1 = (0 : Int32) then (if (σ6 31 0) = b3 then (some ((1 : Int32), σ6)) else (some ((0 : Int32), σ6))) else (some ((1 : Int32), σ6))) else (some ((0 : Int32), σ6))

set_option maxHeartbeats 4000000 in
set_option maxRecDepth 100000 in
theorem law_atAnew {p : Program} {l : Launch} {e : Env} {s : State} {m : MethodId} {args : Array Value} {below : List Frame} {meth : Method} {c : Code} {D : va_G} {cI cJ : ClassId} {ad : Nat → Nat} {A : Nat → Prop} {b Ln : Nat} {xs : Nat → Int32} {cells slots : Nat} {Q : State → Prop} (hl : l.stackTraces = false) (C : gC p s m args meth c D cI cJ ad A cL_law 7 RL) (hX0 : va_X b Ln xs s s.heap) (hbl : b < s.heap.size) (hbA : ¬ A b) (hL : Ln ≤ 2560) (hf0 : cells + 1 ≤ room_1.cells ∧ slots + 6 ≤ room_1.slots) (i : Nat) (hi : i + 5 ≤ Ln) (σ σ' : gSt) (K : gG p l e room_1 s m args below meth c D cI cJ ad A 7 (cells + 1) (slots + 6) Q σ' 1408 [(4, .int (nI i)), (3, .ref (ad 31)), (2, .ref (ad 28)), (1, .ref (ad 0)), (0, .ref b)] []) : gX (F_case_atAnew (xs (i + 1)) (xs (i + 2)) σ) ((1 : Int32), σ') (gG p l e room_1 s m args below meth c D cI cJ ad A 7 cells slots Q σ 1148 [(4, .int (nI i)), (3, .ref (ad 31)), (2, .ref (ad 28)), (1, .ref (ad 0)), (0, .ref b)] []) := by
  have hf := hf0
  unfold F_case_atAnew
  refine g_aload_n C 3 dL_law_1148 rfl rfl ?_
  refine g_aload_n C 4 dL_law_1149 rfl rfl ?_
  refine g_iload C 0 dL_law_1150 rfl ?_
  refine g_iconst (v := (1 : Int32)) C dL_law_1152 (by decide) ?_
  refine g_iadd C dL_law_1153 ?_
  refine g_sld C hX0 hbl hbA (i + 1) (gsi 1 rfl (by omega) hL) dL_law_1154 ?_
  refine g_aload_n C 4 dL_law_1155 rfl rfl ?_
  refine g_iload C 0 dL_law_1156 rfl ?_
  refine g_iconst (v := (2 : Int32)) C dL_law_1158 (by decide) ?_
  refine g_iadd C dL_law_1159 ?_
  refine g_sld C hX0 hbl hbA (i + 2) (gsi 2 rfl (by omega) hL) dL_law_1160 ?_
  refine g_aload_n C 1 dL_law_1161 rfl rfl ?_
  refine g_callH (As := [.ref (ad 0), .int (xs (i + 1)), .int (xs (i + 2)), .ref (ad 31)]) (n := 4) C (c_Law_atAnew l hl D cI cJ ad (xs (i + 1)) (xs (i + 2))) ⟨rfl, rfl⟩ lwh_atAnew (hR := ⟨Nat.le_of_ble_eq_true rfl, Nat.le_of_ble_eq_true rfl⟩) rfl rfl (Nat.le_of_ble_eq_true rfl) dL_law_1162 hf (fun k1 σ2 => ?_)
  refine g_istore (L' := [(5, .int k1), (4, .int (nI i)), (3, .ref (ad 31)), (2, .ref (ad 28)), (1, .ref (ad 0)), (0, .ref b)]) C dL_law_1165 (by decide) rfl ?_
  refine g_aload_n C 3 dL_law_1167 rfl rfl ?_
  refine g_aload_n C 5 dL_law_1168 rfl rfl ?_
  refine g_iload C 1 dL_law_1169 rfl ?_
  refine g_iconst (v := (1 : Int32)) C dL_law_1171 (by decide) ?_
  refine g_iadd C dL_law_1172 ?_
  refine g_sld C hX0 hbl hbA (i + 1) (gsi 1 rfl (by omega) hL) dL_law_1173 ?_
  refine g_aload_n C 5 dL_law_1174 rfl rfl ?_
  refine g_iload C 1 dL_law_1175 rfl ?_
  refine g_iconst (v := (2 : Int32)) C dL_law_1177 (by decide) ?_
  refine g_iadd C dL_law_1178 ?_
  refine g_sld C hX0 hbl hbA (i + 2) (gsi 2 rfl (by omega) hL) dL_law_1179 ?_
  refine g_callvi (As := [.int (xs (i + 1)), .int (xs (i + 2))]) (n := 2) C (c_Model_atAnew l hl D cI cJ ad (xs (i + 1)) (xs (i + 2))) ⟨rfl, rfl⟩ gcl6 rfl lwm_atAnew (hR := ⟨Nat.le_of_ble_eq_true rfl, Nat.le_of_ble_eq_true rfl⟩) rfl rfl (Nat.le_of_ble_eq_true rfl) dL_law_1180 hf (fun b3 σ4 => ?_)
  refine g_istore (L' := [(6, .int b3), (5, .int k1), (4, .int (nI i)), (3, .ref (ad 31)), (2, .ref (ad 28)), (1, .ref (ad 0)), (0, .ref b)]) C dL_law_1183 (by decide) rfl ?_
  refine g_aload_n C 4 dL_law_1185 rfl rfl ?_
  refine g_callvi (As := []) (n := 0) C (c_Model_thrown l hl D cI cJ ad) ⟨rfl, rfl⟩ gcl6 rfl lwm_thrown (hR := ⟨Nat.le_of_ble_eq_true rfl, Nat.le_of_ble_eq_true rfl⟩) rfl rfl (Nat.le_of_ble_eq_true rfl) dL_law_1186 hf (fun b5 σ6 => ?_)
  refine g_iload C 1 dL_law_1189 rfl ?_
  refine g_icmp_eq (tgt := 1196) C dL_law_1191 (by decide) (fun h => ?_) (fun h => ?_)
  · refine g_iload C 1 dL_law_1196 rfl ?_
    refine g_if_ne (tgt := 1213) C dL_law_1198 (by decide) (fun h => ?_) (fun h => ?_)
    · refine g_aload_n C 3 dL_law_1201 rfl rfl ?_
      refine g_iconst (v := (0 : Int32)) C dL_law_1202 (by decide) ?_
      refine g_lald (o := 31) C rfl rfl dL_law_1203 ?_
      refine g_iload C 0 dL_law_1204 rfl ?_
      refine g_i2l C dL_law_1206 ?_
      refine g_lcmpeq (x := (σ6 31 0)) (y := b3) (tgt := 1213) C dL_law_1207 dL_law_1208 (by decide) (fun h => ?_) (fun h => ?_)
      · refine g_goto (tgt := 1408) C dL_law_1213 (by decide) ?_
        refine g_loc [2, 3, 4, 5, 6] rfl ?_
        exact g_end K
      · exact g_bad
    · refine g_goto (tgt := 1408) C dL_law_1213 (by decide) ?_
      refine g_loc [2, 3, 4, 5, 6] rfl ?_
      exact g_end K
  · exact g_bad

def F_case_about (v1 : Int32) (σ : gSt) : Option (Int32 × gSt) := gbi (F_Law_about v1 σ) fun k1 σ2 => gbi (F_Model_about v1 σ2) fun b3 σ4 => gbi (F_Model_thrown σ4) fun b5 σ6 => if b5 = k1 then (if k1 = (0 : Int32) then (if (σ6 31 0) = b3 then (some ((1 : Int32), σ6)) else (some ((0 : Int32), σ6))) else (some ((1 : Int32), σ6))) else (some ((0 : Int32), σ6))

set_option maxHeartbeats 4000000 in
set_option maxRecDepth 100000 in
theorem law_about {p : Program} {l : Launch} {e : Env} {s : State} {m : MethodId} {args : Array Value} {below : List Frame} {meth : Method} {c : Code} {D : va_G} {cI cJ : ClassId} {ad : Nat → Nat} {A : Nat → Prop} {b Ln : Nat} {xs : Nat → Int32} {cells slots : Nat} {Q : State → Prop} (hl : l.stackTraces = false) (C : gC p s m args meth c D cI cJ ad A cL_law 7 RL) (hX0 : va_X b Ln xs s s.heap) (hbl : b < s.heap.size) (hbA : ¬ A b) (hL : Ln ≤ 2560) (hf0 : cells + 1 ≤ room_1.cells ∧ slots + 6 ≤ room_1.slots) (i : Nat) (hi : i + 5 ≤ Ln) (σ σ' : gSt) (K : gG p l e room_1 s m args below meth c D cI cJ ad A 7 (cells + 1) (slots + 6) Q σ' 1408 [(4, .int (nI i)), (3, .ref (ad 31)), (2, .ref (ad 28)), (1, .ref (ad 0)), (0, .ref b)] []) : gX (F_case_about (xs (i + 1)) σ) ((1 : Int32), σ') (gG p l e room_1 s m args below meth c D cI cJ ad A 7 cells slots Q σ 1216 [(4, .int (nI i)), (3, .ref (ad 31)), (2, .ref (ad 28)), (1, .ref (ad 0)), (0, .ref b)] []) := by
  have hf := hf0
  unfold F_case_about
  refine g_aload_n C 3 dL_law_1216 rfl rfl ?_
  refine g_aload_n C 4 dL_law_1217 rfl rfl ?_
  refine g_iload C 0 dL_law_1218 rfl ?_
  refine g_iconst (v := (1 : Int32)) C dL_law_1220 (by decide) ?_
  refine g_iadd C dL_law_1221 ?_
  refine g_sld C hX0 hbl hbA (i + 1) (gsi 1 rfl (by omega) hL) dL_law_1222 ?_
  refine g_aload_n C 1 dL_law_1223 rfl rfl ?_
  refine g_callH (As := [.ref (ad 0), .int (xs (i + 1)), .ref (ad 31)]) (n := 3) C (c_Law_about l hl D cI cJ ad (xs (i + 1))) ⟨rfl, rfl⟩ lwh_about (hR := ⟨Nat.le_of_ble_eq_true rfl, Nat.le_of_ble_eq_true rfl⟩) rfl rfl (Nat.le_of_ble_eq_true rfl) dL_law_1224 hf (fun k1 σ2 => ?_)
  refine g_istore (L' := [(5, .int k1), (4, .int (nI i)), (3, .ref (ad 31)), (2, .ref (ad 28)), (1, .ref (ad 0)), (0, .ref b)]) C dL_law_1227 (by decide) rfl ?_
  refine g_aload_n C 3 dL_law_1229 rfl rfl ?_
  refine g_aload_n C 5 dL_law_1230 rfl rfl ?_
  refine g_iload C 1 dL_law_1231 rfl ?_
  refine g_iconst (v := (1 : Int32)) C dL_law_1233 (by decide) ?_
  refine g_iadd C dL_law_1234 ?_
  refine g_sld C hX0 hbl hbA (i + 1) (gsi 1 rfl (by omega) hL) dL_law_1235 ?_
  refine g_callvi (As := [.int (xs (i + 1))]) (n := 1) C (c_Model_about l hl D cI cJ ad (xs (i + 1))) ⟨rfl, rfl⟩ gcl6 rfl lwm_about (hR := ⟨Nat.le_of_ble_eq_true rfl, Nat.le_of_ble_eq_true rfl⟩) rfl rfl (Nat.le_of_ble_eq_true rfl) dL_law_1236 hf (fun b3 σ4 => ?_)
  refine g_istore (L' := [(6, .int b3), (5, .int k1), (4, .int (nI i)), (3, .ref (ad 31)), (2, .ref (ad 28)), (1, .ref (ad 0)), (0, .ref b)]) C dL_law_1239 (by decide) rfl ?_
  refine g_aload_n C 4 dL_law_1241 rfl rfl ?_
  refine g_callvi (As := []) (n := 0) C (c_Model_thrown l hl D cI cJ ad) ⟨rfl, rfl⟩ gcl6 rfl lwm_thrown (hR := ⟨Nat.le_of_ble_eq_true rfl, Nat.le_of_ble_eq_true rfl⟩) rfl rfl (Nat.le_of_ble_eq_true rfl) dL_law_1242 hf (fun b5 σ6 => ?_)
  refine g_iload C 1 dL_law_1245 rfl ?_
  refine g_icmp_eq (tgt := 1252) C dL_law_1247 (by decide) (fun h => ?_) (fun h => ?_)
  · refine g_iload C 1 dL_law_1252 rfl ?_
    refine g_if_ne (tgt := 1269) C dL_law_1254 (by decide) (fun h => ?_) (fun h => ?_)
    · refine g_aload_n C 3 dL_law_1257 rfl rfl ?_
      refine g_iconst (v := (0 : Int32)) C dL_law_1258 (by decide) ?_
      refine g_lald (o := 31) C rfl rfl dL_law_1259 ?_
      refine g_iload C 0 dL_law_1260 rfl ?_
      refine g_i2l C dL_law_1262 ?_
      refine g_lcmpeq (x := (σ6 31 0)) (y := b3) (tgt := 1269) C dL_law_1263 dL_law_1264 (by decide) (fun h => ?_) (fun h => ?_)
      · refine g_goto (tgt := 1408) C dL_law_1269 (by decide) ?_
        refine g_loc [2, 3, 4, 5, 6] rfl ?_
        exact g_end K
      · exact g_bad
    · refine g_goto (tgt := 1408) C dL_law_1269 (by decide) ?_
      refine g_loc [2, 3, 4, 5, 6] rfl ?_
      exact g_end K
  · exact g_bad

def F_case_of (v1 : Int32) (v2 : Int32) (σ : gSt) : Option (Int32 × gSt) := gbi (F_Law_of v1 v2 σ) fun k1 σ2 => gbi (F_Model_of v1 v2 σ2) fun b3 σ4 => gbi (F_Model_thrown σ4) fun b5 σ6 => if b5 = k1 then (if k1 = (0 : Int32) then (if (σ6 31 0) = b3 then (some ((1 : Int32), σ6)) else (some ((0 : Int32), σ6))) else (some ((1 : Int32), σ6))) else (some ((0 : Int32), σ6))

set_option maxHeartbeats 4000000 in
set_option maxRecDepth 100000 in
theorem law_of {p : Program} {l : Launch} {e : Env} {s : State} {m : MethodId} {args : Array Value} {below : List Frame} {meth : Method} {c : Code} {D : va_G} {cI cJ : ClassId} {ad : Nat → Nat} {A : Nat → Prop} {b Ln : Nat} {xs : Nat → Int32} {cells slots : Nat} {Q : State → Prop} (hl : l.stackTraces = false) (C : gC p s m args meth c D cI cJ ad A cL_law 7 RL) (hX0 : va_X b Ln xs s s.heap) (hbl : b < s.heap.size) (hbA : ¬ A b) (hL : Ln ≤ 2560) (hf0 : cells + 1 ≤ room_1.cells ∧ slots + 6 ≤ room_1.slots) (i : Nat) (hi : i + 5 ≤ Ln) (σ σ' : gSt) (K : gG p l e room_1 s m args below meth c D cI cJ ad A 7 (cells + 1) (slots + 6) Q σ' 1408 [(4, .int (nI i)), (3, .ref (ad 31)), (2, .ref (ad 28)), (1, .ref (ad 0)), (0, .ref b)] []) : gX (F_case_of (xs (i + 1)) (xs (i + 2)) σ) ((1 : Int32), σ') (gG p l e room_1 s m args below meth c D cI cJ ad A 7 cells slots Q σ 1272 [(4, .int (nI i)), (3, .ref (ad 31)), (2, .ref (ad 28)), (1, .ref (ad 0)), (0, .ref b)] []) := by
  have hf := hf0
  unfold F_case_of
  refine g_aload_n C 3 dL_law_1272 rfl rfl ?_
  refine g_aload_n C 4 dL_law_1273 rfl rfl ?_
  refine g_iload C 0 dL_law_1274 rfl ?_
  refine g_iconst (v := (1 : Int32)) C dL_law_1276 (by decide) ?_
  refine g_iadd C dL_law_1277 ?_
  refine g_sld C hX0 hbl hbA (i + 1) (gsi 1 rfl (by omega) hL) dL_law_1278 ?_
  refine g_aload_n C 4 dL_law_1279 rfl rfl ?_
  refine g_iload C 0 dL_law_1280 rfl ?_
  refine g_iconst (v := (2 : Int32)) C dL_law_1282 (by decide) ?_
  refine g_iadd C dL_law_1283 ?_
  refine g_sld C hX0 hbl hbA (i + 2) (gsi 2 rfl (by omega) hL) dL_law_1284 ?_
  refine g_aload_n C 1 dL_law_1285 rfl rfl ?_
  refine g_callH (As := [.ref (ad 0), .int (xs (i + 1)), .int (xs (i + 2)), .ref (ad 31)]) (n := 4) C (c_Law_of l hl D cI cJ ad (xs (i + 1)) (xs (i + 2))) ⟨rfl, rfl⟩ lwh_of (hR := ⟨Nat.le_of_ble_eq_true rfl, Nat.le_of_ble_eq_true rfl⟩) rfl rfl (Nat.le_of_ble_eq_true rfl) dL_law_1286 hf (fun k1 σ2 => ?_)
  refine g_istore (L' := [(5, .int k1), (4, .int (nI i)), (3, .ref (ad 31)), (2, .ref (ad 28)), (1, .ref (ad 0)), (0, .ref b)]) C dL_law_1289 (by decide) rfl ?_
  refine g_aload_n C 3 dL_law_1291 rfl rfl ?_
  refine g_aload_n C 5 dL_law_1292 rfl rfl ?_
  refine g_iload C 1 dL_law_1293 rfl ?_
  refine g_iconst (v := (1 : Int32)) C dL_law_1295 (by decide) ?_
  refine g_iadd C dL_law_1296 ?_
  refine g_sld C hX0 hbl hbA (i + 1) (gsi 1 rfl (by omega) hL) dL_law_1297 ?_
  refine g_aload_n C 5 dL_law_1298 rfl rfl ?_
  refine g_iload C 1 dL_law_1299 rfl ?_
  refine g_iconst (v := (2 : Int32)) C dL_law_1301 (by decide) ?_
  refine g_iadd C dL_law_1302 ?_
  refine g_sld C hX0 hbl hbA (i + 2) (gsi 2 rfl (by omega) hL) dL_law_1303 ?_
  refine g_callvi (As := [.int (xs (i + 1)), .int (xs (i + 2))]) (n := 2) C (c_Model_of l hl D cI cJ ad (xs (i + 1)) (xs (i + 2))) ⟨rfl, rfl⟩ gcl6 rfl lwm_of (hR := ⟨Nat.le_of_ble_eq_true rfl, Nat.le_of_ble_eq_true rfl⟩) rfl rfl (Nat.le_of_ble_eq_true rfl) dL_law_1304 hf (fun b3 σ4 => ?_)
  refine g_istore (L' := [(6, .int b3), (5, .int k1), (4, .int (nI i)), (3, .ref (ad 31)), (2, .ref (ad 28)), (1, .ref (ad 0)), (0, .ref b)]) C dL_law_1307 (by decide) rfl ?_
  refine g_aload_n C 4 dL_law_1309 rfl rfl ?_
  refine g_callvi (As := []) (n := 0) C (c_Model_thrown l hl D cI cJ ad) ⟨rfl, rfl⟩ gcl6 rfl lwm_thrown (hR := ⟨Nat.le_of_ble_eq_true rfl, Nat.le_of_ble_eq_true rfl⟩) rfl rfl (Nat.le_of_ble_eq_true rfl) dL_law_1310 hf (fun b5 σ6 => ?_)
  refine g_iload C 1 dL_law_1313 rfl ?_
  refine g_icmp_eq (tgt := 1320) C dL_law_1315 (by decide) (fun h => ?_) (fun h => ?_)
  · refine g_iload C 1 dL_law_1320 rfl ?_
    refine g_if_ne (tgt := 1337) C dL_law_1322 (by decide) (fun h => ?_) (fun h => ?_)
    · refine g_aload_n C 3 dL_law_1325 rfl rfl ?_
      refine g_iconst (v := (0 : Int32)) C dL_law_1326 (by decide) ?_
      refine g_lald (o := 31) C rfl rfl dL_law_1327 ?_
      refine g_iload C 0 dL_law_1328 rfl ?_
      refine g_i2l C dL_law_1330 ?_
      refine g_lcmpeq (x := (σ6 31 0)) (y := b3) (tgt := 1337) C dL_law_1331 dL_law_1332 (by decide) (fun h => ?_) (fun h => ?_)
      · refine g_goto (tgt := 1408) C dL_law_1337 (by decide) ?_
        refine g_loc [2, 3, 4, 5, 6] rfl ?_
        exact g_end K
      · exact g_bad
    · refine g_goto (tgt := 1408) C dL_law_1337 (by decide) ?_
      refine g_loc [2, 3, 4, 5, 6] rfl ?_
      exact g_end K
  · exact g_bad

def F_case_lost (v1 : Int32) (v2 : Int32) (σ : gSt) : Option (Int32 × gSt) := gbi (F_Law_lost v1 v2 σ) fun k1 σ2 => gbi (F_Model_lost v1 v2 σ2) fun b3 σ4 => gbi (F_Model_thrown σ4) fun b5 σ6 => if b5 = k1 then (if k1 = (0 : Int32) then (if (σ6 31 0) = b3 then (some ((1 : Int32), σ6)) else (some ((0 : Int32), σ6))) else (some ((1 : Int32), σ6))) else (some ((0 : Int32), σ6))

set_option maxHeartbeats 4000000 in
set_option maxRecDepth 100000 in
theorem law_lost {p : Program} {l : Launch} {e : Env} {s : State} {m : MethodId} {args : Array Value} {below : List Frame} {meth : Method} {c : Code} {D : va_G} {cI cJ : ClassId} {ad : Nat → Nat} {A : Nat → Prop} {b Ln : Nat} {xs : Nat → Int32} {cells slots : Nat} {Q : State → Prop} (hl : l.stackTraces = false) (C : gC p s m args meth c D cI cJ ad A cL_law 7 RL) (hX0 : va_X b Ln xs s s.heap) (hbl : b < s.heap.size) (hbA : ¬ A b) (hL : Ln ≤ 2560) (hf0 : cells + 1 ≤ room_1.cells ∧ slots + 6 ≤ room_1.slots) (i : Nat) (hi : i + 5 ≤ Ln) (σ σ' : gSt) (K : gG p l e room_1 s m args below meth c D cI cJ ad A 7 (cells + 1) (slots + 6) Q σ' 1408 [(4, .int (nI i)), (3, .ref (ad 31)), (2, .ref (ad 28)), (1, .ref (ad 0)), (0, .ref b)] []) : gX (F_case_lost (xs (i + 1)) (xs (i + 2)) σ) ((1 : Int32), σ') (gG p l e room_1 s m args below meth c D cI cJ ad A 7 cells slots Q σ 1340 [(4, .int (nI i)), (3, .ref (ad 31)), (2, .ref (ad 28)), (1, .ref (ad 0)), (0, .ref b)] []) := by
  have hf := hf0
  unfold F_case_lost
  refine g_aload_n C 3 dL_law_1340 rfl rfl ?_
  refine g_aload_n C 4 dL_law_1341 rfl rfl ?_
  refine g_iload C 0 dL_law_1342 rfl ?_
  refine g_iconst (v := (1 : Int32)) C dL_law_1344 (by decide) ?_
  refine g_iadd C dL_law_1345 ?_
  refine g_sld C hX0 hbl hbA (i + 1) (gsi 1 rfl (by omega) hL) dL_law_1346 ?_
  refine g_aload_n C 4 dL_law_1347 rfl rfl ?_
  refine g_iload C 0 dL_law_1348 rfl ?_
  refine g_iconst (v := (2 : Int32)) C dL_law_1350 (by decide) ?_
  refine g_iadd C dL_law_1351 ?_
  refine g_sld C hX0 hbl hbA (i + 2) (gsi 2 rfl (by omega) hL) dL_law_1352 ?_
  refine g_aload_n C 1 dL_law_1353 rfl rfl ?_
  refine g_callH (As := [.ref (ad 0), .int (xs (i + 1)), .int (xs (i + 2)), .ref (ad 31)]) (n := 4) C (c_Law_lost l hl D cI cJ ad (xs (i + 1)) (xs (i + 2))) ⟨rfl, rfl⟩ lwh_lost (hR := ⟨Nat.le_of_ble_eq_true rfl, Nat.le_of_ble_eq_true rfl⟩) rfl rfl (Nat.le_of_ble_eq_true rfl) dL_law_1354 hf (fun k1 σ2 => ?_)
  refine g_istore (L' := [(5, .int k1), (4, .int (nI i)), (3, .ref (ad 31)), (2, .ref (ad 28)), (1, .ref (ad 0)), (0, .ref b)]) C dL_law_1357 (by decide) rfl ?_
  refine g_aload_n C 3 dL_law_1359 rfl rfl ?_
  refine g_aload_n C 5 dL_law_1360 rfl rfl ?_
  refine g_iload C 1 dL_law_1361 rfl ?_
  refine g_iconst (v := (1 : Int32)) C dL_law_1363 (by decide) ?_
  refine g_iadd C dL_law_1364 ?_
  refine g_sld C hX0 hbl hbA (i + 1) (gsi 1 rfl (by omega) hL) dL_law_1365 ?_
  refine g_aload_n C 5 dL_law_1366 rfl rfl ?_
  refine g_iload C 1 dL_law_1367 rfl ?_
  refine g_iconst (v := (2 : Int32)) C dL_law_1369 (by decide) ?_
  refine g_iadd C dL_law_1370 ?_
  refine g_sld C hX0 hbl hbA (i + 2) (gsi 2 rfl (by omega) hL) dL_law_1371 ?_
  refine g_callvi (As := [.int (xs (i + 1)), .int (xs (i + 2))]) (n := 2) C (c_Model_lost l hl D cI cJ ad (xs (i + 1)) (xs (i + 2))) ⟨rfl, rfl⟩ gcl6 rfl lwm_lost (hR := ⟨Nat.le_of_ble_eq_true rfl, Nat.le_of_ble_eq_true rfl⟩) rfl rfl (Nat.le_of_ble_eq_true rfl) dL_law_1372 hf (fun b3 σ4 => ?_)
  refine g_istore (L' := [(6, .int b3), (5, .int k1), (4, .int (nI i)), (3, .ref (ad 31)), (2, .ref (ad 28)), (1, .ref (ad 0)), (0, .ref b)]) C dL_law_1375 (by decide) rfl ?_
  refine g_aload_n C 4 dL_law_1377 rfl rfl ?_
  refine g_callvi (As := []) (n := 0) C (c_Model_thrown l hl D cI cJ ad) ⟨rfl, rfl⟩ gcl6 rfl lwm_thrown (hR := ⟨Nat.le_of_ble_eq_true rfl, Nat.le_of_ble_eq_true rfl⟩) rfl rfl (Nat.le_of_ble_eq_true rfl) dL_law_1378 hf (fun b5 σ6 => ?_)
  refine g_iload C 1 dL_law_1381 rfl ?_
  refine g_icmp_eq (tgt := 1388) C dL_law_1383 (by decide) (fun h => ?_) (fun h => ?_)
  · refine g_iload C 1 dL_law_1388 rfl ?_
    refine g_if_ne (tgt := 1405) C dL_law_1390 (by decide) (fun h => ?_) (fun h => ?_)
    · refine g_aload_n C 3 dL_law_1393 rfl rfl ?_
      refine g_iconst (v := (0 : Int32)) C dL_law_1394 (by decide) ?_
      refine g_lald (o := 31) C rfl rfl dL_law_1395 ?_
      refine g_iload C 0 dL_law_1396 rfl ?_
      refine g_i2l C dL_law_1398 ?_
      refine g_lcmpeq (x := (σ6 31 0)) (y := b3) (tgt := 1405) C dL_law_1399 dL_law_1400 (by decide) (fun h => ?_) (fun h => ?_)
      · refine g_goto (tgt := 1408) C dL_law_1405 (by decide) ?_
        refine g_loc [2, 3, 4, 5, 6] rfl ?_
        exact g_end K
      · exact g_bad
    · refine g_goto (tgt := 1408) C dL_law_1405 (by decide) ?_
      refine g_loc [2, 3, 4, 5, 6] rfl ?_
      exact g_end K
  · exact g_bad

