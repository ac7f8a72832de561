/-! the law's loop, over any invariant that a step keeps -/
theorem g_slen {p : Program} {l : Launch} {e : Env} {R : Room} {s : State} {m : MethodId} {args : Array Value} {below : List Frame} {meth : Method} {c : Code} {D : va_G} {cI cJ : ClassId} {ad : Nat → Nat} {A : Nat → Prop} {cc : ByteArray} {nL : Nat} {own : String} {cells slots : Nat} {Q : State → Prop} {σ : gSt} {pc : Nat} {L : List (Nat × Value)} {st : List Value} {ρ : Type} {X : Option ρ} {res : ρ} (C : gC p s m args meth c D cI cJ ad A cc nL own) {b Ln : Nat} {xs : Nat → Int32} (hX0 : va_X b Ln xs s s.heap) (hbl : b < s.heap.size) (hbA : ¬ A b) (hdg : decode cc pc = .ok (.arraylength, 1)) (k : gX X res (gG p l e R s m args below meth c D cI cJ ad A nL cells slots Q σ (pc + 1) L (.int (nI Ln) :: st))) : gX X res (gG p l e R s m args below meth c D cI cJ ad A nL cells slots Q σ pc L (.ref b :: st)) :=
  fun hX H locs ls hl hP hS => va_slen C.1 C.2.1 hX0 hbl hbA hS hdg (k hX H locs ls hl hP hS)
def F_step (op v1 v2 v3 v4 : Int32) (σ : gSt) : Option (Int32 × gSt) := if op = (0 : Int32) then F_case_line v1 v2 v3 σ else if op = (1 : Int32) then F_case_libero v1 v2 σ else if op = (2 : Int32) then F_case_begin v1 σ else if op = (3 : Int32) then F_case_serve v1 σ else if op = (4 : Int32) then F_case_touch v1 v2 v3 v4 σ else if op = (5 : Int32) then F_case_fall v1 σ else if op = (6 : Int32) then F_case_net v1 v2 σ else if op = (7 : Int32) then F_case_find  σ else if op = (8 : Int32) then F_case_exchange v1 v2 σ else if op = (9 : Int32) then F_case_substitute v1 v2 v3 σ else if op = (10 : Int32) then F_case_challenge v1 σ else if op = (11 : Int32) then F_case_points v1 σ else if op = (12 : Int32) then F_case_pointsAnew v1 σ else if op = (13 : Int32) then F_case_sets v1 σ else if op = (14 : Int32) then F_case_at v1 v2 σ else if op = (15 : Int32) then F_case_atAnew v1 v2 σ else if op = (16 : Int32) then F_case_about v1 σ else if op = (17 : Int32) then F_case_of v1 v2 σ else if op = (18 : Int32) then F_case_lost v1 v2 σ else some ((1 : Int32), σ)
set_option maxHeartbeats 4000000 in
set_option maxRecDepth 100000 in
theorem law_body {p : Program} {l : Launch} {e : Env} {s : State} {m : MethodId} {args : Array Value} {below : List Frame} {meth : Method} {c : Code} {D : va_G} {cI cJ : ClassId} {ad : Nat → Nat} {A : Nat → Prop} {b Ln : Nat} {xs : Nat → Int32} {cells slots : Nat} {Q : State → Prop} (hl : l.stackTraces = false) (C : gC p s m args meth c D cI cJ ad A cL_law 7 RL) (hX0 : va_X b Ln xs s s.heap) (hbl : b < s.heap.size) (hbA : ¬ A b) (hL : Ln ≤ 2560) (hf0 : cells + 1 ≤ room_1.cells ∧ slots + 6 ≤ room_1.slots) (i : Nat) (hi : i + 5 ≤ Ln) (σ σ' : gSt) (K : gG p l e room_1 s m args below meth c D cI cJ ad A 7 (cells + 1) (slots + 6) Q σ' 1408 [(4, .int (nI i)), (3, .ref (ad 31)), (2, .ref (ad 28)), (1, .ref (ad 0)), (0, .ref b)] []) : gX (F_step (xs i &&& 31) (xs (i + 1)) (xs (i + 2)) (xs (i + 3)) (xs (i + 4)) σ) ((1 : Int32), σ') (gG p l e room_1 s m args below meth c D cI cJ ad A 7 cells slots Q σ 32 [(4, .int (nI i)), (3, .ref (ad 31)), (2, .ref (ad 28)), (1, .ref (ad 0)), (0, .ref b)] []) := by
  unfold F_step
  refine g_aload_n C 4 dL_law_32 rfl rfl ?_
  refine g_iload C 0 dL_law_33 rfl ?_
  refine g_sld C hX0 hbl hbA i ⟨nI_clamp (by omega), vp_in_nI (by omega) (by omega)⟩ dL_law_35 ?_
  refine g_bipush (v := (31 : Int32)) C dL_law_36 (by decide) ?_
  refine g_iand C dL_law_38 ?_
  generalize hop : xs i &&& 31 = op
  refine gX_if (fun h0 => ?_) (fun h0 => ?_)
  · refine g_tswIn (tgt := 128) C dL_law_39 (0) (by rw [h0]; decide) (by decide) (by decide) rfl (by decide) ?_
    exact law_line hl C hX0 hbl hbA hL hf0 i hi σ σ' K
  refine gX_if (fun h1 => ?_) (fun h1 => ?_)
  · refine g_tswIn (tgt := 208) C dL_law_39 (1) (by rw [h1]; decide) (by decide) (by decide) rfl (by decide) ?_
    exact law_libero hl C hX0 hbl hbA hL hf0 i hi σ σ' K
  refine gX_if (fun h2 => ?_) (fun h2 => ?_)
  · refine g_tswIn (tgt := 276) C dL_law_39 (2) (by rw [h2]; decide) (by decide) (by decide) rfl (by decide) ?_
    exact law_begin hl C hX0 hbl hbA hL hf0 i hi σ σ' K
  refine gX_if (fun h3 => ?_) (fun h3 => ?_)
  · refine g_tswIn (tgt := 332) C dL_law_39 (3) (by rw [h3]; decide) (by decide) (by decide) rfl (by decide) ?_
    exact law_serve hl C hX0 hbl hbA hL hf0 i hi σ σ' K
  refine gX_if (fun h4 => ?_) (fun h4 => ?_)
  · refine g_tswIn (tgt := 395) C dL_law_39 (4) (by rw [h4]; decide) (by decide) (by decide) rfl (by decide) ?_
    exact law_touch hl C hX0 hbl hbA hL hf0 i hi σ σ' K
  refine gX_if (fun h5 => ?_) (fun h5 => ?_)
  · refine g_tswIn (tgt := 503) C dL_law_39 (5) (by rw [h5]; decide) (by decide) (by decide) rfl (by decide) ?_
    exact law_fall hl C hX0 hbl hbA hL hf0 i hi σ σ' K
  refine gX_if (fun h6 => ?_) (fun h6 => ?_)
  · refine g_tswIn (tgt := 559) C dL_law_39 (6) (by rw [h6]; decide) (by decide) (by decide) rfl (by decide) ?_
    exact law_net hl C hX0 hbl hbA hL hf0 i hi σ σ' K
  refine gX_if (fun h7 => ?_) (fun h7 => ?_)
  · refine g_tswIn (tgt := 650) C dL_law_39 (7) (by rw [h7]; decide) (by decide) (by decide) rfl (by decide) ?_
    exact law_find hl C hX0 hbl hbA hL hf0 i hi σ σ' K
  refine gX_if (fun h8 => ?_) (fun h8 => ?_)
  · refine g_tswIn (tgt := 694) C dL_law_39 (8) (by rw [h8]; decide) (by decide) (by decide) rfl (by decide) ?_
    exact law_exchange hl C hX0 hbl hbA hL hf0 i hi σ σ' K
  refine gX_if (fun h9 => ?_) (fun h9 => ?_)
  · refine g_tswIn (tgt := 769) C dL_law_39 (9) (by rw [h9]; decide) (by decide) (by decide) rfl (by decide) ?_
    exact law_substitute hl C hX0 hbl hbA hL hf0 i hi σ σ' K
  refine gX_if (fun h10 => ?_) (fun h10 => ?_)
  · refine g_tswIn (tgt := 849) C dL_law_39 (10) (by rw [h10]; decide) (by decide) (by decide) rfl (by decide) ?_
    exact law_challenge hl C hX0 hbl hbA hL hf0 i hi σ σ' K
  refine gX_if (fun h11 => ?_) (fun h11 => ?_)
  · refine g_tswIn (tgt := 912) C dL_law_39 (11) (by rw [h11]; decide) (by decide) (by decide) rfl (by decide) ?_
    exact law_points hl C hX0 hbl hbA hL hf0 i hi σ σ' K
  refine gX_if (fun h12 => ?_) (fun h12 => ?_)
  · refine g_tswIn (tgt := 968) C dL_law_39 (12) (by rw [h12]; decide) (by decide) (by decide) rfl (by decide) ?_
    exact law_pointsAnew hl C hX0 hbl hbA hL hf0 i hi σ σ' K
  refine gX_if (fun h13 => ?_) (fun h13 => ?_)
  · refine g_tswIn (tgt := 1024) C dL_law_39 (13) (by rw [h13]; decide) (by decide) (by decide) rfl (by decide) ?_
    exact law_sets hl C hX0 hbl hbA hL hf0 i hi σ σ' K
  refine gX_if (fun h14 => ?_) (fun h14 => ?_)
  · refine g_tswIn (tgt := 1080) C dL_law_39 (14) (by rw [h14]; decide) (by decide) (by decide) rfl (by decide) ?_
    exact law_at hl C hX0 hbl hbA hL hf0 i hi σ σ' K
  refine gX_if (fun h15 => ?_) (fun h15 => ?_)
  · refine g_tswIn (tgt := 1148) C dL_law_39 (15) (by rw [h15]; decide) (by decide) (by decide) rfl (by decide) ?_
    exact law_atAnew hl C hX0 hbl hbA hL hf0 i hi σ σ' K
  refine gX_if (fun h16 => ?_) (fun h16 => ?_)
  · refine g_tswIn (tgt := 1216) C dL_law_39 (16) (by rw [h16]; decide) (by decide) (by decide) rfl (by decide) ?_
    exact law_about hl C hX0 hbl hbA hL hf0 i hi σ σ' K
  refine gX_if (fun h17 => ?_) (fun h17 => ?_)
  · refine g_tswIn (tgt := 1272) C dL_law_39 (17) (by rw [h17]; decide) (by decide) (by decide) rfl (by decide) ?_
    exact law_of hl C hX0 hbl hbA hL hf0 i hi σ σ' K
  refine gX_if (fun h18 => ?_) (fun h18 => ?_)
  · refine g_tswIn (tgt := 1340) C dL_law_39 (18) (by rw [h18]; decide) (by decide) (by decide) rfl (by decide) ?_
    exact law_lost hl C hX0 hbl hbA hL hf0 i hi σ σ' K
  refine g_tswOut (tgt := 1408) C dL_law_39 ?_ (by decide) ?_
  · have t0 := lv_neT h0 (show (0 : Int32).toInt = 0 by decide)
    have t1 := lv_neT h1 (show (1 : Int32).toInt = 1 by decide)
    have t2 := lv_neT h2 (show (2 : Int32).toInt = 2 by decide)
    have t3 := lv_neT h3 (show (3 : Int32).toInt = 3 by decide)
    have t4 := lv_neT h4 (show (4 : Int32).toInt = 4 by decide)
    have t5 := lv_neT h5 (show (5 : Int32).toInt = 5 by decide)
    have t6 := lv_neT h6 (show (6 : Int32).toInt = 6 by decide)
    have t7 := lv_neT h7 (show (7 : Int32).toInt = 7 by decide)
    have t8 := lv_neT h8 (show (8 : Int32).toInt = 8 by decide)
    have t9 := lv_neT h9 (show (9 : Int32).toInt = 9 by decide)
    have t10 := lv_neT h10 (show (10 : Int32).toInt = 10 by decide)
    have t11 := lv_neT h11 (show (11 : Int32).toInt = 11 by decide)
    have t12 := lv_neT h12 (show (12 : Int32).toInt = 12 by decide)
    have t13 := lv_neT h13 (show (13 : Int32).toInt = 13 by decide)
    have t14 := lv_neT h14 (show (14 : Int32).toInt = 14 by decide)
    have t15 := lv_neT h15 (show (15 : Int32).toInt = 15 by decide)
    have t16 := lv_neT h16 (show (16 : Int32).toInt = 16 by decide)
    have t17 := lv_neT h17 (show (17 : Int32).toInt = 17 by decide)
    have t18 := lv_neT h18 (show (18 : Int32).toInt = 18 by decide)
    omega
  intro hX
  cases hX
  exact fun H locs ls hl2 hP hS => W.widen (Nat.le_succ _) (Nat.le_add_right _ _) (K H locs ls hl2 hP hS)
theorem lgt_iff {i Ln : Nat} (hi : i < 2 ^ 30) (hL : Ln < 2 ^ 30) : (nI Ln - 5 < nI i) ↔ Ln < i + 5 := by
  rw [Int32.lt_iff_toInt_lt, show (5 : Int32) = nI 5 from rfl, pk_sub_toInt hL (by decide), nI_toInt (by omega)]
  omega
set_option maxHeartbeats 4000000 in
set_option maxRecDepth 100000 in
theorem law_loop {p : Program} {l : Launch} {e : Env} {s : State} {m : MethodId} {below : List Frame} {meth : Method} {c : Code} {D : va_G} {cI cJ : ClassId} {ad : Nat → Nat} {b Ln : Nat} {xs : Nat → Int32} (Inv : Nat → gSt → Prop) (hstep : ∀ (n : Nat) (σ : gSt) (op v1 v2 v3 v4 : Int32), n < 512 → Inv n σ → ∃ σ', F_step op v1 v2 v3 v4 σ = some ((1 : Int32), σ') ∧ Inv (n + 1) σ')
    (hl : l.stackTraces = false) (C : gC p s m #[Value.ref b] meth c D cI cJ ad (fun q : Nat => s.heap.size ≤ q) cL_law 7 RL) (hr : meth.sig.returnType = ret) (hX0 : va_X b Ln xs s s.heap) (hbl : b < s.heap.size) (hL : Ln ≤ 2560) :
    ∀ (f n : Nat) (σ : gSt), 513 ≤ n + f → 5 * n ≤ Ln → Inv n σ → gG p l e room_1 s m #[Value.ref b] below meth c D cI cJ ad (fun q : Nat => s.heap.size ≤ q) 7 (32 + n) (1100 + 6 * n) (lw_Z below #[Value.ref b] s) σ 23 [(4, .int (nI (5 * n))), (3, .ref (ad 31)), (2, .ref (ad 28)), (1, .ref (ad 0)), (0, .ref b)] [] := by
  have hbA : ¬ (fun q : Nat => s.heap.size ≤ q) b := Nat.not_le.mpr hbl
  intro f
  induction f with
  | zero => intro n σ h1 h2; exact absurd h2 (by omega)
  | succ f ih =>
    intro n σ h1 h2 hI
    have key : gX (if nI Ln - 5 < nI (5 * n) then some () else some ()) () (gG p l e room_1 s m #[Value.ref b] below meth c D cI cJ ad (fun q : Nat => s.heap.size ≤ q) 7 (32 + n) (1100 + 6 * n) (lw_Z below #[Value.ref b] s) σ 23 [(4, .int (nI (5 * n))), (3, .ref (ad 31)), (2, .ref (ad 28)), (1, .ref (ad 0)), (0, .ref b)] []) := by
      refine g_iload C 0 dL_law_23 rfl ?_
      refine g_aload_n C 4 dL_law_25 rfl rfl ?_
      refine g_slen C hX0 hbl hbA dL_law_26 ?_
      refine g_iconst (v := (5 : Int32)) C dL_law_27 (by decide) ?_
      refine g_isub C dL_law_28 ?_
      refine g_icmp_gt (tgt := 1414) C dL_law_29 (by decide) (fun h => ?_) (fun h => ?_)
      · refine g_iconst (v := (1 : Int32)) C dL_law_1414 (by decide) ?_
        intro _ H locs ls hl2 hP hS
        have h9 : n ≤ 512 := by omega
        refine va_forget (fun q hq => hS.2.2 q hq) ?_
        refine W.widen (k := 1073) (n := 9394) (by omega) (by omega) ?_
        exact lw_ret C.1 C.2.1 hr C.2.2.2.2.2.2.2.2.2.2.2 dL_law_1415
      · have h8 : 5 * n + 5 ≤ Ln := by
          have := mt (lgt_iff (i := 5 * n) (Ln := Ln) (by omega) (by omega)).mpr h
          omega
        have h9 : n < 512 := by omega
        obtain ⟨σ', hF, hI2⟩ := hstep n σ (xs (5 * n) &&& 31) (xs (5 * n + 1)) (xs (5 * n + 2)) (xs (5 * n + 3)) (xs (5 * n + 4)) h9 hI
        intro _
        refine law_body hl C hX0 hbl hbA hL ⟨show 32 + n + 1 ≤ 1073 by omega, show 1100 + 6 * n + 6 ≤ 9394 by omega⟩ (5 * n) h8 σ σ' ?_ hF
        have K : gX (some ()) () (gG p l e room_1 s m #[Value.ref b] below meth c D cI cJ ad (fun q : Nat => s.heap.size ≤ q) 7 (32 + n + 1) (1100 + 6 * n + 6) (lw_Z below #[Value.ref b] s) σ' 1408 [(4, .int (nI (5 * n))), (3, .ref (ad 31)), (2, .ref (ad 28)), (1, .ref (ad 0)), (0, .ref b)] []) := by
          refine g_iinc (v := nI (5 * (n + 1))) (L' := [(4, .int (nI (5 * (n + 1)))), (3, .ref (ad 31)), (2, .ref (ad 28)), (1, .ref (ad 0)), (0, .ref b)]) C 0 dL_law_1408 rfl (by rw [show Int32.ofInt 5 = nI 5 from rfl, nI_add]; congr 1) (by decide) rfl ?_
          refine g_goto (tgt := 23) C dL_law_1411 (by decide) ?_
          intro _
          have h7 := ih (n + 1) σ' (by omega) (by omega) hI2
          rw [show 32 + n + 1 = 32 + (n + 1) by omega, show 1100 + 6 * n + 6 = 1100 + 6 * (n + 1) by omega]
          exact h7
        exact K rfl
    exact key (by split <;> rfl)
