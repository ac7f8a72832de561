/-! the law's helpers: what the game's call threw is caught, its number comes back -/
def gbh {ρ : Type} (X0 : Option (Int32 × Int32 × gSt)) (K : Int32 → gSt → Option ρ) (Kx : Int32 → gSt → Option ρ) : Option ρ := match X0 with
  | none => none
  | some q => if q.1 = 0 then K q.2.1 q.2.2 else Kx q.1 q.2.2
def gMh (l : Launch) (D : va_G) (cI cJ : ClassId) (ad : Nat → Nat) (y : MethodName) (yb : ByteArray) (yn : Nat) (yret : Option FieldType) (hh : List (Nat × Nat × Nat × Nat)) (rm : Room) (av : List Value) (F : gSt → Option (Int32 × gSt)) : Prop :=
  ∀ (σ : gSt) (r : Int32) (σ' : gSt) (sz : Nat), F σ = some (r, σ') → vx_Met l y (.codeWith y yb yn yret hh :: gT) rm (va_Pc av (gPre D cI cJ ad σ sz)) (va_Qi (fun r1 (_ : Unit) => r1 = r) (fun _ t => va_P D vwCl (gw cI cJ ad σ') t.heap) (gA ad sz)) (fun _ _ _ => False) 1 6 (gA ad sz)
def gGx (p : Program) (l : Launch) (e : Env) (R : Room) (s : State) (m : MethodId) (args : Array Value) (below : List Frame) (meth : Method) (c : Code) (D : va_G) (cI cJ : ClassId) (ad : Nat → Nat) (A : Nat → Prop) (nL cells slots : Nat) (Q : State → Prop) (E : String) (σ : gSt) (pc : Nat) (L : List (Nat × Value)) (st : List Value) : Prop :=
  ∀ (H : Heap) (locs : List Loc) (ls : Array Slot) (q : Addr) (ce : Cell), lv_has ls nL L → va_P D vwCl (gw cI cJ ad σ) H → va_S A s.heap H locs → H[q]? = some ce → ce.vm = .none → s.vm.findClass E = some ce.cls → vx_W p l e R s m args below meth c H locs cells slots Q (F0 m pc ls st) q
theorem i64_inj {x y : Int32} : x.toInt64 = y.toInt64 ↔ x = y := by
  constructor
  · intro h
    have h1 := congrArg Int64.toInt h
    rw [Int32.toInt_toInt64, Int32.toInt_toInt64] at h1
    exact Int32.toInt_inj.mp h1
  · intro h; rw [h]
section GH
variable {p : Program} {l : Launch} {e : Env} {R : Room} {s : State} {m : MethodId} {args : Array Value} {below : List Frame} {meth : Method} {c : Code} {D : va_G} {cI cJ : ClassId} {ad : Nat → Nat} {A : Nat → Prop} {cc : ByteArray} {nL : Nat} {own : String} {cells slots : Nat} {Q : State → Prop} {σ : gSt} {pc : Nat} {L L' : List (Nat × Value)} {st : List Value}
variable {ρ : Type} {X X1 X2 : Option ρ} {res : ρ}
theorem g_callvH (C : gC p s m args meth c D cI cJ ad A cc nL own) {idx c0 o n : Nat} {CN : String} {T : u_T} {y : MethodName} {yb : ByteArray} {yn : Nat} {yret : Option FieldType} {rm : Room} {As : List Value} {F : gSt → Option (Int32 × Int32 × gSt)} {K Kx : Int32 → gSt → Option ρ} {stk : List Value}
    (hM : gMxi l D cI cJ ad y yb yn yret rm (.ref (ad o) :: As) F) (hrm : rm.cells = 1 ∧ rm.slots = 6) (hcl : gCl c0 CN T) (ho : gKd o = c0) (hw : gWv own idx CN y yb yn yret n) (hR : rm.frames + 1 ≤ R.frames ∧ 8 + (yn + 11) + rm.locals ≤ R.locals) (hn : As.length = n) (hstk : stk = As.reverse ++ .ref (ad o) :: st) (hcat : (st.map fun v => v.category).sum ≤ 8) (hdg : decode cc pc = .ok (.invokevirtual idx, 3)) (hf : 0 + 1 ≤ R.cells ∧ 0 + 6 ≤ R.slots)
    (k : ∀ (v : Int32) (σ' : gSt), gX (K v σ') res (gG p l e R s m args below meth c D cI cJ ad A nL 0 0 Q σ' (pc + 3) L (.int v :: st)))
    (kx : ∀ (k : Int32) (σ' : gSt), k ≠ 0 → gX (Kx k σ') res (gGx p l e R s m args below meth c D cI cJ ad A nL 1 6 Q (gEx k) σ' pc L st)) : gX (gbh (F σ) K Kx) res (gG p l e R s m args below meth c D cI cJ ad A nL 0 0 Q σ pc L stk) := by
  intro hX
  cases hF : F σ with
  | none => rw [hF] at hX; cases hX
  | some q0 =>
    rw [hF] at hX
    intro H locs ls hl hP hS T hT X
    have hr := gRunVx (e := e) (below := below) (cells := 0) (slots := 0) C (hM _ _ H.size hF) hrm hcl ho hw hR hn hl hP hS hstk hcat hdg hf
    rcases hr T hT X with ⟨v, st₀, t, T', L9, h0, X', hL, e1, e2, ⟨⟨r, u, hv, hp, hb⟩, hF9⟩, stp⟩ | ⟨q9, st₀, t, T', L9, E, ce, h0, X', hL, e1, e2, ⟨u, hp, ⟨hE, hb⟩, hF9⟩, hce, hcv, hcl9, stp⟩
    · cases hv
      obtain ⟨hp, rfl⟩ := hp
      obtain ⟨k1, k2, k3⟩ := vx_keep h0 e1 hS (fun q _ h => gA_sub C hS q h) (gA_sub C hS) hL hF9
      have hX2 : K q0.2.1 q0.2.2 = some res := by
        have h9 : gbh (some q0) K Kx = K q0.2.1 q0.2.2 := if_pos hp
        rw [← h9]; exact hX
      obtain ⟨t2, a1, b1⟩ := k _ _ hX2 T'.heap (locs ++ L9) ls hl (by rw [e1]; exact hb) k3 T' rfl X'
      exact ⟨t2, stp t2 a1, b1⟩
    · obtain ⟨k1, k2, k3⟩ := vx_keep h0 e1 hS (fun q _ h => gA_sub C hS q h) (gA_sub C hS) hL hF9
      have hX2 : Kx q0.1 q0.2.2 = some res := by
        have h9 : gbh (some q0) K Kx = Kx q0.1 q0.2.2 := if_neg hp
        rw [← h9]; exact hX
      obtain ⟨t2, a1, b1⟩ := kx _ _ hp hX2 T'.heap (locs ++ L9) ls q9 ce hl (by rw [e1]; exact hb) k3 (by rw [e1]; exact hce) hcv (by rw [← hE]; exact hcl9) T' rfl X'
      exact ⟨t2, stp.trans a1, b1⟩
theorem g_catch (C : gC p s m args meth c D cI cJ ad A cc nL own) {hh : List (Nat × Nat × Nat × Nat)} (htab : c.exceptionTable.toList = tableOf hh) (pre suf : List ExceptionTableEntry) (x : ExceptionTableEntry) (hsplit : tableOf hh = pre ++ x :: suf) {E : String} (nms : List String)
    (hpass : ∀ z ∈ pre, z.catchType ≠ 0 ∧ ∃ nm : String, Cond.classLink own z.catchType nm ∈ gT ∧ (E, nm) ∈ gNcs) (hx : covers x pc = true) (h0 : x.catchType ≠ 0) (hlink : Cond.classLink own x.catchType E ∈ gT) (hcast : Cond.castable E E ∈ gNest)
    (k : ∀ q : Addr, gX X res (gG p l e R s m args below meth c D cI cJ ad A nL cells slots Q σ x.handlerPc L [.ref q])) : gX X res (gGx p l e R s m args below meth c D cI cJ ad A nL cells slots Q E σ pc L st) := by
  intro hX H locs ls q ce hl hP hS hce hcv hcl
  refine vx_catch C.2.2.2.1 pre x suf (htab.trans hsplit) (fun z hz => Or.inr ?_) hx h0 (C.2.2.2.2.1 _ hlink) (va_Nw.use rfl (gB_nest C.2.2.2.2.2.2.2.2.2.1 hcast)) hce hcv hcl (k q hX H locs ls hl hP hS)
  obtain ⟨z1, nm, z2, z3⟩ := hpass z hz
  exact ⟨z1, nm, C.2.2.2.2.1 _ z2, C.2.2.2.2.2.2.2.2.2.1.2.1 _ z3⟩
theorem g_hret (C : gC p s m args meth c D cI cJ ad A cc nL own) {v r : Int32} {σ' : gSt} (hr : meth.sig.returnType = some .int) (hdg : decode cc pc = .ok (.ireturn, 1)) (hc : cells ≤ 1) (hs : slots ≤ 6) : gX (some (v, σ)) (r, σ') (gG p l e R s m args below meth c D cI cJ ad A nL cells slots (vx_MQ below (va_Qi (fun r1 (_ : Unit) => r1 = r) (fun _ t => va_P D vwCl (gw cI cJ ad σ') t.heap) A) (fun _ _ _ => False) args s 1 6 A) σ pc L [.int v]) := by
  intro hX H locs ls hl hP hS
  cases hX
  have hlk : meth.locks = false := C.2.2.2.2.2.2.2.2.2.2.2
  exact vx_ret (W.widen hc hs (W.iret C.1 C.2.1 hr (fun t ht hW => ⟨⟨v, (), rfl, rfl, by show va_P D vwCl _ t.heap; rw [ht]; exact hP⟩, hS.F ht⟩) hS.2.2 hdg hlk))
theorem g_i2l (C : gC p s m args meth c D cI cJ ad A cc nL own) {x : Int32} (hdg : decode cc pc = .ok (.i2l, 1)) (k : gX X res (gG p l e R s m args below meth c D cI cJ ad A nL cells slots Q σ (pc + 1) L (.long x.toInt64 :: st))) : gX X res (gG p l e R s m args below meth c D cI cJ ad A nL cells slots Q σ pc L (.int x :: st)) :=
  fun hX H locs ls hl hP hS => lv_i2l C.1 C.2.1 hdg rfl (k hX H locs ls hl hP hS)
theorem g_lconst (C : gC p s m args meth c D cI cJ ad A cc nL own) {n : Fin 2} (x : Int32) (hdg : decode cc pc = .ok (.lconst n, 1)) (hv : Int64.ofNat (n : Nat) = x.toInt64) (k : gX X res (gG p l e R s m args below meth c D cI cJ ad A nL cells slots Q σ (pc + 1) L (.long x.toInt64 :: st))) : gX X res (gG p l e R s m args below meth c D cI cJ ad A nL cells slots Q σ pc L st) :=
  fun hX H locs ls hl hP hS => lv_lconst C.1 C.2.1 hdg hv (k hX H locs ls hl hP hS)
theorem g_last (C : gC p s m args meth c D cI cJ ad A cc nL own) {K : gSt → Option ρ} {x : Int32} {o : Nat} (ho : gKd o = 8) (hn : gLn o = 1) (hdg : decode cc pc = .ok (.lastore, 1)) (k : ∀ σ', gX (K σ') res (gG p l e R s m args below meth c D cI cJ ad A nL cells slots Q σ' (pc + 1) L st)) : gX (gl (gup σ o 0 x) K) res (gG p l e R s m args below meth c D cI cJ ad A nL cells slots Q σ pc L (.long x.toInt64 :: .int 0 :: .ref (ad o) :: st)) := by
  intro hX H locs ls hl hP hS
  have hin : vp_in (0 : Int32) (gLn o) := by rw [hn]; unfold vp_in; decide
  refine va_last (D := D) C.1 C.2.1 C.2.2.2.2.2.1 hP (gw_D C.2.2.2.2.2.2.2.2.1 C.2.2.2.2.2.2.2.1) hS o 1 (gw_lng ho) rfl hin hdg (fun H1 locs1 hP1 _ hS1 => ?_)
  rw [show (0 : Int32).toNatClampNeg = 0 from rfl, gw_putj ho] at hP1
  exact k _ hX H1 locs1 ls hl hP1 hS1
theorem g_lald (C : gC p s m args meth c D cI cJ ad A cc nL own) {o : Nat} (ho : gKd o = 8) (hn : gLn o = 1) (hdg : decode cc pc = .ok (.laload, 1)) (k : gX X res (gG p l e R s m args below meth c D cI cJ ad A nL cells slots Q σ (pc + 1) L (.long (σ o 0).toInt64 :: st))) : gX X res (gG p l e R s m args below meth c D cI cJ ad A nL cells slots Q σ pc L (.int 0 :: .ref (ad o) :: st)) := by
  intro hX H locs ls hl hP hS
  have hin : vp_in (0 : Int32) (gLn o) := by rw [hn]; unfold vp_in; decide
  exact va_lald (D := D) C.1 C.2.1 C.2.2.2.2.2.1 hP o 1 (gw_lng ho) rfl hin hdg (k hX H locs ls hl hP hS)
theorem lg_cmp0 {x y : Int64} : lg_cmp x y = 0 ↔ x = y := by
  unfold lg_cmp
  constructor
  · intro h
    split at h
    · exact absurd h (by decide)
    · split at h
      · assumption
      · exact absurd h (by decide)
  · intro h
    subst h
    have h1 : ¬ x < x := by rw [Int64.lt_iff_toInt_lt]; omega
    simp [h1]
theorem g_lcmpeq (C : gC p s m args meth c D cI cJ ad A cc nL own) {x y : Int32} {off : Int} {tgt : Nat} (hdg : decode cc pc = .ok (.lcmp, 1)) (hdg2 : decode cc (pc + 1) = .ok (.ifCond .eq off, 3)) (ht : ((pc + 1 : Nat) : Int) + off = (tgt : Int)) (k1 : x = y → gX X1 res (gG p l e R s m args below meth c D cI cJ ad A nL cells slots Q σ tgt L st)) (k2 : ¬ x = y → gX X2 res (gG p l e R s m args below meth c D cI cJ ad A nL cells slots Q σ (pc + 1 + 3) L st)) : gX (if x = y then X1 else X2) res (gG p l e R s m args below meth c D cI cJ ad A nL cells slots Q σ pc L (.long y.toInt64 :: .long x.toInt64 :: st)) := by
  refine gX_if (fun h hX H locs ls hl hP hS => ?_) (fun h hX H locs ls hl hP hS => ?_)
  · refine W.lcmp C.1 C.2.1 hdg ?_
    exact lv_if_eq C.1 C.2.1 hdg2 ht (fun _ => k1 h hX H locs ls hl hP hS) (fun h2 => absurd (lg_cmp0.mpr (i64_inj.mpr h)) h2)
  · refine W.lcmp C.1 C.2.1 hdg ?_
    exact lv_if_eq C.1 C.2.1 hdg2 ht (fun h2 => absurd (i64_inj.mp (lg_cmp0.mp h2)) h) (fun _ => k2 h hX H locs ls hl hP hS)
/-- the script -/
theorem g_sld (C : gC p s m args meth c D cI cJ ad A cc nL own) {b Ln : Nat} {xs : Nat → Int32} (hX0 : va_X b Ln xs s s.heap) (hbl : b < s.heap.size) (hbA : ¬ A b) {i : Int32} (j : Nat) (hin : i.toNatClampNeg = j ∧ vp_in i Ln) (hdg : decode cc pc = .ok (.iaload, 1)) (k : gX X res (gG p l e R s m args below meth c D cI cJ ad A nL cells slots Q σ (pc + 1) L (.int (xs j) :: st))) : gX X res (gG p l e R s m args below meth c D cI cJ ad A nL cells slots Q σ pc L (.int i :: .ref b :: st)) := by
  obtain ⟨rfl, hin⟩ := hin
  exact fun hX H locs ls hl hP hS => va_sld C.1 C.2.1 hX0 hbl hbA hS hin hdg (k hX H locs ls hl hP hS)
theorem gRunH (C : gC p s m args meth c D cI cJ ad A cc nL own) {idx n : Nat} {y : MethodName} {yb : ByteArray} {yn : Nat} {yret : Option FieldType} {hh : List (Nat × Nat × Nat × Nat)} {rm : Room} {As : List Value} {Qc : Array Value → State → Outcome → State → Prop} {XC : String → State → State → Prop} {free : Addr → Prop} {H : Heap} {locs : List Loc} {ls : Array Slot} {stk : List Value}
    (hM : vx_Met l y (.codeWith y yb yn yret hh :: gT) rm (va_Pc As (gPre D cI cJ ad σ H.size)) Qc XC 1 6 free) (hrm : rm.cells = 1 ∧ rm.slots = 6) (hw : Cond.methodLink own idx y ∈ gT ∧ Cond.static y ∈ gT ∧ Cond.initialized y.cls ∈ gT ∧ Cond.codeWith y yb yn yret hh ∈ gT ∧ (y.cls ≠ "java/lang/invoke/MethodHandle" ∧ y.cls ≠ "java/lang/invoke/VarHandle" ∧ (parseMethodDescriptor y.desc).map (fun d => d.parameters.length) = some n)) (hR : rm.frames + 1 ≤ R.frames ∧ 8 + (yn + 11) + rm.locals ≤ R.locals) (hn : As.length = n)
    (hl : lv_has ls nL L) (hP : va_P D vwCl (gw cI cJ ad σ) H) (hS : va_S A s.heap H locs) (hstk : stk = As.reverse ++ st) (hcat : (st.map fun v => v.category).sum ≤ 8) (hdg : decode cc pc = .ok (.invokestatic idx, 3)) (hf : cells + 1 ≤ R.cells ∧ slots + 6 ≤ R.slots) :
    vx_Run p l e R s m args below meth c H locs cells slots 1 6 (F0 m pc ls stk) st (Qc As.toArray) XC free := by
  obtain ⟨w1, w2, w3, w4, w6⟩ := hw
  have hts := C.2.2.2.2.1
  have hG : GoodIn gT (.codeWith y yb yn yret hh :: gT) := by
    intro w hw
    have hw2 : w ∈ gT := by
      rcases List.mem_cons.mp hw with rfl | h1
      · exact w4
      · exact h1
    exact ⟨hw2, good_of_word (gT_good hw2)⟩
  have cw : vx_CSW R s args own idx y yb yn yret hh (.codeWith y yb yn yret hh :: gT) rm 1 6 n :=
    ⟨⟨hrm.1, hrm.2, hR.1, hR.2, pay_in hts hG, List.mem_cons_self⟩, hts _ w4, hts _ w3, ⟨w6.1, w6.2.1⟩, fun sig h => by
      have h2 := w6.2.2
      rw [h] at h2
      exact (Option.some.inj h2).symm, hts _ w1, hts _ w2⟩
  exact vx_runSX ⟨C.1, C.2.1, C.2.2.1, C.2.2.2.1, hts⟩ hM cw ⟨gPre_blind, fun U hU hW => ⟨rfl, gPre_at C hP hS hU hW⟩⟩ rfl hn hl.1 hstk (lv_room hcat) hdg hf
theorem g_callH (C : gC p s m args meth c D cI cJ ad A cc nL own) {idx n : Nat} {y : MethodName} {yb : ByteArray} {yn : Nat} {yret : Option FieldType} {hh : List (Nat × Nat × Nat × Nat)} {rm : Room} {As : List Value} {F : gSt → Option (Int32 × gSt)} {K : Int32 → gSt → Option ρ} {stk : List Value}
    (hM : gMh l D cI cJ ad y yb yn yret hh rm As F) (hrm : rm.cells = 1 ∧ rm.slots = 6) (hw : Cond.methodLink own idx y ∈ gT ∧ Cond.static y ∈ gT ∧ Cond.initialized y.cls ∈ gT ∧ Cond.codeWith y yb yn yret hh ∈ gT ∧ (y.cls ≠ "java/lang/invoke/MethodHandle" ∧ y.cls ≠ "java/lang/invoke/VarHandle" ∧ (parseMethodDescriptor y.desc).map (fun d => d.parameters.length) = some n)) (hR : rm.frames + 1 ≤ R.frames ∧ 8 + (yn + 11) + rm.locals ≤ R.locals) (hn : As.length = n) (hstk : stk = As.reverse ++ st) (hcat : (st.map fun v => v.category).sum ≤ 8) (hdg : decode cc pc = .ok (.invokestatic idx, 3)) (hf : cells + 1 ≤ R.cells ∧ slots + 6 ≤ R.slots)
    (k : ∀ (r : Int32) (σ' : gSt), gX (K r σ') res (gG p l e R s m args below meth c D cI cJ ad A nL (cells + 1) (slots + 6) Q σ' (pc + 3) L (.int r :: st))) : gX (gbi (F σ) K) res (gG p l e R s m args below meth c D cI cJ ad A nL cells slots Q σ pc L stk) := by
  intro hX
  cases hF : F σ with
  | none => rw [hF] at hX; cases hX
  | some q =>
    rw [hF] at hX
    obtain ⟨r, σ'⟩ := q
    intro H locs ls hl hP hS T hT X
    have hr := gRunH (e := e) (below := below) (cells := cells) (slots := slots) C (hM _ _ _ H.size hF) hrm hw hR hn hl hP hS hstk hcat hdg hf
    rcases hr T hT X with ⟨v, st₀, t, T', L9, h0, X', hL, e1, e2, ⟨⟨r1, u, hv, hp, hb⟩, hF9⟩, stp⟩ | ⟨q9, st₀, t, T', L9, E, ce, h0, X', hL, e1, e2, hbad, -⟩
    · cases hv
      subst hp
      obtain ⟨k1, k2, k3⟩ := vx_keep h0 e1 hS (fun q _ h => gA_sub C hS q h) (gA_sub C hS) hL hF9
      obtain ⟨t2, a1, b1⟩ := k _ _ hX T'.heap (locs ++ L9) ls hl (by rw [e1]; exact hb) k3 T' rfl X'
      exact ⟨t2, stp t2 a1, b1⟩
    · exact hbad.elim
theorem gStartH {y : MethodName} {yb : ByteArray} {yn : Nat} {yret : Option FieldType} {hh : List (Nat × Nat × Nat × Nat)} {rm : Room} {av : List Value} {F : gSt → Option (Int32 × gSt)} {L0 : List (Nat × Value)} (own : String) (hy : plainName y.cls = true) (hyc : y.cls = own) (hL0 : lv_args 0 av = L0) (hlen : (lg_sl av).length ≤ yn)
    (body : ∀ (p : Program) (e : Env) (s : State) (m : MethodId) (args : Array Value) (below : List Frame) (meth : Method) (c : Code) (sz : Nat) (σ : gSt) (r : Int32) (σ' : gSt), gC p s m args meth c D cI cJ ad (gA ad sz) yb yn own → meth.sig.returnType = yret → c.exceptionTable.toList = tableOf hh →
      gX (F σ) (r, σ') (gG p l e rm s m args below meth c D cI cJ ad (gA ad sz) yn 0 0 (vx_MQ below (va_Qi (fun r1 (_ : Unit) => r1 = r) (fun _ t => va_P D vwCl (gw cI cJ ad σ') t.heap) (gA ad sz)) (fun _ _ _ => False) args s 1 6 (gA ad sz)) σ 0 L0 [])) : gMh l D cI cJ ad y yb yn yret hh rm av F := by
  intro σ r σ' sz hF
  refine vx_ofWH (cc := yb) (maxL := yn) (ret := yret) (hh := hh) hy rfl ?_
  intro p e s m args below meth c s₁ B hml hv
  obtain ⟨rfl, hsz, hP, hK, hi, hB, hZ⟩ := hv
  have hts := atoms_spec (ws := .codeWith y yb yn yret hh :: gT) B.pre
  have htab := vx_table (x := y) B (hts _ List.mem_cons_self)
  have hown : s.vm.findClass own = some m.cls := by rw [← hyc]; exact findClass_of_methodNamed B.named
  have hl := lv_entry av (n := yn) hlen
  rw [lg_entry_eq]
  rw [hL0] at hl
  subst hsz
  exact body p e s m _ below meth c s.heap.size σ r σ' ⟨B.exec, B.bytes, hml, hown, fun w hw => hts w (List.mem_cons_of_mem _ hw), hK, fun q h => Or.inr h, fun k hk => Or.inl ⟨k, hk, rfl⟩, hi, hB, hZ, B.notSynchronized⟩ B.returns htab hF s.heap [] _ hl hP va_S.rf
end GH
