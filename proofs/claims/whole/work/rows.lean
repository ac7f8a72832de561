section
-- ===== PART A: goes FIRST, ahead of the names: the tables' words, and 'selects' of the private methods out of them =====
/-- a private method of a class that the tables say can be made, by its rows of tables_1 -/
def lw_okq (q : MethodName × Nat) : Prop := (q.1.cls ≠ "java/lang/invoke/MethodHandle" ∧ q.1.cls ≠ "java/lang/invoke/VarHandle") ∧ Cond.instantiable q.1.cls q.2 ∈ tables_1 ∧ Cond.privateMethod q.1 ∈ tables_1 ∧ Cond.instanceMethod q.1 ∈ tables_1
theorem lw_p0 : lw_okq (⟨"java/lang/Throwable", "fillInStackTrace", "(I)Ljava/lang/Throwable;"⟩, 6) := ⟨⟨by decide +kernel, by decide +kernel⟩, List.mem_of_getElem? (i := 239) (by decide +kernel), List.mem_of_getElem? (i := 237) (by decide +kernel), List.mem_of_getElem? (i := 238) (by decide +kernel)⟩
theorem lw_p1 : lw_okq (⟨"Rotationary", "checkAheadOfSet", "()V"⟩, 8) := ⟨⟨by decide +kernel, by decide +kernel⟩, List.mem_of_getElem? (i := 15) (by decide +kernel), List.mem_of_getElem? (i := 277) (by decide +kernel), List.mem_of_getElem? (i := 278) (by decide +kernel)⟩
theorem lw_p2 : lw_okq (⟨"Rotationary", "writeOrder", "(I)V"⟩, 8) := ⟨⟨by decide +kernel, by decide +kernel⟩, List.mem_of_getElem? (i := 15) (by decide +kernel), List.mem_of_getElem? (i := 356) (by decide +kernel), List.mem_of_getElem? (i := 357) (by decide +kernel)⟩
theorem lw_p3 : lw_okq (⟨"Rotationary", "checkBetweenRallies", "()V"⟩, 8) := ⟨⟨by decide +kernel, by decide +kernel⟩, List.mem_of_getElem? (i := 15) (by decide +kernel), List.mem_of_getElem? (i := 376) (by decide +kernel), List.mem_of_getElem? (i := 377) (by decide +kernel)⟩
theorem lw_p4 : lw_okq (⟨"Rotationary", "checkRally", "()V"⟩, 8) := ⟨⟨by decide +kernel, by decide +kernel⟩, List.mem_of_getElem? (i := 15) (by decide +kernel), List.mem_of_getElem? (i := 417) (by decide +kernel), List.mem_of_getElem? (i := 418) (by decide +kernel)⟩
theorem lw_p5 : lw_okq (⟨"Rotationary", "endRally", "(II)V"⟩, 8) := ⟨⟨by decide +kernel, by decide +kernel⟩, List.mem_of_getElem? (i := 15) (by decide +kernel), List.mem_of_getElem? (i := 438) (by decide +kernel), List.mem_of_getElem? (i := 439) (by decide +kernel)⟩
theorem lw_p6 : lw_okq (⟨"Rotationary", "endSetIfWonBy", "(I)V"⟩, 8) := ⟨⟨by decide +kernel, by decide +kernel⟩, List.mem_of_getElem? (i := 15) (by decide +kernel), List.mem_of_getElem? (i := 463) (by decide +kernel), List.mem_of_getElem? (i := 464) (by decide +kernel)⟩
theorem lw_p7 : lw_okq (⟨"Rotationary$Reader", "clear", "()V"⟩, 3) := ⟨⟨by decide +kernel, by decide +kernel⟩, List.mem_of_getElem? (i := 145) (by decide +kernel), List.mem_of_getElem? (i := 574) (by decide +kernel), List.mem_of_getElem? (i := 575) (by decide +kernel)⟩
theorem lw_p8 : lw_okq (⟨"Rotationary$Reader", "follow", "(IIII)V"⟩, 3) := ⟨⟨by decide +kernel, by decide +kernel⟩, List.mem_of_getElem? (i := 145) (by decide +kernel), List.mem_of_getElem? (i := 597) (by decide +kernel), List.mem_of_getElem? (i := 598) (by decide +kernel)⟩
theorem lw_p9 : lw_okq (⟨"Rotationary$Reader", "countLost", "(I)V"⟩, 3) := ⟨⟨by decide +kernel, by decide +kernel⟩, List.mem_of_getElem? (i := 145) (by decide +kernel), List.mem_of_getElem? (i := 605) (by decide +kernel), List.mem_of_getElem? (i := 606) (by decide +kernel)⟩
theorem lw_p10 : lw_okq (⟨"Rotationary$Reader", "rowOf", "(I)[I"⟩, 3) := ⟨⟨by decide +kernel, by decide +kernel⟩, List.mem_of_getElem? (i := 145) (by decide +kernel), List.mem_of_getElem? (i := 609) (by decide +kernel), List.mem_of_getElem? (i := 610) (by decide +kernel)⟩
theorem lw_p11 : lw_okq (⟨"RotationaryModel", "isOver", "()Z"⟩, 3) := ⟨⟨by decide +kernel, by decide +kernel⟩, List.mem_of_getElem? (i := 668) (by decide +kernel), List.mem_of_getElem? (i := 701) (by decide +kernel), List.mem_of_getElem? (i := 702) (by decide +kernel)⟩
theorem lw_p12 : lw_okq (⟨"RotationaryModel", "goes", "(I)Z"⟩, 3) := ⟨⟨by decide +kernel, by decide +kernel⟩, List.mem_of_getElem? (i := 668) (by decide +kernel), List.mem_of_getElem? (i := 705) (by decide +kernel), List.mem_of_getElem? (i := 706) (by decide +kernel)⟩
theorem lw_p13 : lw_okq (⟨"RotationaryModel", "isLinedUp", "(I)Z"⟩, 3) := ⟨⟨by decide +kernel, by decide +kernel⟩, List.mem_of_getElem? (i := 668) (by decide +kernel), List.mem_of_getElem? (i := 720) (by decide +kernel), List.mem_of_getElem? (i := 721) (by decide +kernel)⟩
theorem lw_p14 : lw_okq (⟨"RotationaryModel", "place", "(II)I"⟩, 3) := ⟨⟨by decide +kernel, by decide +kernel⟩, List.mem_of_getElem? (i := 668) (by decide +kernel), List.mem_of_getElem? (i := 724) (by decide +kernel), List.mem_of_getElem? (i := 725) (by decide +kernel)⟩
theorem lw_p15 : lw_okq (⟨"RotationaryModel", "fault", "(IIIZ)I"⟩, 3) := ⟨⟨by decide +kernel, by decide +kernel⟩, List.mem_of_getElem? (i := 668) (by decide +kernel), List.mem_of_getElem? (i := 736) (by decide +kernel), List.mem_of_getElem? (i := 737) (by decide +kernel)⟩
def lw_privs_1 : List (MethodName × Nat) := [(⟨"java/lang/Throwable", "fillInStackTrace", "(I)Ljava/lang/Throwable;"⟩, 6), (⟨"Rotationary", "checkAheadOfSet", "()V"⟩, 8), (⟨"Rotationary", "writeOrder", "(I)V"⟩, 8), (⟨"Rotationary", "checkBetweenRallies", "()V"⟩, 8), (⟨"Rotationary", "checkRally", "()V"⟩, 8), (⟨"Rotationary", "endRally", "(II)V"⟩, 8), (⟨"Rotationary", "endSetIfWonBy", "(I)V"⟩, 8), (⟨"Rotationary$Reader", "clear", "()V"⟩, 3), (⟨"Rotationary$Reader", "follow", "(IIII)V"⟩, 3), (⟨"Rotationary$Reader", "countLost", "(I)V"⟩, 3), (⟨"Rotationary$Reader", "rowOf", "(I)[I"⟩, 3), (⟨"RotationaryModel", "isOver", "()Z"⟩, 3), (⟨"RotationaryModel", "goes", "(I)Z"⟩, 3), (⟨"RotationaryModel", "isLinedUp", "(I)Z"⟩, 3), (⟨"RotationaryModel", "place", "(II)I"⟩, 3), (⟨"RotationaryModel", "fault", "(IIIZ)I"⟩, 3)]
theorem lw_r1 : ∀ q ∈ lw_privs_1, lw_okq q := List.forall_mem_cons.mpr ⟨lw_p0, List.forall_mem_cons.mpr ⟨lw_p1, List.forall_mem_cons.mpr ⟨lw_p2, List.forall_mem_cons.mpr ⟨lw_p3, List.forall_mem_cons.mpr ⟨lw_p4, List.forall_mem_cons.mpr ⟨lw_p5, List.forall_mem_cons.mpr ⟨lw_p6, List.forall_mem_cons.mpr ⟨lw_p7, List.forall_mem_cons.mpr ⟨lw_p8, List.forall_mem_cons.mpr ⟨lw_p9, List.forall_mem_cons.mpr ⟨lw_p10, List.forall_mem_cons.mpr ⟨lw_p11, List.forall_mem_cons.mpr ⟨lw_p12, List.forall_mem_cons.mpr ⟨lw_p13, List.forall_mem_cons.mpr ⟨lw_p14, List.forall_mem_cons.mpr ⟨lw_p15, fun _ h => absurd h List.not_mem_nil⟩⟩⟩⟩⟩⟩⟩⟩⟩⟩⟩⟩⟩⟩⟩⟩
theorem lw_p16 : lw_okq (⟨"RotationaryModel", "ends", "(II)V"⟩, 3) := ⟨⟨by decide +kernel, by decide +kernel⟩, List.mem_of_getElem? (i := 668) (by decide +kernel), List.mem_of_getElem? (i := 743) (by decide +kernel), List.mem_of_getElem? (i := 744) (by decide +kernel)⟩
theorem lw_p17 : lw_okq (⟨"RotationaryModel", "wins", "(II)V"⟩, 3) := ⟨⟨by decide +kernel, by decide +kernel⟩, List.mem_of_getElem? (i := 668) (by decide +kernel), List.mem_of_getElem? (i := 747) (by decide +kernel), List.mem_of_getElem? (i := 748) (by decide +kernel)⟩
theorem lw_p18 : lw_okq (⟨"RotationaryModel", "scores", "(I)V"⟩, 3) := ⟨⟨by decide +kernel, by decide +kernel⟩, List.mem_of_getElem? (i := 668) (by decide +kernel), List.mem_of_getElem? (i := 751) (by decide +kernel), List.mem_of_getElem? (i := 752) (by decide +kernel)⟩
theorem lw_p19 : lw_okq (⟨"RotationaryModel", "rotates", "(I)V"⟩, 3) := ⟨⟨by decide +kernel, by decide +kernel⟩, List.mem_of_getElem? (i := 668) (by decide +kernel), List.mem_of_getElem? (i := 755) (by decide +kernel), List.mem_of_getElem? (i := 756) (by decide +kernel)⟩
theorem lw_p20 : lw_okq (⟨"RotationaryModel", "pair", "(II)I"⟩, 3) := ⟨⟨by decide +kernel, by decide +kernel⟩, List.mem_of_getElem? (i := 668) (by decide +kernel), List.mem_of_getElem? (i := 779) (by decide +kernel), List.mem_of_getElem? (i := 780) (by decide +kernel)⟩
def lw_privs_2 : List (MethodName × Nat) := [(⟨"RotationaryModel", "ends", "(II)V"⟩, 3), (⟨"RotationaryModel", "wins", "(II)V"⟩, 3), (⟨"RotationaryModel", "scores", "(I)V"⟩, 3), (⟨"RotationaryModel", "rotates", "(I)V"⟩, 3), (⟨"RotationaryModel", "pair", "(II)I"⟩, 3)]
theorem lw_r2 : ∀ q ∈ lw_privs_2, lw_okq q := List.forall_mem_cons.mpr ⟨lw_p16, List.forall_mem_cons.mpr ⟨lw_p17, List.forall_mem_cons.mpr ⟨lw_p18, List.forall_mem_cons.mpr ⟨lw_p19, List.forall_mem_cons.mpr ⟨lw_p20, fun _ h => absurd h List.not_mem_nil⟩⟩⟩⟩⟩
def lw_privs : List (MethodName × Nat) := lw_privs_1 ++ (lw_privs_2)
def lw_tbl : List Cond := k2_sels lw_privs ++ tables_1
theorem lw_privs_ok : ∀ q ∈ lw_privs, lw_okq q := by
  show ∀ q ∈ lw_privs_1 ++ (lw_privs_2), lw_okq q
  exact List.forall_mem_append.mpr ⟨lw_r1, lw_r2⟩
end
section
/-! ===== BEGIN words of one list among another's, by their places ===== -/
theorem goodIn_r {big : List Cond} (ws : List Cond) (ps : List Nat) (hp : ws = ps.filterMap (fun i => big[i]?)) (h : ws.all goodWord = true) : GoodIn big ws := by
  intro w hw
  have h1 := List.all_eq_true.mp h w hw
  rw [hp] at hw
  obtain ⟨i, -, hi⟩ := List.mem_filterMap.mp hw
  have hm : w ∈ big := by first | exact List.mem_of_getElem? hi | exact List.getElem?_mem hi
  exact ⟨hm, good_of_word h1⟩
theorem goodIn_app {big a b : List Cond} (ha : GoodIn big a) (hb : GoodIn big b) : GoodIn big (a ++ b) := fun w h => (List.mem_append.mp h).elim (ha w) (hb w)
theorem goodIn_ca {big a b : List Cond} {c : Cond} (ha : GoodIn big (c :: a)) (hb : GoodIn big b) : GoodIn big (c :: (a ++ b)) := fun w h => (List.mem_cons.mp h).elim (fun e => ha w (List.mem_cons.mpr (Or.inl e))) (fun h => (List.mem_append.mp h).elim (fun h => ha w (List.mem_cons.mpr (Or.inr h))) (hb w))
theorem goodIn_sub {big ws : List Cond} (hm : ∀ w ∈ ws, w ∈ big) (h : ws.all goodWord = true) : GoodIn big ws := fun w hw => ⟨hm w hw, good_of_word (List.all_eq_true.mp h w hw)⟩
/-! ===== END ===== -/

/-! ===== BEGIN exceptions that leave a method, and their catching by the caller (launches without stack traces) ===== -/
section VXA
/-! The laws vx_back, vx_callV, vx_callS, vx_callSW, vx_throw0, vx_throwS follow proofs of the library, with one case more: JvmDerived/Free/Laws.lean (Back.of_free), Shelf42/LK1.lean (callV, callS), Shelf/KitTraced.lean (throwNew0V, throwNewS). -/
/-- where a method has thrown q: the class by its name, the cell, what was written, the world -/
def vx_T (XC : String → State → State → Prop) (st : State) (q : Addr) (t : State) (mc ms : Nat) (free : Addr → Prop) : Prop :=
  ∃ (E : String) (ce : Cell) (L : List Loc), XC E st t ∧ t.heap[q]? = some ce ∧ ce.vm = .none ∧ st.vm.findClass E = some ce.cls ∧ st.WarmedH t.vm ∧ st.sameButNew ({ t with vm := st.vm } : State) L mc ms ∧ ∀ z ∈ L, free z.base
def vx_Q (Qc : Array Value → State → Outcome → State → Prop) (XC : String → State → State → Prop) (mc ms : Nat) (free : Addr → Prop) : Array Value → State → Outcome → State → Prop := fun a st o t =>
  (Qc a st o t ∧ ∃ L, FrameEnd st o t L mc ms ∧ ∀ q ∈ L, free q.base) ∨ ∃ q, o = .threw q ∧ vx_T XC st q t mc ms free
/-- a callee that returns or throws -/
def vx_Met (l : Launch) (y : MethodName) (ws : List Cond) (rm : Room) (Pc : Array Value → State → Prop) (Qc : Array Value → State → Outcome → State → Prop) (XC : String → State → State → Prop) (mc ms : Nat) (free : Addr → Prop) : Prop :=
  MetFree l y (headSpec ws rm) Pc (fun _ _ _ _ _ => True) (vx_Q Qc XC mc ms free)
def vx_Post (XC : String → State → State → Prop) (mc ms : Nat) (free : Addr → Prop) : Pt → Array Value → Addr → Pt → Prop := fun A a q B =>
  ∃ (g : JFrame) (mk : MethodId) (t : State) (L : List Loc) (E : String) (ce : Cell), B.U.heap = t.heap ∧ B.U.vm = t.vm ∧ XC E (A.U.calling g mk a) t ∧ t.heap[q]? = some ce ∧ ce.vm = .none ∧ A.U.vm.findClass E = some ce.cls ∧ B.locs = A.locs ++ L ∧ (∀ z ∈ L, free z.base) ∧ B.cells = A.cells + mc ∧ B.slots = A.slots + ms
def vx_Back (l : Launch) (R : Room) (p : Program) (e : Env) (below : List Frame) (s : State) (sargs : Array Value) (y : MethodName) (len W9 : Nat)
    (Pre : Pt → Array Value → Prop) (Post : Pt → Array Value → Option Value → Pt → Prop) (PostX : Pt → Array Value → Addr → Pt → Prop) : Prop :=
  ∀ (m : MethodId) (meth : Method) (c : Code) (A : Pt) (g : JFrame) (ig : Instr) (mk : MethodId) (a : Array Value),
    Stand p l e R s m sargs below meth c A.U A.locs A.cells A.slots → g.method = m → g.locals.size = c.maxLocals → decode c.code g.pc = .ok (ig, len) →
    2 * g.monitorRoom + (g.stack.map fun v => v.category).sum ≤ W9 → A.U.methodNamed? y = some mk → Pre A a →
    (∃ (v : Option Value) (B : Pt), Stand p l e R s m sargs below meth c B.U B.locs B.cells B.slots ∧ Post A a v B ∧
      Steps p.tables e below (doInvoke e (A.U.setTop g) [] mk a).1 (B.U.setTop { g with pc := g.pc + len, stack := v.toList ++ g.stack })) ∨
    (∃ (q : Addr) (B : Pt), Stand p l e R s m sargs below meth c B.U B.locs B.cells B.slots ∧ PostX A a q B ∧
      Steps p.tables e below (doInvoke e (A.U.setTop g) [] mk a).1 ((B.U.setTop g).pushFrame (.throwing q)))
section Payer
variable {l : Launch} {R : Room} {p : Program} {e : Env} {below : List Frame} {s : State} {sargs : Array Value} {y : MethodName} {len W9 : Nat}
theorem vx_back {ws : List Cond} {rm : Room} {Pc : Array Value → State → Prop} {Qc : Array Value → State → Outcome → State → Prop} {XC : String → State → State → Prop} {mc ms : Nat} {free : Addr → Prop} {bytes : ByteArray} {maxL : Nat} {ret : Option FieldType}
    (hM : vx_Met l y ws rm Pc Qc XC mc ms free) (hblind : FrameBlind Pc) (hrc : rm.cells = mc) (hrs : rm.slots = ms)
    (hframes : rm.frames + 1 ≤ R.frames) (hlocals : W9 + (maxL + 11) + rm.locals ≤ R.locals)
    (hws : ∀ w ∈ ws, ∀ a' U, s.WarmedH U.vm → w.before a' U = true) (hcode : Cond.code y bytes maxL ret ∈ ws) (hinit : ∀ a' U, s.WarmedH U.vm → (Cond.initialized y.cls).before a' U = true) :
    vx_Back l R p e below s sargs y len W9 (PreOf R mc ms Pc) (PostOf Qc mc ms free) (vx_Post XC mc ms free) := by
  intro m meth c A g ig mk a X hg hsize hdg hW hn hp
  have h1 : (headSpec ws rm).pre.before a A.U = true := atoms_intro fun w hw => hws w hw _ _ X.warmed
  have h2 : (Cond.code y bytes maxL ret).before a A.U = true := hws _ hcode _ _ X.warmed
  have h3 : (Cond.initialized y.cls).before a A.U = true := hinit _ _ X.warmed
  have h4 : A.cells + (headSpec ws rm).room.cells ≤ R.cells := by rw [show (headSpec ws rm).room.cells = mc from hrc]; exact hp.1
  have h5 : A.slots + (headSpec ws rm).room.slots ≤ R.slots := by rw [show (headSpec ws rm).room.slots = ms from hrs]; exact hp.2.1
  have hPc : Pc a (A.U.calling g mk a) := hblind _ _ _ _ hp.2.2
  obtain ⟨U, Ls, c0, s0⟩ := A
  dsimp only [Pt.U, Pt.locs, Pt.cells, Pt.slots] at h1 h2 h3 h4 h5 X hn hPc ⊢
  obtain ⟨methY, cY, hmY, hcY, -, hlY, -, -, -, -⟩ := Cond.code_spec hn h2
  obtain ⟨kY, hkY, -⟩ := className_of_methodNamed hn
  have hinitY : kY.init = .initialized := Cond.initialized_spec (findClass_of_methodNamed hn) hkY h3
  have h : At U g.method c below := by rw [hg]; exact X.here
  have hlocals9 : W9 + (maxL + 11) + (headSpec ws rm).room.locals ≤ R.locals := hlocals
  have happ : (headSpec ws rm).appliesLoose y e.platform (U.calling g mk a) = true :=
    Spec.appliesLoose_calling (g := g) h hdg hn hkY hinitY
      (X.room_calling (g := g) (R' := (headSpec ws rm).room) hsize hmY hcY hframes (by rw [hlY]; omega) h4 h5) h1
  obtain ⟨mid, hmid⟩ := h.above
  have hfr : (U.setTop g).frames = (.java g :: mid) ++ below := by rw [State.frames_setTop' g h.top, hmid]; rfl
  obtain ⟨o, s₂, hsteps, -, hend, hq⟩ := Steps.callFree hM p X.admits X.cas X.clock (acts := []) hfr happ hPc trivial
  have hq' : vx_Q Qc XC mc ms free a (U.calling g mk a) o s₂ := hq
  rw [State.frames_setTop' g h.top] at hend
  obtain ⟨g₀, hg0⟩ := Option.isSome_iff_exists.mp h.top
  obtain ⟨r, hr⟩ := State.topJava?_eq_some.mp hg0
  have hr' : (({ U with heap := s₂.heap, slotsUsed := s₂.slotsUsed } : State).setVm s₂.vm).frames = .java g₀ :: r := hr
  rcases hq' with ⟨hqc, L, hfe, hL⟩ | ⟨q, rfl, E, ce, L, hx, hce, hcv, hcl, hW₂, hsm, hL⟩
  · obtain ⟨⟨v, rfl⟩, hW₂, e2, q2, q3, q4, q5, q6⟩ := id hfe
    have e3 : s₂ = ({ (U.calling g mk a).setFrames s₂.frames with heap := s₂.heap, slotsUsed := s₂.slotsUsed } : State).setVm s₂.vm := by
      have : s₂ = ({ s₂ with vm := (U.calling g mk a).vm } : State).setVm s₂.vm := rfl
      rw [e2] at this
      exact this
    obtain ⟨c₂, i₂, len₂, hc₂, hd₂, hf₂⟩ := hend
    have hW' : U.WarmedH s₂.vm := hW₂
    have hcc : c₂ = c := by
      have h1 : s₂.code? g.method = U.code? g.method := by
        rw [State.code?_eq, State.code?_eq, hW'.alike.method?]
      exact Option.some.inj (hc₂.symm.trans (h1.trans h.code))
    subst hcc
    have hlen : len₂ = len := by rw [hdg] at hd₂; cases hd₂; rfl
    subst hlen
    have hs₂ : s₂ = (({ U with heap := s₂.heap, slotsUsed := s₂.slotsUsed } : State).setVm s₂.vm).setTop { g with pc := g.pc + len₂, stack := v.toList ++ g.stack } := by
      refine e3.trans ?_
      rw [hf₂, State.calling_eq h.top, State.setFrames_setFrames, State.setTop_of_frames _ hr', hr]
      rfl
    have hsame : U.sameButNew ({ U with heap := s₂.heap, slotsUsed := s₂.slotsUsed } : State) L mc ms := by
      refine ⟨?_, q2, q3, q4, q5, q6⟩
      obtain ⟨t, ht, -⟩ := State.frames_cons hr
      show ({ U with heap := s₂.heap, slotsUsed := s₂.slotsUsed } : State) = { U.setFrames U.frames with heap := s₂.heap, slotsUsed := s₂.slotsUsed }
      rw [State.setFrames_self ht]
    subst hg
    refine Or.inl ⟨v, ⟨(({ U with heap := s₂.heap, slotsUsed := s₂.slotsUsed } : State).setVm s₂.vm), Ls ++ L, c0 + mc, s0 + ms⟩,
      ⟨X.admits, X.cas, X.clock, X.frames, X.room, X.hears, X.method, X.code, (X.here.setHeapUsed s₂.heap s₂.slotsUsed).setVm hW'.alike, X.tail, State.WarmedH.trans X.warmed hW', X.limits, X.bytes, X.same.trans (hsame.setVm s.vm)⟩,
      ⟨g, mk, s₂, L, rfl, rfl, hqc, rfl, hL, rfl, rfl⟩, ?_⟩
    show Steps p.tables e below _ ((({ U with heap := s₂.heap, slotsUsed := s₂.slotsUsed } : State).setVm s₂.vm).setTop { g with pc := g.pc + len₂, stack := v.toList ++ g.stack })
    rw [← hs₂]
    exact hsteps
  · obtain ⟨e2, q2, q3, q4, q5, q6⟩ := id hsm
    have e3 : s₂ = ({ (U.calling g mk a).setFrames s₂.frames with heap := s₂.heap, slotsUsed := s₂.slotsUsed } : State).setVm s₂.vm := by
      have : s₂ = ({ s₂ with vm := (U.calling g mk a).vm } : State).setVm s₂.vm := rfl
      rw [e2] at this
      exact this
    have hf₂ : s₂.frames = .throwing q :: .java g :: U.frames.tail := hend
    have hW' : U.WarmedH s₂.vm := hW₂
    have hs₂ : s₂ = ((({ U with heap := s₂.heap, slotsUsed := s₂.slotsUsed } : State).setVm s₂.vm).setTop g).pushFrame (.throwing q) := by
      refine e3.trans ?_
      rw [hf₂, State.calling_eq h.top, State.setFrames_setFrames, State.pushFrame, State.frames_setTop _ hr', State.setTop_of_frames _ hr', State.setFrames_setFrames, hr]
      rfl
    have hsame : U.sameButNew ({ U with heap := s₂.heap, slotsUsed := s₂.slotsUsed } : State) L mc ms := by
      refine ⟨?_, q2, q3, q4, q5, q6⟩
      obtain ⟨t, ht, -⟩ := State.frames_cons hr
      show ({ U with heap := s₂.heap, slotsUsed := s₂.slotsUsed } : State) = { U.setFrames U.frames with heap := s₂.heap, slotsUsed := s₂.slotsUsed }
      rw [State.setFrames_self ht]
    subst hg
    refine Or.inr ⟨q, ⟨(({ U with heap := s₂.heap, slotsUsed := s₂.slotsUsed } : State).setVm s₂.vm), Ls ++ L, c0 + mc, s0 + ms⟩,
      ⟨X.admits, X.cas, X.clock, X.frames, X.room, X.hears, X.method, X.code, (X.here.setHeapUsed s₂.heap s₂.slotsUsed).setVm hW'.alike, X.tail, State.WarmedH.trans X.warmed hW', X.limits, X.bytes, X.same.trans (hsame.setVm s.vm)⟩,
      ⟨g, mk, s₂, L, E, ce, rfl, rfl, hx, hce, hcv, hcl, rfl, hL, rfl, rfl⟩, ?_⟩
    show Steps p.tables e below _ (((({ U with heap := s₂.heap, slotsUsed := s₂.slotsUsed } : State).setVm s₂.vm).setTop g).pushFrame (.throwing q))
    rw [← hs₂]
    exact hsteps
end Payer
section Calls
variable {p : Program} {l : Launch} {e : Env} {R : Room} {s : State} {m : MethodId} {args : Array Value} {below : List Frame} {meth : Method} {c : Code} {T : State} {locs : List Loc} {cells slots : Nat}
theorem vx_callV (X : Stand p l e R s m args below meth c T locs cells slots) (hexec : p.tables.exec = Jvm.exec) {own C : String} {index : Nat} {y : MethodName} {bytes : ByteArray} {maxL : Nat} {ret : Option FieldType}
    (hown : s.vm.findClass own = some m.cls) (hlink : (Cond.methodLink own index y).before args s = true) (hinst : (Cond.instanceMethod y).before args s = true) (hsel : (Cond.selects C y y).before args s = true)
    (hcode : (Cond.code y bytes maxL ret).before args s = true) (hy : y.cls ≠ "java/lang/invoke/MethodHandle" ∧ y.cls ≠ "java/lang/invoke/VarHandle")
    {W9 : Nat} {Pre : Pt → Array Value → Prop} {Post : Pt → Array Value → Option Value → Pt → Prop} {PostX : Pt → Array Value → Addr → Pt → Prop} (hK : vx_Back l R p e below s args y 3 W9 Pre Post PostX)
    {b : Addr} {cellB : Cell} (hcell : T.heap[b]? = some cellB) (hobj : cellB.vm.isStatics = false) (hcls : s.vm.findClass C = some cellB.cls)
    {g : JFrame} (hg : g.method = m) (hsize : g.locals.size = c.maxLocals) {argsL rest : List Value} (hlen : ∀ sig, parseMethodDescriptor y.desc = some sig → argsL.length = sig.parameters.length)
    (hstack : g.stack = argsL.reverse ++ .ref b :: rest) (hW : 2 * g.monitorRoom + (rest.map fun v => v.category).sum ≤ W9) (hdg : decode c.code g.pc = .ok (.invokevirtual index, 3))
    (hpre : ∀ vm₁, s.WarmedH vm₁ → Pre ⟨T.setVm vm₁, locs, cells, slots⟩ (Value.ref b :: argsL).toArray) :
    (∃ (v : Option Value) (vm₁ : Vm) (B : Pt), s.WarmedH vm₁ ∧ Stand p l e R s m args below meth c B.U B.locs B.cells B.slots ∧ Post ⟨T.setVm vm₁, locs, cells, slots⟩ (Value.ref b :: argsL).toArray v B ∧
      ∀ target, Steps p.tables e below (B.U.setTop { g with pc := g.pc + 3, stack := v.toList ++ rest }) target → Steps p.tables e below (T.setTop g) target) ∨
    (∃ (q : Addr) (vm₁ : Vm) (B : Pt), s.WarmedH vm₁ ∧ Stand p l e R s m args below meth c B.U B.locs B.cells B.slots ∧ PostX ⟨T.setVm vm₁, locs, cells, slots⟩ (Value.ref b :: argsL).toArray q B ∧
      Steps p.tables e below (T.setTop g) ((B.U.setTop { g with stack := rest }).pushFrame (.throwing q))) := by
  obtain ⟨mk, methM, hnamed, hmethM, hstM, habM⟩ := Cond.instanceMethod_spec hinst
  obtain ⟨methM', cM, hmethM', -, -, -, -, -, -, hsigM⟩ := Cond.code_spec hnamed hcode
  cases hmethM.symm.trans hmethM'
  obtain ⟨c2, r2, m2, q1, q2, q3, q4, kP, hkP, hkPi⟩ := Cond.selects_spec hsel
  cases hcls.symm.trans q1
  cases (State.methodFound?_of_named hnamed hy).symm.trans q2
  cases hnamed.symm.trans q3
  have hselP : selectMethod e.platform s.vm cellB.cls mk = .method mk := by rw [Launch.admits_selectMethod X.admits]; exact q4
  obtain ⟨vm₁, X₁, hstep₁⟩ := X.invokevirtual hexec hown hlink hnamed hmethM hstM hkP hkPi hy (a := b) (cell := cellB) hcell
    (fun z h => by rw [h] at hobj; cases hobj) hselP hmethM habM hkP hkPi (g := g) hg (argsL := argsL) (rest := rest) (hlen _ hsigM) hstack hdg
  rcases hK m meth c ⟨T.setVm vm₁, locs, cells, slots⟩ { g with stack := rest } (.invokevirtual index) mk (Value.ref b :: argsL).toArray X₁ hg hsize hdg hW (X₁.named hnamed) (hpre vm₁ X₁.warmed) with ⟨v, B, X', hpost, hsteps⟩ | ⟨q, B, X', hpost, hsteps⟩
  · exact Or.inl ⟨v, vm₁, B, X₁.warmed, X', hpost, fun target h => hstep₁ _ fun acts => by rw [doInvoke_state]; exact hsteps.trans h⟩
  · exact Or.inr ⟨q, vm₁, B, X₁.warmed, X', hpost, hstep₁ _ fun acts => by rw [doInvoke_state]; exact hsteps⟩
theorem vx_callS (X : Stand p l e R s m args below meth c T locs cells slots) (hexec : p.tables.exec = Jvm.exec) {own : String} {index : Nat} {y : MethodName} {bytes : ByteArray} {maxL : Nat} {ret : Option FieldType}
    (hown : s.vm.findClass own = some m.cls) (hlink : (Cond.methodLink own index y).before args s = true) (hstat : (Cond.static y).before args s = true) (hinit : (Cond.initialized y.cls).before args s = true)
    (hcode : (Cond.code y bytes maxL ret).before args s = true) (hy : y.cls ≠ "java/lang/invoke/MethodHandle" ∧ y.cls ≠ "java/lang/invoke/VarHandle")
    {W9 : Nat} {Pre : Pt → Array Value → Prop} {Post : Pt → Array Value → Option Value → Pt → Prop} {PostX : Pt → Array Value → Addr → Pt → Prop} (hK : vx_Back l R p e below s args y 3 W9 Pre Post PostX)
    {g : JFrame} (hg : g.method = m) (hsize : g.locals.size = c.maxLocals) {argsL rest : List Value} (hlen : ∀ sig, parseMethodDescriptor y.desc = some sig → argsL.length = sig.parameters.length)
    (hstack : g.stack = argsL.reverse ++ rest) (hW : 2 * g.monitorRoom + (rest.map fun v => v.category).sum ≤ W9) (hdg : decode c.code g.pc = .ok (.invokestatic index, 3))
    (hpre : ∀ vm₁, s.WarmedH vm₁ → Pre ⟨T.setVm vm₁, locs, cells, slots⟩ argsL.toArray) :
    (∃ (v : Option Value) (vm₁ : Vm) (B : Pt), s.WarmedH vm₁ ∧ Stand p l e R s m args below meth c B.U B.locs B.cells B.slots ∧ Post ⟨T.setVm vm₁, locs, cells, slots⟩ argsL.toArray v B ∧
      ∀ target, Steps p.tables e below (B.U.setTop { g with pc := g.pc + 3, stack := v.toList ++ rest }) target → Steps p.tables e below (T.setTop g) target) ∨
    (∃ (q : Addr) (vm₁ : Vm) (B : Pt), s.WarmedH vm₁ ∧ Stand p l e R s m args below meth c B.U B.locs B.cells B.slots ∧ PostX ⟨T.setVm vm₁, locs, cells, slots⟩ argsL.toArray q B ∧
      Steps p.tables e below (T.setTop g) ((B.U.setTop { g with stack := rest }).pushFrame (.throwing q))) := by
  obtain ⟨mk, hnamed⟩ := Cond.code_named hcode
  obtain ⟨methM, cM, hmethM, -, -, -, -, -, -, hsigM⟩ := Cond.code_spec hnamed hcode
  have hstatic : methM.isStatic = true := Cond.static_spec hnamed hmethM hstat
  obtain ⟨kP, hkP, -⟩ := className_of_methodNamed hnamed
  have hinitP : kP.init = .initialized := Cond.initialized_spec (findClass_of_methodNamed hnamed) hkP hinit
  obtain ⟨vm₁, X₁, hstep₁⟩ := X.invokestatic hexec hown hlink hnamed hmethM hstatic hkP hinitP hy (g := g) hg (argsL := argsL) (rest := rest) (hlen _ hsigM) hstack hdg
  rcases hK m meth c ⟨T.setVm vm₁, locs, cells, slots⟩ { g with stack := rest } (.invokestatic index) mk argsL.toArray X₁ hg hsize hdg hW (X₁.named hnamed) (hpre vm₁ X₁.warmed) with ⟨v, B, X', hpost, hsteps⟩ | ⟨q, B, X', hpost, hsteps⟩
  · exact Or.inl ⟨v, vm₁, B, X₁.warmed, X', hpost, fun target h => hstep₁ _ fun acts => by rw [doInvoke_state]; exact hsteps.trans h⟩
  · exact Or.inr ⟨q, vm₁, B, X₁.warmed, X', hpost, hstep₁ _ fun acts => by rw [doInvoke_state]; exact hsteps⟩
end Calls
theorem vx_cls {s : State} {T : State} {vm₁ : Vm} {E : String} {k : ClassId} (hW : s.WarmedH vm₁) (h : (T.setVm vm₁).vm.findClass E = some k) : s.vm.findClass E = some k := by
  have h1 : vm₁.findClass E = some k := h
  rw [hW.alike.findClass] at h1
  exact h1
/-- the method's frame g, with q thrown over it -/
def vx_W (p : Program) (l : Launch) (e : Env) (R : Room) (s : State) (m : MethodId) (args : Array Value) (below : List Frame) (meth : Method) (c : Code) (H : Heap) (locs : List Loc) (cells slots : Nat) (Q : State → Prop) (g : JFrame) (q : Addr) : Prop :=
  ∀ T : State, T.heap = H → Stand p l e R s m args below meth c T locs cells slots → ∃ t, Steps p.tables e below ((T.setTop g).pushFrame (.throwing q)) t ∧ Q t
def vx_Run (p : Program) (l : Launch) (e : Env) (R : Room) (s : State) (m : MethodId) (args : Array Value) (below : List Frame) (meth : Method) (c : Code) (H : Heap) (locs : List Loc) (cells slots mc ms : Nat) (g : JFrame) (rest : List Value) (Qa : State → Outcome → State → Prop) (XC : String → State → State → Prop) (free : Addr → Prop) : Prop :=
  ∀ T : State, T.heap = H → Stand p l e R s m args below meth c T locs cells slots →
    (∃ (v : Option Value) (st₀ t T' : State) (L : List Loc), st₀.heap = H ∧ Stand p l e R s m args below meth c T' (locs ++ L) (cells + mc) (slots + ms) ∧ (∀ q ∈ L, free q.base) ∧ T'.heap = t.heap ∧ T'.vm = t.vm ∧ Qa st₀ (.returned v) t ∧
      Goes p e below T g T' { g with pc := g.pc + 3, stack := v.toList ++ rest }) ∨
    (∃ (q : Addr) (st₀ t T' : State) (L : List Loc) (E : String) (ce : Cell), st₀.heap = H ∧ Stand p l e R s m args below meth c T' (locs ++ L) (cells + mc) (slots + ms) ∧ (∀ z ∈ L, free z.base) ∧ T'.heap = t.heap ∧ T'.vm = t.vm ∧ XC E st₀ t ∧ t.heap[q]? = some ce ∧ ce.vm = .none ∧ s.vm.findClass E = some ce.cls ∧
      Steps p.tables e below (T.setTop g) ((T'.setTop { g with stack := rest }).pushFrame (.throwing q)))
def vx_X {S : Type} (px : S → Prop) (B : String → S → State → Prop) (A : Nat → Prop) : String → State → State → Prop := fun E st t => ∃ u : S, px u ∧ B E u t ∧ va_F A st t
section Runs
variable {p : Program} {l : Launch} {e : Env} {R : Room} {s : State} {m : MethodId} {args : Array Value} {below : List Frame} {meth : Method} {c : Code} {H : Heap} {locs : List Loc} {cells slots : Nat}
variable {y : MethodName} {bytes cc : ByteArray} {maxL nL mc ms n index : Nat} {ret : Option FieldType} {ws : List Cond} {rm : Room} {Pc : Array Value → State → Prop} {Qc : Array Value → State → Outcome → State → Prop} {XC : String → State → State → Prop} {free : Addr → Prop} {Ts : List Cond} {own C : String} {b : Addr} {As rest : List Value} {g : JFrame}
theorem vx_callBack (cb : CallB R s args own index y bytes maxL ret ws rm mc ms n) (hM : vx_Met l y ws rm Pc Qc XC mc ms free) (hbl : FrameBlind Pc) : vx_Back l R p e below s args y 3 8 (PreOf R mc ms Pc) (PostOf Qc mc ms free) (vx_Post XC mc ms free) := by
  obtain ⟨hrc, hrs, hfr, hlo, hws, hcw, -, hini, -⟩ := cb
  exact vx_back (bytes := bytes) (maxL := maxL) (ret := ret) hM hbl hrc hrs hfr hlo hws hcw (fun a' U hW => word_at hW (Or.inl (by first | rfl | simp [Cond.onTables, Cond.keeps, Cond.steady])) hini)
theorem vx_runV (S : CallFix p m c cc nL s args Ts own) (hM : vx_Met l y ws rm Pc Qc XC mc ms free) (cw : CallW R s args own C index y bytes maxL ret ws rm mc ms n) (hp : PreV s H C b Pc As)
    (hg : g.method = m) (hn : As.length = n) (hsize : g.locals.size = nL) (hstack : g.stack = As.reverse ++ .ref b :: rest) (hW : 2 * g.monitorRoom + (rest.map fun v => v.category).sum ≤ 8) (hdg : decode cc g.pc = .ok (.invokevirtual index, 3)) (hf : cells + mc ≤ R.cells ∧ slots + ms ≤ R.slots) :
    vx_Run p l e R s m args below meth c H locs cells slots mc ms g rest (Qc (Value.ref b :: As).toArray) XC free := by
  have hK : vx_Back l R p e below s args y 3 8 (PreOf R mc ms Pc) (PostOf Qc mc ms free) (vx_Post XC mc ms free) := vx_callBack cw.1 hM hp.1
  obtain ⟨⟨-, -, -, -, -, -, hcode, -, hy, hlen, hl⟩, hin, hse⟩ := cw
  obtain ⟨hx, hb, hml, ho, -⟩ := S
  obtain ⟨-, ⟨cellB, hcB, hoB, hclB⟩, hPc⟩ := hp
  intro T hT X
  rcases vx_callV X hx (C := C) (bytes := bytes) (maxL := maxL) (ret := ret) ho hl hin hse hcode hy hK (by rw [hT]; exact hcB) hoB hclB hg (hsize.trans hml.symm) (argsL := As) (rest := rest) (fun sig h => hn.trans (hlen sig h)) hstack hW (by rw [hb]; exact hdg)
    (fun vm₁ hW₁ => ⟨hf.1, hf.2, hPc (T.setVm vm₁) hT hW₁⟩) with ⟨v, vm₁, ⟨U', l2, c2, s2⟩, hW₁, X', ⟨g', mk, t, L, e1, e2, hq, h1, hL, h2, h3⟩, st⟩ | ⟨q, vm₁, ⟨U', l2, c2, s2⟩, hW₁, X', ⟨g', mk, t, L, E, ce, e1, e2, hq, hce, hcv, hcl, h1, hL, h2, h3⟩, st⟩
  · dsimp only [Pt.U, Pt.locs, Pt.cells, Pt.slots] at X' e1 e2 h1 h2 h3 st
    subst h1; subst h2; subst h3
    exact Or.inl ⟨v, (T.setVm vm₁).calling g' mk (Value.ref b :: As).toArray, t, U', L, hT, X', hL, e1, e2, hq, st⟩
  · dsimp only [Pt.U, Pt.locs, Pt.cells, Pt.slots] at X' e1 e2 h1 h2 h3 st hcl
    subst h1; subst h2; subst h3
    exact Or.inr ⟨q, (T.setVm vm₁).calling g' mk (Value.ref b :: As).toArray, t, U', L, E, ce, hT, X', hL, e1, e2, hq, hce, hcv, vx_cls hW₁ hcl, st⟩
theorem vx_runS (S : CallFix p m c cc nL s args Ts own) (hM : vx_Met l y ws rm Pc Qc XC mc ms free) (cw : CallB R s args own index y bytes maxL ret ws rm mc ms n ∧ (Cond.static y).before args s = true) (hp : PreS s H Pc As)
    (hg : g.method = m) (hn : As.length = n) (hsize : g.locals.size = nL) (hstack : g.stack = As.reverse ++ rest) (hW : 2 * g.monitorRoom + (rest.map fun v => v.category).sum ≤ 8) (hdg : decode cc g.pc = .ok (.invokestatic index, 3)) (hf : cells + mc ≤ R.cells ∧ slots + ms ≤ R.slots) :
    vx_Run p l e R s m args below meth c H locs cells slots mc ms g rest (Qc As.toArray) XC free := by
  have hK : vx_Back l R p e below s args y 3 8 (PreOf R mc ms Pc) (PostOf Qc mc ms free) (vx_Post XC mc ms free) := vx_callBack cw.1 hM hp.1
  obtain ⟨⟨-, -, -, -, -, -, hcode, hini, hy, hlen, hl⟩, hstt⟩ := cw
  obtain ⟨hx, hb, hml, ho, -⟩ := S
  intro T hT X
  rcases vx_callS X hx (bytes := bytes) (maxL := maxL) (ret := ret) ho hl hstt hini hcode hy hK hg (hsize.trans hml.symm) (argsL := As) (rest := rest) (fun sig h => hn.trans (hlen sig h)) hstack hW (by rw [hb]; exact hdg)
    (fun vm₁ hW₁ => ⟨hf.1, hf.2, hp.2 (T.setVm vm₁) hT hW₁⟩) with ⟨v, vm₁, ⟨U', l2, c2, s2⟩, hW₁, X', ⟨g', mk, t, L, e1, e2, hq, h1, hL, h2, h3⟩, st⟩ | ⟨q, vm₁, ⟨U', l2, c2, s2⟩, hW₁, X', ⟨g', mk, t, L, E, ce, e1, e2, hq, hce, hcv, hcl, h1, hL, h2, h3⟩, st⟩
  · dsimp only [Pt.U, Pt.locs, Pt.cells, Pt.slots] at X' e1 e2 h1 h2 h3 st
    subst h1; subst h2; subst h3
    exact Or.inl ⟨v, (T.setVm vm₁).calling g' mk As.toArray, t, U', L, hT, X', hL, e1, e2, hq, st⟩
  · dsimp only [Pt.U, Pt.locs, Pt.cells, Pt.slots] at X' e1 e2 h1 h2 h3 st hcl
    subst h1; subst h2; subst h3
    exact Or.inr ⟨q, (T.setVm vm₁).calling g' mk As.toArray, t, U', L, E, ce, hT, X', hL, e1, e2, hq, hce, hcv, vx_cls hW₁ hcl, st⟩
end Runs
section Rows
variable {p : Program} {l : Launch} {e : Env} {R : Room} {s : State} {m : MethodId} {args : Array Value} {below : List Frame} {meth : Method} {c : Code} {H : Heap} {locs : List Loc} {cells slots : Nat} {Q : State → Prop}
variable {mc ms : Nat} {free : Addr → Prop} {A0 A1 : Nat → Prop} {H0 : Heap} {a : Array Value} {pc : Nat} {ls : Array Slot} {st0 rest : List Value}
theorem vx_keep {st₀ t T' : State} {L : List Loc} (h0 : st₀.heap = H) (e1 : T'.heap = t.heap) (hS : va_S A0 H0 H locs) (hA : ∀ q, q < H.size → A1 q → A0 q) (hf : ∀ q, free q → A0 q) (hL : ∀ q ∈ L, free q.base) (hF : va_F A1 st₀ t) :
    H.size ≤ T'.heap.size ∧ (∀ q : Nat, q < H.size → ¬ A1 q → T'.heap[q]? = H[q]?) ∧ va_S A0 H0 T'.heap (locs ++ L) := by
  obtain ⟨hz, hk⟩ := hF
  rw [h0] at hz hk
  exact ⟨by rw [e1]; exact hz, fun q h1 h2 => by rw [e1]; exact hk q h1 h2,
    ⟨Nat.le_trans hS.1 (by rw [e1]; exact hz), fun q h1 h2 => by rw [e1, hk q (Nat.lt_of_lt_of_le h1 hS.1) (fun z => h2 (hA q (Nat.lt_of_lt_of_le h1 hS.1) z))]; exact hS.2.1 q h1 h2, fun q hq => by
      rcases List.mem_append.mp hq with h | h
      · exact hS.2.2 q h
      · exact hf _ (hL q h)⟩⟩
theorem vx_calli {S SX : Type} {post : Int32 → S → Prop} {px : SX → Prop} {B : S → State → Prop} {BX : String → SX → State → Prop} {AX : Nat → Prop} (hr : vx_Run p l e R s m args below meth c H locs cells slots mc ms (F0 m pc ls st0) rest (va_Qi post B A1 a) (vx_X px BX AX) free) (hS : va_S A0 H0 H locs) (hA : ∀ q, q < H.size → A1 q → A0 q) (hf : ∀ q, free q → A0 q) (hAX : ∀ q, q < H.size → AX q → A0 q)
    (kx : ∀ (E : String) (ce : Cell) (q9 : Addr) (u : SX) (t : State) (H1 : Heap) (locs1 : List Loc), t.heap = H1 → s.vm.Alike t.vm → px u → BX E u t → H.size ≤ H1.size → (∀ q : Nat, q < H.size → ¬ AX q → H1[q]? = H[q]?) → va_S A0 H0 H1 locs1 → H1[q9]? = some ce → ce.vm = .none → s.vm.findClass E = some ce.cls → vx_W p l e R s m args below meth c H1 locs1 (cells + mc) (slots + ms) Q (F0 m pc ls rest) q9)
    (kk : ∀ (r : Int32) (u : S) (t : State) (H1 : Heap) (locs1 : List Loc), t.heap = H1 → s.vm.Alike t.vm → post r u → B u t → H.size ≤ H1.size → (∀ q : Nat, q < H.size → ¬ A1 q → H1[q]? = H[q]?) → va_S A0 H0 H1 locs1 → W p l e R s m args below meth c H1 locs1 (cells + mc) (slots + ms) Q (F0 m (pc + 3) ls (.int r :: rest))) : W p l e R s m args below meth c H locs cells slots Q (F0 m pc ls st0) := by
  intro T hT X
  rcases hr T hT X with ⟨v, st₀, t, T', L, h0, X', hL, e1, e2, ⟨⟨r, u, hv, hp, hb⟩, hF⟩, st⟩ | ⟨q, st₀, t, T', L, E, ce, h0, X', hL, e1, e2, ⟨u, hp, hb, hF⟩, hce, hcv, hcl, st⟩
  · cases hv
    obtain ⟨k1, k2, k3⟩ := vx_keep h0 e1 hS hA hf hL hF
    obtain ⟨t2, a1, b1⟩ := kk r u t T'.heap (locs ++ L) e1.symm (by rw [← e2]; exact X'.warmed.alike) hp hb k1 k2 k3 T' rfl X'
    exact ⟨t2, st t2 a1, b1⟩
  · obtain ⟨k1, k2, k3⟩ := vx_keep h0 e1 hS hAX hf hL hF
    obtain ⟨t2, a1, b1⟩ := kx E ce q u t T'.heap (locs ++ L) e1.symm (by rw [← e2]; exact X'.warmed.alike) hp hb k1 k2 k3 (by rw [e1]; exact hce) hcv hcl T' rfl X'
    exact ⟨t2, st.trans a1, b1⟩
theorem vx_calll {S SX : Type} {post : Int64 → S → Prop} {px : SX → Prop} {B : S → State → Prop} {BX : String → SX → State → Prop} {AX : Nat → Prop} (hr : vx_Run p l e R s m args below meth c H locs cells slots mc ms (F0 m pc ls st0) rest (va_Ql post B A1 a) (vx_X px BX AX) free) (hS : va_S A0 H0 H locs) (hA : ∀ q, q < H.size → A1 q → A0 q) (hf : ∀ q, free q → A0 q) (hAX : ∀ q, q < H.size → AX q → A0 q)
    (kx : ∀ (E : String) (ce : Cell) (q9 : Addr) (u : SX) (t : State) (H1 : Heap) (locs1 : List Loc), t.heap = H1 → s.vm.Alike t.vm → px u → BX E u t → H.size ≤ H1.size → (∀ q : Nat, q < H.size → ¬ AX q → H1[q]? = H[q]?) → va_S A0 H0 H1 locs1 → H1[q9]? = some ce → ce.vm = .none → s.vm.findClass E = some ce.cls → vx_W p l e R s m args below meth c H1 locs1 (cells + mc) (slots + ms) Q (F0 m pc ls rest) q9)
    (kk : ∀ (r : Int64) (u : S) (t : State) (H1 : Heap) (locs1 : List Loc), t.heap = H1 → s.vm.Alike t.vm → post r u → B u t → H.size ≤ H1.size → (∀ q : Nat, q < H.size → ¬ A1 q → H1[q]? = H[q]?) → va_S A0 H0 H1 locs1 → W p l e R s m args below meth c H1 locs1 (cells + mc) (slots + ms) Q (F0 m (pc + 3) ls (.long r :: rest))) : W p l e R s m args below meth c H locs cells slots Q (F0 m pc ls st0) := by
  intro T hT X
  rcases hr T hT X with ⟨v, st₀, t, T', L, h0, X', hL, e1, e2, ⟨⟨r, u, hv, hp, hb⟩, hF⟩, st⟩ | ⟨q, st₀, t, T', L, E, ce, h0, X', hL, e1, e2, ⟨u, hp, hb, hF⟩, hce, hcv, hcl, st⟩
  · cases hv
    obtain ⟨k1, k2, k3⟩ := vx_keep h0 e1 hS hA hf hL hF
    obtain ⟨t2, a1, b1⟩ := kk r u t T'.heap (locs ++ L) e1.symm (by rw [← e2]; exact X'.warmed.alike) hp hb k1 k2 k3 T' rfl X'
    exact ⟨t2, st t2 a1, b1⟩
  · obtain ⟨k1, k2, k3⟩ := vx_keep h0 e1 hS hAX hf hL hF
    obtain ⟨t2, a1, b1⟩ := kx E ce q u t T'.heap (locs ++ L) e1.symm (by rw [← e2]; exact X'.warmed.alike) hp hb k1 k2 k3 (by rw [e1]; exact hce) hcv hcl T' rfl X'
    exact ⟨t2, st.trans a1, b1⟩
theorem vx_callf {S SX : Type} {post : UInt32 → S → Prop} {px : SX → Prop} {B : S → State → Prop} {BX : String → SX → State → Prop} {AX : Nat → Prop} (hr : vx_Run p l e R s m args below meth c H locs cells slots mc ms (F0 m pc ls st0) rest (va_Qf post B A1 a) (vx_X px BX AX) free) (hS : va_S A0 H0 H locs) (hA : ∀ q, q < H.size → A1 q → A0 q) (hf : ∀ q, free q → A0 q) (hAX : ∀ q, q < H.size → AX q → A0 q)
    (kx : ∀ (E : String) (ce : Cell) (q9 : Addr) (u : SX) (t : State) (H1 : Heap) (locs1 : List Loc), t.heap = H1 → s.vm.Alike t.vm → px u → BX E u t → H.size ≤ H1.size → (∀ q : Nat, q < H.size → ¬ AX q → H1[q]? = H[q]?) → va_S A0 H0 H1 locs1 → H1[q9]? = some ce → ce.vm = .none → s.vm.findClass E = some ce.cls → vx_W p l e R s m args below meth c H1 locs1 (cells + mc) (slots + ms) Q (F0 m pc ls rest) q9)
    (kk : ∀ (r : UInt32) (u : S) (t : State) (H1 : Heap) (locs1 : List Loc), t.heap = H1 → s.vm.Alike t.vm → post r u → B u t → H.size ≤ H1.size → (∀ q : Nat, q < H.size → ¬ A1 q → H1[q]? = H[q]?) → va_S A0 H0 H1 locs1 → W p l e R s m args below meth c H1 locs1 (cells + mc) (slots + ms) Q (F0 m (pc + 3) ls (.float r :: rest))) : W p l e R s m args below meth c H locs cells slots Q (F0 m pc ls st0) := by
  intro T hT X
  rcases hr T hT X with ⟨v, st₀, t, T', L, h0, X', hL, e1, e2, ⟨⟨r, u, hv, hp, hb⟩, hF⟩, st⟩ | ⟨q, st₀, t, T', L, E, ce, h0, X', hL, e1, e2, ⟨u, hp, hb, hF⟩, hce, hcv, hcl, st⟩
  · cases hv
    obtain ⟨k1, k2, k3⟩ := vx_keep h0 e1 hS hA hf hL hF
    obtain ⟨t2, a1, b1⟩ := kk r u t T'.heap (locs ++ L) e1.symm (by rw [← e2]; exact X'.warmed.alike) hp hb k1 k2 k3 T' rfl X'
    exact ⟨t2, st t2 a1, b1⟩
  · obtain ⟨k1, k2, k3⟩ := vx_keep h0 e1 hS hAX hf hL hF
    obtain ⟨t2, a1, b1⟩ := kx E ce q u t T'.heap (locs ++ L) e1.symm (by rw [← e2]; exact X'.warmed.alike) hp hb k1 k2 k3 (by rw [e1]; exact hce) hcv hcl T' rfl X'
    exact ⟨t2, st.trans a1, b1⟩
theorem vx_calld {S SX : Type} {post : UInt64 → S → Prop} {px : SX → Prop} {B : S → State → Prop} {BX : String → SX → State → Prop} {AX : Nat → Prop} (hr : vx_Run p l e R s m args below meth c H locs cells slots mc ms (F0 m pc ls st0) rest (va_Qd post B A1 a) (vx_X px BX AX) free) (hS : va_S A0 H0 H locs) (hA : ∀ q, q < H.size → A1 q → A0 q) (hf : ∀ q, free q → A0 q) (hAX : ∀ q, q < H.size → AX q → A0 q)
    (kx : ∀ (E : String) (ce : Cell) (q9 : Addr) (u : SX) (t : State) (H1 : Heap) (locs1 : List Loc), t.heap = H1 → s.vm.Alike t.vm → px u → BX E u t → H.size ≤ H1.size → (∀ q : Nat, q < H.size → ¬ AX q → H1[q]? = H[q]?) → va_S A0 H0 H1 locs1 → H1[q9]? = some ce → ce.vm = .none → s.vm.findClass E = some ce.cls → vx_W p l e R s m args below meth c H1 locs1 (cells + mc) (slots + ms) Q (F0 m pc ls rest) q9)
    (kk : ∀ (r : UInt64) (u : S) (t : State) (H1 : Heap) (locs1 : List Loc), t.heap = H1 → s.vm.Alike t.vm → post r u → B u t → H.size ≤ H1.size → (∀ q : Nat, q < H.size → ¬ A1 q → H1[q]? = H[q]?) → va_S A0 H0 H1 locs1 → W p l e R s m args below meth c H1 locs1 (cells + mc) (slots + ms) Q (F0 m (pc + 3) ls (.double r :: rest))) : W p l e R s m args below meth c H locs cells slots Q (F0 m pc ls st0) := by
  intro T hT X
  rcases hr T hT X with ⟨v, st₀, t, T', L, h0, X', hL, e1, e2, ⟨⟨r, u, hv, hp, hb⟩, hF⟩, st⟩ | ⟨q, st₀, t, T', L, E, ce, h0, X', hL, e1, e2, ⟨u, hp, hb, hF⟩, hce, hcv, hcl, st⟩
  · cases hv
    obtain ⟨k1, k2, k3⟩ := vx_keep h0 e1 hS hA hf hL hF
    obtain ⟨t2, a1, b1⟩ := kk r u t T'.heap (locs ++ L) e1.symm (by rw [← e2]; exact X'.warmed.alike) hp hb k1 k2 k3 T' rfl X'
    exact ⟨t2, st t2 a1, b1⟩
  · obtain ⟨k1, k2, k3⟩ := vx_keep h0 e1 hS hAX hf hL hF
    obtain ⟨t2, a1, b1⟩ := kx E ce q u t T'.heap (locs ++ L) e1.symm (by rw [← e2]; exact X'.warmed.alike) hp hb k1 k2 k3 (by rw [e1]; exact hce) hcv hcl T' rfl X'
    exact ⟨t2, st.trans a1, b1⟩
theorem vx_callv {S SX : Type} {post : S → Prop} {px : SX → Prop} {B : S → State → Prop} {BX : String → SX → State → Prop} {AX : Nat → Prop} (hr : vx_Run p l e R s m args below meth c H locs cells slots mc ms (F0 m pc ls st0) rest (va_Qv post B A1 a) (vx_X px BX AX) free) (hS : va_S A0 H0 H locs) (hA : ∀ q, q < H.size → A1 q → A0 q) (hf : ∀ q, free q → A0 q) (hAX : ∀ q, q < H.size → AX q → A0 q)
    (kx : ∀ (E : String) (ce : Cell) (q9 : Addr) (u : SX) (t : State) (H1 : Heap) (locs1 : List Loc), t.heap = H1 → s.vm.Alike t.vm → px u → BX E u t → H.size ≤ H1.size → (∀ q : Nat, q < H.size → ¬ AX q → H1[q]? = H[q]?) → va_S A0 H0 H1 locs1 → H1[q9]? = some ce → ce.vm = .none → s.vm.findClass E = some ce.cls → vx_W p l e R s m args below meth c H1 locs1 (cells + mc) (slots + ms) Q (F0 m pc ls rest) q9)
    (kk : ∀ (u : S) (t : State) (H1 : Heap) (locs1 : List Loc), t.heap = H1 → s.vm.Alike t.vm → post u → B u t → H.size ≤ H1.size → (∀ q : Nat, q < H.size → ¬ A1 q → H1[q]? = H[q]?) → va_S A0 H0 H1 locs1 → W p l e R s m args below meth c H1 locs1 (cells + mc) (slots + ms) Q (F0 m (pc + 3) ls (rest))) : W p l e R s m args below meth c H locs cells slots Q (F0 m pc ls st0) := by
  intro T hT X
  rcases hr T hT X with ⟨v, st₀, t, T', L, h0, X', hL, e1, e2, ⟨⟨u, hv, hp, hb⟩, hF⟩, st⟩ | ⟨q, st₀, t, T', L, E, ce, h0, X', hL, e1, e2, ⟨u, hp, hb, hF⟩, hce, hcv, hcl, st⟩
  · cases hv
    obtain ⟨k1, k2, k3⟩ := vx_keep h0 e1 hS hA hf hL hF
    obtain ⟨t2, a1, b1⟩ := kk u t T'.heap (locs ++ L) e1.symm (by rw [← e2]; exact X'.warmed.alike) hp hb k1 k2 k3 T' rfl X'
    exact ⟨t2, st t2 a1, b1⟩
  · obtain ⟨k1, k2, k3⟩ := vx_keep h0 e1 hS hAX hf hL hF
    obtain ⟨t2, a1, b1⟩ := kx E ce q u t T'.heap (locs ++ L) e1.symm (by rw [← e2]; exact X'.warmed.alike) hp hb k1 k2 k3 (by rw [e1]; exact hce) hcv hcl T' rfl X'
    exact ⟨t2, st.trans a1, b1⟩
/-- caught by the row x of this method's table; the rows ahead don't take it -/
theorem vx_catch {own name : String} {E : String} {ce : Cell} {q : Addr} (hown : s.vm.findClass own = some m.cls) (pre : List ExceptionTableEntry) (x : ExceptionTableEntry) (suf : List ExceptionTableEntry) (hsplit : c.exceptionTable.toList = pre ++ x :: suf)
    (hpass : ∀ z ∈ pre, covers z pc = false ∨ (z.catchType ≠ 0 ∧ ∃ nm : String, (Cond.classLink own z.catchType nm).before args s = true ∧ va_Nc E nm s)) (hx : covers x pc = true) (h0 : x.catchType ≠ 0)
    (hlink : (Cond.classLink own x.catchType name).before args s = true) (hcast : (Cond.castable E name).before args s = true) (hcell : H[q]? = some ce) (hv : ce.vm = .none) (hcl : s.vm.findClass E = some ce.cls)
    (kk : W p l e R s m args below meth c H locs cells slots Q (F0 m x.handlerPc ls [.ref q])) : vx_W p l e R s m args below meth c H locs cells slots Q (F0 m pc ls rest) q := by
  intro T hT X
  have hpl : e.platform.magicAccessors = ({} : Platform).magicAccessors := by rw [X.admits.platform]
  obtain ⟨c3, c4, hc3, hc4, hasg⟩ := Cond.castable_spec hcast
  cases Option.some.inj (hc3.symm.trans hcl)
  obtain ⟨c5, hc5, hcl5⟩ := Cond.classLink_spec hown hlink e.platform hpl
  cases Option.some.inj (hc4.symm.trans hc5)
  obtain ⟨vm', X', st⟩ := X.thenCaughtThrough q (g := F0 m pc ls rest) rfl (Steps.refl _) (by rw [hT]; exact hcell) (by rw [hv]; rfl) (by obtain ⟨k9, h9, -⟩ := Vm.findClass_spec hcl; exact ⟨k9, h9⟩) pre x suf hsplit
    (fun z hz => by
      rcases hpass z hz with h | ⟨hz0, nm, hl1, hn1⟩
      · exact Or.inl h
      · obtain ⟨c6, hc6, hcl6⟩ := Cond.classLink_spec hown hl1 e.platform hpl
        obtain ⟨a8, b8, h1, h2, h3⟩ := hn1
        cases Option.some.inj (h1.symm.trans hcl)
        cases Option.some.inj (h2.symm.trans hc6)
        exact Or.inr ⟨hz0, _, hcl6, h3⟩) hx (Or.inr ⟨h0, c4, hcl5, hasg⟩)
  obtain ⟨t, a1, b1⟩ := kk (T.setVm vm') hT X'
  exact ⟨t, st.trans a1, b1⟩
end Rows
section Ends
variable {p : Program} {l : Launch} {e : Env} {R : Room} {s : State} {m : MethodId} {args : Array Value} {below : List Frame} {meth : Method} {c : Code} {H : Heap} {locs : List Loc} {cells slots : Nat} {Q : State → Prop}
variable {mc ms : Nat} {free : Addr → Prop} {A0 A1 : Nat → Prop} {H0 : Heap} {a : Array Value} {ls : Array Slot} {st0 rest : List Value}
variable {Qc : Array Value → State → Outcome → State → Prop} {XC : String → State → State → Prop}
/-- what a body that may throw owes at its end -/
def vx_MQ (below : List Frame) (Qc : Array Value → State → Outcome → State → Prop) (XC : String → State → State → Prop) (a : Array Value) (s : State) (mc ms : Nat) (free : Addr → Prop) : State → Prop := fun t =>
  ∃ o, t.status = .running ∧ Ended t below o ∧ vx_Q Qc XC mc ms free a s o t
theorem vx_ret {g : JFrame} {mc ms : Nat} (k : W p l e R s m args below meth c H locs cells slots (MQ below Qc args s mc ms free) g) : W p l e R s m args below meth c H locs cells slots (vx_MQ below Qc XC args s mc ms free) g := by
  intro T hT X
  obtain ⟨t, a1, o, b1, b2, b3, b4⟩ := k T hT X
  exact ⟨t, a1, o, b1, b2, Or.inl ⟨b3, b4⟩⟩
/-- not caught here: it goes on to the caller -/
theorem vx_widen {g : JFrame} {q : Addr} {k n : Nat} (h1 : cells ≤ k) (h2 : slots ≤ n) (kk : vx_W p l e R s m args below meth c H locs k n Q g q) : vx_W p l e R s m args below meth c H locs cells slots Q g q := fun T hT X => kk T hT (stand_widen X h1 h2)
theorem vx_out {pc : Nat} {E : String} {ce : Cell} {q : Addr} {mc ms : Nat} (hout : ∀ x ∈ c.exceptionTable.toList, covers x pc = false) (hlocks : meth.locks = false) (hcell : H[q]? = some ce) (hv : ce.vm = .none) (hcl : s.vm.findClass E = some ce.cls)
    (hx : ∀ t : State, t.heap = H → s.vm.Alike t.vm → XC E s t) (hf : ∀ z ∈ locs, free z.base) (hc : cells ≤ mc) (hs : slots ≤ ms) :
    vx_W p l e R s m args below meth c H locs cells slots (vx_MQ below Qc XC args s mc ms free) (F0 m pc ls rest) q := by
  intro T hT X
  obtain ⟨st1, hrun, hend, hW, hsm⟩ := X.leaveThrown q (g := F0 m pc ls rest) rfl rfl rfl hout hlocks
  have hcell9 : (T.setFrames (.throwing q :: below)).heap[q]? = some ce := by
    show T.heap[q]? = some ce
    rw [hT]; exact hcell
  exact ⟨_, st1, .threw q, hrun, hend, Or.inr ⟨q, rfl, E, ce, locs, hx _ hT hW.alike, hcell9, hv, hcl, hW, hsm.mono hc hs, hf⟩⟩
theorem vx_frame {U : State} {k n : Nat} (h : s.sameButNew ({ U with vm := s.vm } : State) locs k n) : s.heap.size ≤ U.heap.size ∧ ∀ q : Nat, q < s.heap.size → (∀ z ∈ locs, z.base ≠ q) → U.heap[q]? = s.heap[q]? := by
  obtain ⟨-, h2, -, -, -, h6⟩ := h
  refine ⟨h2, fun q hq hz => ?_⟩
  obtain ⟨c9, e1, e2, e3, e4⟩ := h6 q _ (Array.getElem?_eq_getElem hq)
  have hs : c9.slots = (s.heap[q]).slots := Array.ext_getElem? fun i => e4 i fun hm => hz _ hm rfl
  have h9 : c9 = s.heap[q] := by
    rw [hs] at e2
    exact e2
  have e5 : U.heap[q]? = some c9 := e1
  rw [e5, h9, Array.getElem?_eq_getElem hq]
/-- the words of a throw but the four that speak of the heap -/
def vx_no (w : Cond) : Bool := decide (w ≠ .isRef (.static Bundle.tN "UNASSIGNED_STACK" Bundle.steD)) && decide (w ≠ .isRef (.static Bundle.tN "SUPPRESSED_SENTINEL" Bundle.listD)) && decide (w ≠ .laysStatic Bundle.tN "UNASSIGNED_STACK" Bundle.steD) && decide (w ≠ .laysStatic Bundle.tN "SUPPRESSED_SENTINEL" Bundle.listD)
def vx_at0 (own : String) (ic : Nat) (X : String) (names : List String) : List Cond := (Bundle.ownAtoms0 own ic X names).filter vx_no
def vx_atS (own : String) (ic : Nat) (X : String) (names : List String) : List Cond := (Bundle.ownAtoms own ic X names).filter vx_no
/-- a word that the tables alone decide, or a good one -/
def vx_ot (w : Cond) : Bool := w.onTables || goodWord w
theorem vx_ot_at {args a' : Array Value} {s U : State} {w : Cond} (hW : s.WarmedH U.vm) (hvm : s.vm = U.vm) (hg : vx_ot w = true) (h : w.before args s = true) : w.before a' U = true := by
  simp only [vx_ot, Bool.or_eq_true] at hg
  rcases hg with hg | hg
  · exact va_tabs hg hvm h
  · exact word_at hW (good_of_word hg) h
/-- a list's words: the good ones out of the method's own list, the others by premises of their own -/
theorem vx_hat {args : Array Value} {s : State} {L B : List Cond} (h1 : ∀ w ∈ L.filter goodWord, w.before args s = true) (h2 : ∀ w ∈ L.filter (fun w => !goodWord w), w ∈ B) (h3 : ∀ w ∈ B, w.before args s = true) : ∀ w ∈ L, w.before args s = true := by
  intro w hw
  by_cases g : goodWord w = true
  · exact h1 w (List.mem_filter.mpr ⟨hw, g⟩)
  · refine h3 w (h2 w (List.mem_filter.mpr ⟨hw, ?_⟩))
    show (!goodWord w) = true
    cases hgw : goodWord w
    · rfl
    · exact absurd hgw g
theorem vx_c {args : Array Value} {s : State} {w : Cond} {B : List Cond} (h : w.before args s = true) (t : ∀ w ∈ B, w.before args s = true) : ∀ w' ∈ w :: B, w'.before args s = true := fun w' h' => (List.mem_cons.mp h').elim (fun e => by rw [e]; exact h) (t w')
theorem vx_n {args : Array Value} {s : State} : ∀ w ∈ ([] : List Cond), w.before args s = true := fun _ h => nomatch h
theorem vx_own {args : Array Value} {s : State} {L : List Cond} (h1 : ∀ w ∈ L.filter vx_no, w.before args s = true)
    (hU : (Cond.isRef (.static Bundle.tN "UNASSIGNED_STACK" Bundle.steD)).before args s = true) (hN : (Cond.isRef (.static Bundle.tN "SUPPRESSED_SENTINEL" Bundle.listD)).before args s = true)
    (lU : (Cond.laysStatic Bundle.tN "UNASSIGNED_STACK" Bundle.steD).before args s = true) (lN : (Cond.laysStatic Bundle.tN "SUPPRESSED_SENTINEL" Bundle.listD).before args s = true) : ∀ w ∈ L, w.before args s = true := by
  intro w hw
  by_cases e1 : w = .isRef (.static Bundle.tN "UNASSIGNED_STACK" Bundle.steD)
  · rw [e1]; exact hU
  · by_cases e2 : w = .isRef (.static Bundle.tN "SUPPRESSED_SENTINEL" Bundle.listD)
    · rw [e2]; exact hN
    · by_cases e3 : w = .laysStatic Bundle.tN "UNASSIGNED_STACK" Bundle.steD
      · rw [e3]; exact lU
      · by_cases e4 : w = .laysStatic Bundle.tN "SUPPRESSED_SENTINEL" Bundle.listD
        · rw [e4]; exact lN
        · exact h1 w (List.mem_filter.mpr ⟨hw, by unfold vx_no; rw [decide_eq_true e1, decide_eq_true e2, decide_eq_true e3, decide_eq_true e4]; rfl⟩)
/-- where a static field lies, its class's statics cell in H -/
def vx_L (C n d : String) (A : Nat → Prop) (U : State) (H : Heap) : Prop := ∃ (c : ClassId) (k : Class) (i : Nat) (f : Field) (a : Nat) (cell : Cell), U.vm.findClass C = some c ∧ U.fieldFound? C n d = some (c, k, i, f) ∧ f.isStatic = true ∧ k.statics = some a ∧ H[a]? = some cell ∧ cell.vm.isStatics = true ∧ cell.cls = c ∧ f.slot < cell.slots.size ∧ k.staticTypes[f.slot]? = some f.type ∧ ¬ A a
theorem vx_L.moved {C n d : String} {A : Nat → Prop} {u U : State} {H : Heap} (hvm : u.vm.Alike U.vm) (h : vx_L C n d A u H) : vx_L C n d A U H := by
  obtain ⟨c, k, i, f, a, cell, h1, h2, h3, h4, h5, h6, h7, h8, h9, h10⟩ := h
  obtain ⟨k', hi', he⟩ := State.fieldFound?_setVm hvm h2
  exact ⟨c, k', i, f, a, cell, by rw [hvm.findClass]; exact h1, hi', h3, by rw [he]; exact h4, h5, h6, h7, h8, by rw [he]; exact h9, h10⟩
theorem vx_L.kept {C n d : String} {A : Nat → Prop} {U : State} {H H1 : Heap} (h : vx_L C n d A U H) (hq : ∀ a : Nat, a < H.size → ¬ A a → H1[a]? = H[a]?) : vx_L C n d A U H1 := by
  obtain ⟨c, k, i, f, a, cell, h1, h2, h3, h4, h5, h6, h7, h8, h9, h10⟩ := h
  exact ⟨c, k, i, f, a, cell, h1, h2, h3, h4, by rw [hq a (Array.getElem?_eq_some_iff.mp h5).1 h10]; exact h5, h6, h7, h8, h9, h10⟩
theorem vx_L.narrow {C n d : String} {A B : Nat → Prop} {U : State} {H : Heap} (h : vx_L C n d A U H) (hAB : ∀ q, B q → A q) : vx_L C n d B U H := by
  obtain ⟨c, k, i, f, a, cell, h1, h2, h3, h4, h5, h6, h7, h8, h9, h10⟩ := h
  exact ⟨c, k, i, f, a, cell, h1, h2, h3, h4, h5, h6, h7, h8, h9, fun z => h10 (hAB _ z)⟩
theorem vx_L.word {C n d : String} {A : Nat → Prop} {s : State} {args : Array Value} (h : vx_L C n d A s s.heap) : (Cond.laysStatic C n d).before args s = true := by
  obtain ⟨c, k, i, f, a, cell, h1, h2, h3, h4, h5, h6, h7, h8, h9, -⟩ := h
  show (Cond.laysStatic C n d).holds args s none s [] = true
  exact Cond.laysStatic_of h1 h2 h3 h4 h5 h6 h7 h8 h9
/-- .. and what it holds: null or some reference -/
def vx_Zq (C n d : String) (A : Nat → Prop) (U : State) (H : Heap) : Prop := va_Zq C n d A U H ∧ vx_L C n d A U H
theorem vx_Zq.moved {C n d : String} {A : Nat → Prop} {u U : State} {H : Heap} (hvm : u.vm.Alike U.vm) (h : vx_Zq C n d A u H) : vx_Zq C n d A U H := ⟨va_Zq.moved hvm h.1, vx_L.moved hvm h.2⟩
theorem vx_Zq.kept {C n d : String} {A : Nat → Prop} {U : State} {H H1 : Heap} (h : vx_Zq C n d A U H) (hq : ∀ a : Nat, a < H.size → ¬ A a → H1[a]? = H[a]?) : vx_Zq C n d A U H1 := ⟨va_Zq.kept h.1 hq, vx_L.kept h.2 hq⟩
theorem vx_Zq.narrow {C n d : String} {A B : Nat → Prop} {U : State} {H : Heap} (h : vx_Zq C n d A U H) (hAB : ∀ q, B q → A q) : vx_Zq C n d B U H := ⟨va_Zq.narrow h.1 hAB, vx_L.narrow h.2 hAB⟩
theorem vx_Zqof {args : Array Value} {s : State} {C n d : String} {A : Nat → Prop} (hl : (Cond.laysStatic C n d).before args s = true) (hini : (Cond.initialized C).before args s = true) (h : (Cond.isRef (.static C n d)).before args s = true) (hA : ∀ a : Nat, a < s.heap.size → ¬ A a) : vx_Zq C n d A s s.heap := by
  refine ⟨va_Zqof hl hini h hA, ?_⟩
  obtain ⟨c, k, i, f, a, cell, h1, h2, h3, h4, h5, h6, h7, h8, h9⟩ := Cond.laysStatic_spec hl
  exact ⟨c, k, i, f, a, cell, h1, h2, h3, h4, h5, h6, h7, h8, h9, hA a (Array.getElem?_eq_some_iff.mp h5).1⟩
theorem vx_isRef {C n d : String} {v : Value} {A : Nat → Prop} {s : State} {args : Array Value} (h : va_Z C n d v A s s.heap) (hv : v.isRef = true) : (Cond.isRef (.static C n d)).before args s = true := by
  obtain ⟨cf, kf, fi, f, a, cell, h1, h2, h3, h4, h5, h6, h7, -⟩ := h
  have he : (Term.static C n d).eval args s none [] s = some v := by
    simp [Term.eval, State.fieldNamed?, h1, h2, h4, h5, h6, h7]
  simp only [Cond.before, Cond.holds, Cond.value, he]
  cases v <;> simp_all [Value.isRef]
theorem vx_isRefq {C n d : String} {A : Nat → Prop} {s : State} {args : Array Value} (h : va_Zq C n d A s s.heap) : (Cond.isRef (.static C n d)).before args s = true := by
  rcases h with h | ⟨t, h⟩
  · exact vx_isRef h rfl
  · exact vx_isRef h rfl
/-- the same frame, seen from here: as if the method were called anew in this heap -/
theorem vx_rebase {T : State} (X : Stand p l e R s m args below meth c T locs cells slots) {R' : Room} (hf : R'.frames ≤ R.frames) (hl : R'.locals ≤ R.locals) (hc : cells + R'.cells ≤ R.cells) (hs : slots + R'.slots ≤ R.slots) :
    Stand p l e R' ((T.setVm s.vm).setFrames (.invoking m args :: below)) m args below meth c T [] 0 0 := by
  have htop : (T.setVm s.vm).topJava?.isSome := X.here.top
  have hF : ((T.setVm s.vm).setFrames (.invoking m args :: below)).frames = .invoking m args :: below := State.frames_setFrames _ (State.cur_lt_of_top htop)
  obtain ⟨g₀, hg0⟩ := Option.isSome_iff_exists.mp htop
  obtain ⟨r, hr⟩ := State.topJava?_eq_some.mp hg0
  have hl9 : e.platform.stackLimits (T.setVm s.vm).me = e.platform.stackLimits s.me := X.limits
  have hb9 : (T.setVm s.vm).me.stackBytes = s.me.stackBytes := X.bytes
  refine ⟨X.admits, X.cas, X.clock, hF, ?_, X.hears, X.method, X.code, X.here, X.tail, X.warmed, ?_, ?_, ?_⟩
  · have h := X.room
    have hU : ((T.setVm s.vm).setFrames (.invoking m args :: below)).localsInUse = s.localsInUse := by
      rw [State.localsInUse_invoking hF (meth := meth) (c := c) X.method X.code, State.localsInUse_invoking X.frames X.method X.code]
    simp only [State.hasRoom, Bool.and_eq_true, decide_eq_true_eq] at h ⊢
    obtain ⟨⟨⟨⟨h1, h2, h3, h4, h5, h6⟩, h7⟩, h8⟩, h9⟩ := h
    rw [X.frames, List.length_cons] at h2 h3
    have q1 := X.heapSize
    have q2 := X.used
    simp only [hF, hU, List.length_cons, State.stackLimits_setFrames, State.stackBytes_setFrames, hl9, hb9]
    refine ⟨⟨⟨⟨by omega, by omega, by omega, by omega, by omega, h6⟩, ?_⟩, ?_⟩, X.book⟩
    · show T.heap.size + R'.cells ≤ e.platform.maxCells
      omega
    · show T.slotsUsed + R'.slots ≤ e.platform.maxSlots
      omega
  · rw [State.stackLimits_setFrames]; rfl
  · rw [State.stackBytes_setFrames]; rfl
  · refine ⟨?_, Nat.le_refl _, Nat.le_refl _, ?_, ?_, fun a c9 h9 => ⟨c9, h9, rfl, rfl, fun _ _ => rfl⟩⟩
    · obtain ⟨t, ht, -⟩ := State.frames_cons hr
      show T.setVm s.vm = { ((T.setVm s.vm).setFrames (.invoking m args :: below)).setFrames (T.setVm s.vm).frames with heap := T.heap, slotsUsed := T.slotsUsed }
      rw [State.setFrames_setFrames, State.setFrames_self ht]
      rfl
    · show T.slotsUsed = T.slotsUsed + ((T.heap.toList.drop T.heap.size).map (·.slots.size)).sum
      rw [List.drop_eq_nil_of_le (Nat.le_of_eq Array.length_toList)]
      rfl
    · show ((T.heap.toList.drop T.heap.size).map (·.slots.size)).sum ≤ 0
      rw [List.drop_eq_nil_of_le (Nat.le_of_eq Array.length_toList)]
      exact Nat.le_refl _
/-- 'throw new E()': new; dup; invokespecial; athrow -/
theorem vx_throw0 {cc : ByteArray} {pc : Nat} (hexec : p.tables.exec = Jvm.exec) (hb : c.code = cc) (hl : l.stackTraces = false) {own cls : String} {names : List String} {ik ic mc ms : Nat} {A : Nat → Prop}
    (hown : s.vm.findClass own = some m.cls) (hcls : Bundle.fit cls = true) (hnames : ∀ n ∈ names, Bundle.fit n = true)
    (hk : (Cond.classLink own ik cls).before args s = true) (hini : (Cond.initialized cls).before args s = true) (hat : ∀ w ∈ vx_at0 own ic cls names, w.before args s = true)
    (hgood : ∀ w ∈ Cond.classLink own ik cls :: Cond.initialized cls :: vx_at0 own ic cls names, vx_ot w = true)
    (hU : vx_Zq Bundle.tN "UNASSIGNED_STACK" Bundle.steD A s s.heap) (hN : vx_Zq Bundle.tN "SUPPRESSED_SENTINEL" Bundle.listD A s s.heap) (hS : va_S A s.heap H locs) (hsize : ls.size = c.maxLocals)
    (d0 : decode cc pc = .ok (.new ik, 3)) (d3 : decode cc (pc + 3) = .ok (.dup, 1)) (d4 : decode cc (pc + 4) = .ok (.invokespecial ic, 3)) (d7 : decode cc (pc + 7) = .ok (.athrow, 1))
    (hout : ∀ x ∈ c.exceptionTable.toList, covers x (pc + 7) = false)
    (hRframes : names.length + 3 < R.frames) (hRlocals : (rest.map fun v => v.category).sum + (13 * (names.length + 1) + 42) ≤ R.locals) (hRcells : cells + 1 ≤ R.cells) (hRslots : slots + 6 ≤ R.slots) (hlocks : meth.locks = false)
    (hx : ∀ t : State, s.vm.Alike t.vm → H.size ≤ t.heap.size → (∀ q : Nat, q < H.size → t.heap[q]? = H[q]?) → XC cls s t)
    (hf : ∀ z ∈ locs, free z.base) (hc : cells + 1 ≤ mc) (hs : slots + 6 ≤ ms) :
    W p l e R s m args below meth c H locs cells slots (vx_MQ below Qc XC args s mc ms free) (F0 m pc ls rest) := by
  intro T hT X
  have htr : e.platform.stackTraces = false := (show e.platform.stackTraces = l.stackTraces by rw [X.admits.platform]).trans hl
  have Y := vx_rebase X (R' := { frames := R.frames, locals := R.locals, cells := 1, slots := 6 }) (Nat.le_refl _) (Nat.le_refl _) hRcells hRslots
  obtain ⟨s', hA⟩ : ∃ z, z = (T.setVm s.vm).setFrames (.invoking m args :: below) := ⟨_, rfl⟩
  rw [← hA] at Y
  have hvm : s'.vm = s.vm := by rw [hA]; rfl
  have hhp : s'.heap = H := by rw [hA]; exact hT
  have hW0 : s.WarmedH s'.vm := by rw [hvm]; exact State.WarmedH.refl s
  have hat' : ∀ w ∈ vx_at0 own ic cls names, w.before args s' = true := fun w hw => vx_ot_at hW0 hvm.symm (hgood w (List.mem_cons_of_mem _ (List.mem_cons_of_mem _ hw))) (hat w hw)
  have hk' : (Cond.classLink own ik cls).before args s' = true := vx_ot_at hW0 hvm.symm (hgood _ List.mem_cons_self) hk
  have hini' : (Cond.initialized cls).before args s' = true := vx_ot_at hW0 hvm.symm (hgood _ (List.mem_cons_of_mem _ List.mem_cons_self)) hini
  have hU' : vx_Zq Bundle.tN "UNASSIGNED_STACK" Bundle.steD A s' s'.heap := by rw [hhp]; exact vx_Zq.moved hW0.alike (hU.kept hS.2.1)
  have hN' : vx_Zq Bundle.tN "SUPPRESSED_SENTINEL" Bundle.listD A s' s'.heap := by rw [hhp]; exact vx_Zq.moved hW0.alike (hN.kept hS.2.1)
  have h : ∀ w ∈ Bundle.ownAtoms0 own ic cls names, w.before args s' = true := vx_own hat' (vx_isRefq hU'.1) (vx_isRefq hN'.1) hU'.2.word hN'.2.word
  have hown' : s'.vm.findClass own = some m.cls := by rw [hvm]; exact hown
  have hins : (Cond.instantiable cls 6).before args s' = true := h _ (by simp [Bundle.ownAtoms0])
  obtain ⟨vm₁, cX, kX, hfX, hkX, -, -, X₁, st1⟩ := Y.newCold hexec (own := own) (C := cls) (index := ik) (n := 6) hown' hk' hins hini'
    (g := F0 m pc ls rest) rfl (by rw [hb]; exact d0) (Nat.le_refl _) (Nat.le_refl _)
  generalize hT1 : (T.setVm vm₁).pushCell { cls := cX, slots := kX.instanceTypes.map defaultValue, vm := .none } = T1 at X₁ st1
  have hcat : (Value.ref T.heap.size).category = 1 := rfl
  have hcellA : T1.heap[T.heap.size]? = some (freshCell cX kX) := by rw [← hT1]; exact State.heap_pushCell_size _ _
  have d3' : decode c.code (pc + 3) = .ok (.dup, 1) := by rw [hb]; exact d3
  obtain ⟨U, hsteps, hrun, hend, hW, hsame, ce, hce, hO⟩ := X₁.ctorThrow0 hexec htr (own := own) (cls := cls) (names := names) (ic := ic) hown' hcls hnames h (fun x hx => nomatch hx) hfX hkX hcellA (by rw [hhp, hT]; exact Nat.le_refl _)
    (g := { method := m, pc := pc + 4, locals := ls, stack := .ref T.heap.size :: .ref T.heap.size :: rest, locked := none }) rfl hsize rfl rfl (rest := rest) rfl
    (by rw [hb]; exact d4) (by rw [hb]; exact d7) hout hRframes (by simp only [List.map_cons, List.sum_cons, hcat]; omega) hlocks
  obtain ⟨f1, f2⟩ := vx_frame hsame
  rw [hhp] at f1 f2
  have hWs : s.WarmedH U.vm := State.WarmedH.trans hW0 hW
  have hcl : s.vm.findClass cls = some ce.cls := by
    have h9 := hO.cls
    rw [hvm] at h9
    exact h9
  have hall : s.sameButNew ({ U with vm := s.vm } : State) locs mc ms := by
    subst hA
    obtain ⟨e1, e2⟩ := hsame
    rw [State.setFrames_setFrames] at e1
    have h2 : (T.setVm s.vm).sameButNew ({ U with vm := s.vm } : State) [] (0 + 1) (0 + 6) := ⟨e1, e2⟩
    have h3 := X.same.trans h2
    rw [List.append_nil] at h3
    exact h3.mono hc hs
  refine ⟨U, ?_, .threw T.heap.size, hrun, hend, Or.inr ⟨T.heap.size, rfl, cls, ce, locs, hx U hWs.alike f1 (fun q hq => f2 q hq (fun z hz => nomatch hz)), hce, hO.vm, hcl, hWs, hall, hf⟩⟩
  refine st1 _ ?_
  show Steps p.tables e below (T1.setTop { method := m, pc := pc + 3, locals := ls, stack := .ref T.heap.size :: rest, locked := none }) _
  jvm_step X₁.here [X₁.here.top, hexec, d3', Value.category]
  exact hsteps
/-- 'throw new E("text")': new; dup; ldc; invokespecial; athrow -/
theorem vx_throwS {cc : ByteArray} {pc : Nat} (hexec : p.tables.exec = Jvm.exec) (hb : c.code = cc) (hl : l.stackTraces = false) {own cls text : String} {names : List String} {ik is ic mc ms sa : Nat} {A : Nat → Prop}
    (hown : s.vm.findClass own = some m.cls) (hcls : Bundle.fit cls = true) (hnames : ∀ n ∈ names, Bundle.fit n = true)
    (hk : (Cond.classLink own ik cls).before args s = true) (hini : (Cond.initialized cls).before args s = true) (hstr : vk_R own is text sa s) (hat : ∀ w ∈ vx_atS own ic cls names, w.before args s = true)
    (hgood : ∀ w ∈ Cond.classLink own ik cls :: Cond.initialized cls :: vx_atS own ic cls names, vx_ot w = true)
    (hU : vx_Zq Bundle.tN "UNASSIGNED_STACK" Bundle.steD A s s.heap) (hN : vx_Zq Bundle.tN "SUPPRESSED_SENTINEL" Bundle.listD A s s.heap) (hS : va_S A s.heap H locs) (hsize : ls.size = c.maxLocals)
    (d0 : decode cc pc = .ok (.new ik, 3)) (d3 : decode cc (pc + 3) = .ok (.dup, 1)) (d4 : decode cc (pc + 4) = .ok (.ldc is, 2)) (d6 : decode cc (pc + 6) = .ok (.invokespecial ic, 3)) (d9 : decode cc (pc + 9) = .ok (.athrow, 1))
    (hout : ∀ x ∈ c.exceptionTable.toList, covers x (pc + 9) = false)
    (hRframes : names.length + 3 < R.frames) (hRlocals : (rest.map fun v => v.category).sum + (13 * (names.length + 1) + 43) ≤ R.locals) (hRcells : cells + 1 ≤ R.cells) (hRslots : slots + 6 ≤ R.slots) (hlocks : meth.locks = false)
    (hx : ∀ t : State, s.vm.Alike t.vm → H.size ≤ t.heap.size → (∀ q : Nat, q < H.size → t.heap[q]? = H[q]?) → XC cls s t)
    (hf : ∀ z ∈ locs, free z.base) (hc : cells + 1 ≤ mc) (hs : slots + 6 ≤ ms) :
    W p l e R s m args below meth c H locs cells slots (vx_MQ below Qc XC args s mc ms free) (F0 m pc ls rest) := by
  intro T hT X
  have htr : e.platform.stackTraces = false := (show e.platform.stackTraces = l.stackTraces by rw [X.admits.platform]).trans hl
  have Y := vx_rebase X (R' := { frames := R.frames, locals := R.locals, cells := 1, slots := 6 }) (Nat.le_refl _) (Nat.le_refl _) hRcells hRslots
  obtain ⟨s', hA⟩ : ∃ z, z = (T.setVm s.vm).setFrames (.invoking m args :: below) := ⟨_, rfl⟩
  rw [← hA] at Y
  have hvm : s'.vm = s.vm := by rw [hA]; rfl
  have hhp : s'.heap = H := by rw [hA]; exact hT
  have hW0 : s.WarmedH s'.vm := by rw [hvm]; exact State.WarmedH.refl s
  have hat' : ∀ w ∈ vx_atS own ic cls names, w.before args s' = true := fun w hw => vx_ot_at hW0 hvm.symm (hgood w (List.mem_cons_of_mem _ (List.mem_cons_of_mem _ hw))) (hat w hw)
  have hk' : (Cond.classLink own ik cls).before args s' = true := vx_ot_at hW0 hvm.symm (hgood _ List.mem_cons_self) hk
  have hini' : (Cond.initialized cls).before args s' = true := vx_ot_at hW0 hvm.symm (hgood _ (List.mem_cons_of_mem _ List.mem_cons_self)) hini
  have hU' : vx_Zq Bundle.tN "UNASSIGNED_STACK" Bundle.steD A s' s'.heap := by rw [hhp]; exact vx_Zq.moved hW0.alike (hU.kept hS.2.1)
  have hN' : vx_Zq Bundle.tN "SUPPRESSED_SENTINEL" Bundle.listD A s' s'.heap := by rw [hhp]; exact vx_Zq.moved hW0.alike (hN.kept hS.2.1)
  have h : ∀ w ∈ Bundle.ownAtoms own ic cls names, w.before args s' = true := vx_own hat' (vx_isRefq hU'.1) (vx_isRefq hN'.1) hU'.2.word hN'.2.word
  have hown' : s'.vm.findClass own = some m.cls := by rw [hvm]; exact hown
  have hins : (Cond.instantiable cls 6).before args s' = true := h _ (by simp [Bundle.ownAtoms])
  obtain ⟨vm₁, cX, kX, hfX, hkX, -, -, X₁, st1⟩ := Y.newCold hexec (own := own) (C := cls) (index := ik) (n := 6) hown' hk' hins hini'
    (g := F0 m pc ls rest) rfl (by rw [hb]; exact d0) (Nat.le_refl _) (Nat.le_refl _)
  generalize hT1 : (T.setVm vm₁).pushCell { cls := cX, slots := kX.instanceTypes.map defaultValue, vm := .none } = T1 at X₁ st1
  have hcat : (Value.ref T.heap.size).category = 1 := rfl
  have hcellA : T1.heap[T.heap.size]? = some (freshCell cX kX) := by rw [← hT1]; exact State.heap_pushCell_size _ _
  have d3' : decode c.code (pc + 3) = .ok (.dup, 1) := by rw [hb]; exact d3
  have d4' : decode c.code (pc + 4) = .ok (.ldc is, 2) := by rw [hb]; exact d4
  have hstr' : vk_R own is text sa s' := vk_R.warm hW0 hstr
  obtain ⟨U, hsteps, hrun, hend, hW, hsame, ce, hce, hO⟩ := X₁.ctorThrowS hexec htr (own := own) (cls := cls) (names := names) (ic := ic) hown' hcls hnames h (fun x hx => nomatch hx) hfX hkX hcellA (by rw [hhp, hT]; exact Nat.le_refl _) (msg := .ref sa) rfl
    (g := { method := m, pc := pc + 6, locals := ls, stack := .ref sa :: .ref T.heap.size :: .ref T.heap.size :: rest, locked := none }) rfl hsize rfl rfl (rest := rest) rfl
    (by rw [hb]; exact d6) (by rw [hb]; exact d9) hout hRframes (by simp only [List.map_cons, List.sum_cons, hcat]; omega) hlocks
  obtain ⟨f1, f2⟩ := vx_frame hsame
  rw [hhp] at f1 f2
  have hWs : s.WarmedH U.vm := State.WarmedH.trans hW0 hW
  have hcl : s.vm.findClass cls = some ce.cls := by
    have h9 := hO.cls
    rw [hvm] at h9
    exact h9
  have hall : s.sameButNew ({ U with vm := s.vm } : State) locs mc ms := by
    subst hA
    obtain ⟨e1, e2⟩ := hsame
    rw [State.setFrames_setFrames] at e1
    have h2 : (T.setVm s.vm).sameButNew ({ U with vm := s.vm } : State) [] (0 + 1) (0 + 6) := ⟨e1, e2⟩
    have h3 := X.same.trans h2
    rw [List.append_nil] at h3
    exact h3.mono hc hs
  refine ⟨U, ?_, .threw T.heap.size, hrun, hend, Or.inr ⟨T.heap.size, rfl, cls, ce, locs, hx U hWs.alike f1 (fun q hq => f2 q hq (fun z hz => nomatch hz)), hce, hO.vm, hcl, hWs, hall, hf⟩⟩
  refine st1 _ ?_
  show Steps p.tables e below (T1.setTop { method := m, pc := pc + 3, locals := ls, stack := .ref T.heap.size :: rest, locked := none }) _
  jvm_step X₁.here [X₁.here.top, hexec, d3', Value.category]
  exact X₁.ldcString hexec (own := own) (text := text) (index := is) (a := sa) hown' hstr'.1 hstr'.2
    (g := { method := m, pc := pc + 4, locals := ls, stack := .ref T.heap.size :: .ref T.heap.size :: rest, locked := none }) rfl d4' _ hsteps
/-- 'throw new E("text")', the text by a wide index -/
theorem vx_throwSW {cc : ByteArray} {pc : Nat} (hexec : p.tables.exec = Jvm.exec) (hb : c.code = cc) (hl : l.stackTraces = false) {own cls text : String} {names : List String} {ik is ic mc ms sa : Nat} {A : Nat → Prop}
    (hown : s.vm.findClass own = some m.cls) (hcls : Bundle.fit cls = true) (hnames : ∀ n ∈ names, Bundle.fit n = true)
    (hk : (Cond.classLink own ik cls).before args s = true) (hini : (Cond.initialized cls).before args s = true) (hstr : vk_R own is text sa s) (hat : ∀ w ∈ vx_atS own ic cls names, w.before args s = true)
    (hgood : ∀ w ∈ Cond.classLink own ik cls :: Cond.initialized cls :: vx_atS own ic cls names, vx_ot w = true)
    (hU : vx_Zq Bundle.tN "UNASSIGNED_STACK" Bundle.steD A s s.heap) (hN : vx_Zq Bundle.tN "SUPPRESSED_SENTINEL" Bundle.listD A s s.heap) (hS : va_S A s.heap H locs) (hsize : ls.size = c.maxLocals)
    (d0 : decode cc pc = .ok (.new ik, 3)) (d3 : decode cc (pc + 3) = .ok (.dup, 1)) (d4 : decode cc (pc + 4) = .ok (.ldc_w is, 3)) (d7 : decode cc (pc + 7) = .ok (.invokespecial ic, 3)) (d10 : decode cc (pc + 10) = .ok (.athrow, 1))
    (hout : ∀ x ∈ c.exceptionTable.toList, covers x (pc + 10) = false)
    (hRframes : names.length + 3 < R.frames) (hRlocals : (rest.map fun v => v.category).sum + (13 * (names.length + 1) + 43) ≤ R.locals) (hRcells : cells + 1 ≤ R.cells) (hRslots : slots + 6 ≤ R.slots) (hlocks : meth.locks = false)
    (hx : ∀ t : State, s.vm.Alike t.vm → H.size ≤ t.heap.size → (∀ q : Nat, q < H.size → t.heap[q]? = H[q]?) → XC cls s t)
    (hf : ∀ z ∈ locs, free z.base) (hc : cells + 1 ≤ mc) (hs : slots + 6 ≤ ms) :
    W p l e R s m args below meth c H locs cells slots (vx_MQ below Qc XC args s mc ms free) (F0 m pc ls rest) := by
  intro T hT X
  have htr : e.platform.stackTraces = false := (show e.platform.stackTraces = l.stackTraces by rw [X.admits.platform]).trans hl
  have Y := vx_rebase X (R' := { frames := R.frames, locals := R.locals, cells := 1, slots := 6 }) (Nat.le_refl _) (Nat.le_refl _) hRcells hRslots
  obtain ⟨s', hA⟩ : ∃ z, z = (T.setVm s.vm).setFrames (.invoking m args :: below) := ⟨_, rfl⟩
  rw [← hA] at Y
  have hvm : s'.vm = s.vm := by rw [hA]; rfl
  have hhp : s'.heap = H := by rw [hA]; exact hT
  have hW0 : s.WarmedH s'.vm := by rw [hvm]; exact State.WarmedH.refl s
  have hat' : ∀ w ∈ vx_atS own ic cls names, w.before args s' = true := fun w hw => vx_ot_at hW0 hvm.symm (hgood w (List.mem_cons_of_mem _ (List.mem_cons_of_mem _ hw))) (hat w hw)
  have hk' : (Cond.classLink own ik cls).before args s' = true := vx_ot_at hW0 hvm.symm (hgood _ List.mem_cons_self) hk
  have hini' : (Cond.initialized cls).before args s' = true := vx_ot_at hW0 hvm.symm (hgood _ (List.mem_cons_of_mem _ List.mem_cons_self)) hini
  have hU' : vx_Zq Bundle.tN "UNASSIGNED_STACK" Bundle.steD A s' s'.heap := by rw [hhp]; exact vx_Zq.moved hW0.alike (hU.kept hS.2.1)
  have hN' : vx_Zq Bundle.tN "SUPPRESSED_SENTINEL" Bundle.listD A s' s'.heap := by rw [hhp]; exact vx_Zq.moved hW0.alike (hN.kept hS.2.1)
  have h : ∀ w ∈ Bundle.ownAtoms own ic cls names, w.before args s' = true := vx_own hat' (vx_isRefq hU'.1) (vx_isRefq hN'.1) hU'.2.word hN'.2.word
  have hown' : s'.vm.findClass own = some m.cls := by rw [hvm]; exact hown
  have hins : (Cond.instantiable cls 6).before args s' = true := h _ (by simp [Bundle.ownAtoms])
  obtain ⟨vm₁, cX, kX, hfX, hkX, -, -, X₁, st1⟩ := Y.newCold hexec (own := own) (C := cls) (index := ik) (n := 6) hown' hk' hins hini'
    (g := F0 m pc ls rest) rfl (by rw [hb]; exact d0) (Nat.le_refl _) (Nat.le_refl _)
  generalize hT1 : (T.setVm vm₁).pushCell { cls := cX, slots := kX.instanceTypes.map defaultValue, vm := .none } = T1 at X₁ st1
  have hcat : (Value.ref T.heap.size).category = 1 := rfl
  have hcellA : T1.heap[T.heap.size]? = some (freshCell cX kX) := by rw [← hT1]; exact State.heap_pushCell_size _ _
  have d3' : decode c.code (pc + 3) = .ok (.dup, 1) := by rw [hb]; exact d3
  have d4' : decode c.code (pc + 4) = .ok (.ldc_w is, 3) := by rw [hb]; exact d4
  have hstr' : vk_R own is text sa s' := vk_R.warm hW0 hstr
  obtain ⟨U, hsteps, hrun, hend, hW, hsame, ce, hce, hO⟩ := X₁.ctorThrowS hexec htr (own := own) (cls := cls) (names := names) (ic := ic) hown' hcls hnames h (fun x hx => nomatch hx) hfX hkX hcellA (by rw [hhp, hT]; exact Nat.le_refl _) (msg := .ref sa) rfl
    (g := { method := m, pc := pc + 7, locals := ls, stack := .ref sa :: .ref T.heap.size :: .ref T.heap.size :: rest, locked := none }) rfl hsize rfl rfl (rest := rest) rfl
    (by rw [hb]; exact d7) (by rw [hb]; exact d10) hout hRframes (by simp only [List.map_cons, List.sum_cons, hcat]; omega) hlocks
  obtain ⟨f1, f2⟩ := vx_frame hsame
  rw [hhp] at f1 f2
  have hWs : s.WarmedH U.vm := State.WarmedH.trans hW0 hW
  have hcl : s.vm.findClass cls = some ce.cls := by
    have h9 := hO.cls
    rw [hvm] at h9
    exact h9
  have hall : s.sameButNew ({ U with vm := s.vm } : State) locs mc ms := by
    subst hA
    obtain ⟨e1, e2⟩ := hsame
    rw [State.setFrames_setFrames] at e1
    have h2 : (T.setVm s.vm).sameButNew ({ U with vm := s.vm } : State) [] (0 + 1) (0 + 6) := ⟨e1, e2⟩
    have h3 := X.same.trans h2
    rw [List.append_nil] at h3
    exact h3.mono hc hs
  refine ⟨U, ?_, .threw T.heap.size, hrun, hend, Or.inr ⟨T.heap.size, rfl, cls, ce, locs, hx U hWs.alike f1 (fun q hq => f2 q hq (fun z hz => nomatch hz)), hce, hO.vm, hcl, hWs, hall, hf⟩⟩
  refine st1 _ ?_
  show Steps p.tables e below (T1.setTop { method := m, pc := pc + 3, locals := ls, stack := .ref T.heap.size :: rest, locked := none }) _
  jvm_step X₁.here [X₁.here.top, hexec, d3', Value.category]
  exact X₁.ldcStringW hexec (own := own) (text := text) (index := is) (a := sa) hown' hstr'.1 hstr'.2
    (g := { method := m, pc := pc + 4, locals := ls, stack := .ref T.heap.size :: .ref T.heap.size :: rest, locked := none }) rfl d4' _ hsteps
end Ends
section Bodies
variable {l : Launch}
theorem vx_ofW {y : MethodName} {ws ws' : List Cond} {rm : Room} {Pc : Array Value → State → Prop} {Qc : Array Value → State → Outcome → State → Prop} {XC : String → State → State → Prop} {mc ms : Nat} {free : Addr → Prop} {cc : ByteArray} {maxL : Nat} {ret : Option FieldType}
    (hy : plainName y.cls = true) (hw : ws = Cond.code y cc maxL ret :: ws')
    (body : ∀ p e s m args below meth c s₁, BodyLoose p l y (headSpec ws rm) cc maxL ret e s m args below meth c s₁ → c.maxLocals = maxL → (∀ x ∈ c.exceptionTable.toList, False) → Pc args s →
      W p l e (headSpec ws rm).room s m args below meth c s.heap [] 0 0 (vx_MQ below Qc XC args s mc ms free) (entryFrame m args maxL)) : vx_Met l y ws rm Pc Qc XC mc ms free := by
  refine MetFree.of_bodyS (code := cc) (maxLocals := maxL) (ret := ret) hy ?_ ?_
  · intro args s m h hn
    obtain ⟨meth, c, h1, h2, h3, h4, h5, h6, -, -⟩ := Cond.code_spec hn (atoms_spec (ws := ws) h _ (by rw [hw]; exact List.mem_cons_self))
    exact ⟨meth, c, h1, h2, h3, h4, h5, h6⟩
  · intro p e s m args below meth c s₁ B hml hP _
    have hh0 : s₁.heap = s.heap := by rw [B.state]; rfl
    have ht : ∀ x ∈ c.exceptionTable.toList, False := by
      obtain ⟨meth9, c9, h1, h2, -, -, -, -, h7, -⟩ := Cond.code_spec B.named (atoms_spec (ws := ws) B.pre _ (by rw [hw]; exact List.mem_cons_self))
      cases Option.some.inj (h1.symm.trans B.method)
      cases Option.some.inj (h2.symm.trans (Stand.of_body B).code)
      intro x hx
      rw [Array.isEmpty_iff.mp h7] at hx
      cases hx
    obtain ⟨t, a1, o, b1, b2, b3⟩ := body p e s m args below meth c s₁ B hml ht hP s₁ hh0 (Stand.of_body B)
    exact ⟨t, o, a1, b1, b2, b3⟩
/-- the table of a body with handlers -/
theorem vx_table {p : Program} {x y : MethodName} {S : Spec} {cc bytes : ByteArray} {maxL maxL' : Nat} {ret ret' : Option FieldType} {e : Env} {s s₁ : State} {m : MethodId} {args : Array Value} {below : List Frame} {meth : Method} {c : Code} {hh : List (Nat × Nat × Nat × Nat)}
    (B : BodyLoose p l y S cc maxL ret e s m args below meth c s₁) (h : (Cond.codeWith y bytes maxL' ret' hh).before args s = true) : c.exceptionTable.toList = tableOf hh := by
  obtain ⟨m9, meth9, c9, hn9, h1, h2, -, -, h6, -⟩ := Cond.codeWith_spec h
  cases Option.some.inj (hn9.symm.trans B.named)
  cases Option.some.inj (h1.symm.trans B.method)
  cases Option.some.inj (h2.symm.trans (Stand.of_body B).code)
  rw [← h6, table_eq]
end Bodies
end VXA
/-! ===== END ===== -/
/-! ===== BEGIN a static call of a method with an exception table ===== -/
section VXS
variable {p : Program} {l : Launch} {e : Env} {R : Room} {s : State} {m : MethodId} {args : Array Value} {below : List Frame} {meth : Method} {c : Code} {T : State} {H : Heap} {locs : List Loc} {cells slots : Nat}
abbrev vx_CSW (R : Room) (s : State) (args : Array Value) (own : String) (index : Nat) (y : MethodName) (bytes : ByteArray) (maxL : Nat) (ret : Option FieldType) (hh : List (Nat × Nat × Nat × Nat)) (ws : List Cond) (rm : Room) (mc ms n : Nat) : Prop :=
  (rm.cells = mc ∧ rm.slots = ms ∧ rm.frames + 1 ≤ R.frames ∧ 8 + (maxL + 11) + rm.locals ≤ R.locals ∧ (∀ w ∈ ws, ∀ (a' : Array Value) (U : State), s.WarmedH U.vm → w.before a' U = true) ∧ Cond.codeWith y bytes maxL ret hh ∈ ws) ∧
  (Cond.codeWith y bytes maxL ret hh).before args s = true ∧ (Cond.initialized y.cls).before args s = true ∧ (y.cls ≠ "java/lang/invoke/MethodHandle" ∧ y.cls ≠ "java/lang/invoke/VarHandle") ∧
  (∀ sig, parseMethodDescriptor y.desc = some sig → n = sig.parameters.length) ∧ (Cond.methodLink own index y).before args s = true ∧ (Cond.static y).before args s = true
theorem vx_cwSW {own : String} {index maxL mc ms : Nat} {y : MethodName} {bytes : ByteArray} {ret : Option FieldType} {hh : List (Nat × Nat × Nat × Nat)} {Ts ws ws' : List Cond} {rm : Room} (n : Nat) (ht : ∀ w ∈ Ts, w.before args s = true) (hT : GoodIn Ts (va_wsS own index y ws)) (hw : ws = Cond.codeWith y bytes maxL ret hh :: ws') (hrc : rm.cells = mc) (hrs : rm.slots = ms)
    (hd : y.cls ≠ "java/lang/invoke/MethodHandle" ∧ y.cls ≠ "java/lang/invoke/VarHandle" ∧ (parseMethodDescriptor y.desc).map (fun d => d.parameters.length) = some n) (hR : rm.frames + 1 ≤ R.frames ∧ 8 + (maxL + 11) + rm.locals ≤ R.locals) :
    vx_CSW R s args own index y bytes maxL ret hh ws rm mc ms n := by
  have ok : ∀ w ∈ va_wsS own index y ws, w.before args s = true := fun w h => ht w (hT w h).1
  have hG : GoodIn Ts ws := fun w h => hT w (by unfold va_wsS; exact List.mem_append_right _ h)
  have hc : Cond.codeWith y bytes maxL ret hh ∈ ws := by rw [hw]; exact List.mem_cons_self
  refine ⟨⟨hrc, hrs, hR.1, hR.2, pay_in ht hG, hc⟩, ht _ (hG _ hc).1, ok _ (by simp [va_wsS]), ⟨hd.1, hd.2.1⟩, fun sig h => ?_, ok _ (by simp [va_wsS]), ok _ (by simp [va_wsS])⟩
  have h2 := hd.2.2
  rw [h] at h2
  exact (Option.some.inj h2).symm
theorem vx_callSW (X : Stand p l e R s m args below meth c T locs cells slots) (hexec : p.tables.exec = Jvm.exec) {own : String} {index : Nat} {y : MethodName} {bytes : ByteArray} {maxL : Nat} {ret : Option FieldType} {hh : List (Nat × Nat × Nat × Nat)}
    (hown : s.vm.findClass own = some m.cls) (hlink : (Cond.methodLink own index y).before args s = true) (hstat : (Cond.static y).before args s = true) (hinit : (Cond.initialized y.cls).before args s = true)
    (hcode : (Cond.codeWith y bytes maxL ret hh).before args s = true) (hy : y.cls ≠ "java/lang/invoke/MethodHandle" ∧ y.cls ≠ "java/lang/invoke/VarHandle")
    {W9 : Nat} {Pre : Pt → Array Value → Prop} {Post : Pt → Array Value → Option Value → Pt → Prop} (hK : Back l R p e below s args y 3 W9 Pre Post)
    {g : JFrame} (hg : g.method = m) (hsize : g.locals.size = c.maxLocals) {argsL rest : List Value} (hlen : ∀ sig, parseMethodDescriptor y.desc = some sig → argsL.length = sig.parameters.length)
    (hstack : g.stack = argsL.reverse ++ rest) (hW : 2 * g.monitorRoom + (rest.map fun v => v.category).sum ≤ W9) (hdg : decode c.code g.pc = .ok (.invokestatic index, 3))
    (hpre : ∀ vm₁, s.WarmedH vm₁ → Pre ⟨T.setVm vm₁, locs, cells, slots⟩ argsL.toArray) :
    ∃ (v : Option Value) (vm₁ : Vm) (B : Pt), s.WarmedH vm₁ ∧ Stand p l e R s m args below meth c B.U B.locs B.cells B.slots ∧ Post ⟨T.setVm vm₁, locs, cells, slots⟩ argsL.toArray v B ∧
      ∀ target, Steps p.tables e below (B.U.setTop { g with pc := g.pc + 3, stack := v.toList ++ rest }) target → Steps p.tables e below (T.setTop g) target := by
  obtain ⟨mk, methM, cM, hnamed, hmethM, -, -, -, -, -, -, hsigM⟩ := Cond.codeWith_spec hcode
  have hstatic : methM.isStatic = true := Cond.static_spec hnamed hmethM hstat
  obtain ⟨kP, hkP, -⟩ := className_of_methodNamed hnamed
  have hinitP : kP.init = .initialized := Cond.initialized_spec (findClass_of_methodNamed hnamed) hkP hinit
  obtain ⟨vm₁, X₁, hstep₁⟩ := X.invokestatic hexec hown hlink hnamed hmethM hstatic hkP hinitP hy (g := g) hg (argsL := argsL) (rest := rest) (hlen _ hsigM) hstack hdg
  obtain ⟨v, B, X', hpost, hsteps⟩ := hK m meth c ⟨T.setVm vm₁, locs, cells, slots⟩ { g with stack := rest } (.invokestatic index) mk argsL.toArray X₁ hg hsize hdg hW (X₁.named hnamed) (hpre vm₁ X₁.warmed)
  exact ⟨v, vm₁, B, X₁.warmed, X', hpost, fun target h => hstep₁ _ fun acts => by rw [doInvoke_state]; exact hsteps.trans h⟩
theorem vx_runSW {y : MethodName} {bytes cc : ByteArray} {maxL nL mc ms n index : Nat} {ret : Option FieldType} {hh : List (Nat × Nat × Nat × Nat)} {ws : List Cond} {rm : Room} {Pc : Array Value → State → Prop} {Qc : Array Value → State → Outcome → State → Prop} {free : Addr → Prop} {Ts : List Cond} {own : String} {As rest : List Value} {g : JFrame}
    (S : CallFix p m c cc nL s args Ts own) (hM : Met l y ws rm Pc Qc mc ms free) (cw : vx_CSW R s args own index y bytes maxL ret hh ws rm mc ms n) (hp : PreS s H Pc As)
    (hg : g.method = m) (hn : As.length = n) (hsize : g.locals.size = nL) (hstack : g.stack = As.reverse ++ rest) (hW : 2 * g.monitorRoom + (rest.map fun v => v.category).sum ≤ 8) (hdg : decode cc g.pc = .ok (.invokestatic index, 3)) (hf : cells + mc ≤ R.cells ∧ slots + ms ≤ R.slots) :
    va_Run p l e R s m args below meth c H locs cells slots mc ms g rest (Qc As.toArray) (free) := by
  obtain ⟨⟨hrc, hrs, hfr, hlo, hws, hcw⟩, hcode, hini, hy, hlen, hl, hstt⟩ := cw
  have hK : Back l R p e below s args y 3 8 (PreOf R mc ms Pc) (PostOf Qc mc ms free) := va_backW (hh := hh) (bytes := bytes) (maxL := maxL) (ret := ret) hM hp.1 hrc hrs hfr hlo hws hcw (fun a' U hW => word_at hW (Or.inl (by first | rfl | simp [Cond.onTables, Cond.keeps, Cond.steady])) hini)
  obtain ⟨hx, hb, hml, ho, -⟩ := S
  intro T hT X
  obtain ⟨v, vm₁, ⟨U', l2, c2, s2⟩, hW₁, X', ⟨g', mk, t, L, e1, e2, hq, h1, hL, h2, h3⟩, st⟩ := vx_callSW X hx (hh := hh) (bytes := bytes) (maxL := maxL) (ret := ret) ho hl hstt hini hcode hy hK hg (hsize.trans hml.symm) (argsL := As) (rest := rest) (fun sig h => hn.trans (hlen sig h)) hstack hW (by rw [hb]; exact hdg)
    (fun vm₁ hW₁ => ⟨hf.1, hf.2, hp.2 (T.setVm vm₁) hT hW₁⟩)
  dsimp only [Pt.U, Pt.locs, Pt.cells, Pt.slots] at X' e1 e2 h1 h2 h3 st
  subst h1; subst h2; subst h3
  exact ⟨v, (T.setVm vm₁).calling g' mk As.toArray, t, U', L, hT, X', hL, e1, e2, hq, st⟩
/-- not caught here, past rows that name other classes: it goes on to the caller -/
theorem vx_outP {p : Program} {l : Launch} {e : Env} {R : Room} {s : State} {m : MethodId} {args : Array Value} {below : List Frame} {meth : Method} {c : Code} {H : Heap} {locs : List Loc} {cells slots : Nat} {free : Addr → Prop} {ls : Array Slot} {rest : List Value} {Qc : Array Value → State → Outcome → State → Prop} {XC : String → State → State → Prop}
    {pc : Nat} {own E : String} {ce : Cell} {q : Addr} {mc ms : Nat} (hown : s.vm.findClass own = some m.cls) (hlocks : meth.locks = false)
    (hpass : ∀ z ∈ c.exceptionTable.toList, covers z pc = false ∨ (z.catchType ≠ 0 ∧ ∃ nm : String, (Cond.classLink own z.catchType nm).before args s = true ∧ va_Nc E nm s)) (hcell : H[q]? = some ce) (hv : ce.vm = .none) (hcl : s.vm.findClass E = some ce.cls)
    (hx : ∀ t : State, t.heap = H → s.vm.Alike t.vm → XC E s t) (hf : ∀ z ∈ locs, free z.base) (hc : cells ≤ mc) (hs : slots ≤ ms) :
    vx_W p l e R s m args below meth c H locs cells slots (vx_MQ below Qc XC args s mc ms free) (F0 m pc ls rest) q := by
  intro T hT X
  have hpl : e.platform.magicAccessors = ({} : Platform).magicAccessors := by rw [X.admits.platform]
  obtain ⟨vm', hW', X', st⟩ := X.outThrough hlocks q (g := F0 m pc ls rest) rfl rfl rfl (cell := ce) (by rw [hT]; exact hcell) (by rw [hv]; rfl)
    (by obtain ⟨k9, h9, -⟩ := Vm.findClass_spec hcl; exact ⟨k9, h9⟩) (fun z hz => by
      rcases hpass z hz with h | ⟨hz0, nm, hl1, hn1⟩
      · exact Or.inl h
      · obtain ⟨c6, hc6, hcl6⟩ := Cond.classLink_spec hown hl1 e.platform hpl
        obtain ⟨a8, b8, h1, h2, h3⟩ := hn1
        cases Option.some.inj (h1.symm.trans hcl)
        cases Option.some.inj (h2.symm.trans hc6)
        exact Or.inr ⟨hz0, _, hcl6, h3⟩)
  obtain ⟨g₀, hfr⟩ := X'.frames_eq
  have hcell9 : ((T.setVm vm').setFrames (.throwing q :: below)).heap[q]? = some ce := by
    show T.heap[q]? = some ce
    rw [hT]; exact hcell
  have hend : Ended ((T.setVm vm').setFrames (.throwing q :: below)) below (.threw q) := State.frames_setFrames _ (State.cur_lt_of_frames hfr)
  refine ⟨(T.setVm vm').setFrames (.throwing q :: below), ?_, .threw q, X'.here.running, hend, Or.inr ⟨q, rfl, E, ce, locs, hx _ hT (X'.ends _).1.alike, hcell9, hv, hcl, (X'.ends _).1, (X'.ends _).2.mono hc hs, hf⟩⟩
  rw [X.pushThrowing_eq]
  exact st
/-- a thing of a world lies in the heap -/
theorem vx_lt {D : va_G} {cl : List vw_C} {ws : va_W} {H1 : Heap} (h : va_P D cl ws H1) {k : Nat} {q : Nat × va_E} (hk : ws[k]? = some q) : q.1 < H1.size := (h k q hk).lt
end VXS
/-! ===== END ===== -/
/-! ===== BEGIN methods with a table of their own: called by a name, returning or throwing ===== -/
section VXH
/-! vx_backW, vx_callVX, vx_callSX, vx_callVW, vx_runVW, vx_runVX, vx_runSX, vx_ofWH follow the same proofs as their sisters above (Free/Laws.lean, Shelf42/LK1.lean); vx_outP calls Shelf42/NT130.lean (outThrough). -/
section
variable {l : Launch} {R : Room} {p : Program} {e : Env} {below : List Frame} {s : State} {sargs : Array Value} {y : MethodName} {len W9 : Nat}
theorem vx_backW {ws : List Cond} {rm : Room} {Pc : Array Value → State → Prop} {Qc : Array Value → State → Outcome → State → Prop} {XC : String → State → State → Prop} {mc ms : Nat} {free : Addr → Prop} {bytes : ByteArray} {maxL : Nat} {ret : Option FieldType} {hh : List (Nat × Nat × Nat × Nat)}
    (hM : vx_Met l y ws rm Pc Qc XC mc ms free) (hblind : FrameBlind Pc) (hrc : rm.cells = mc) (hrs : rm.slots = ms)
    (hframes : rm.frames + 1 ≤ R.frames) (hlocals : W9 + (maxL + 11) + rm.locals ≤ R.locals)
    (hws : ∀ w ∈ ws, ∀ a' U, s.WarmedH U.vm → w.before a' U = true) (hcode : Cond.codeWith y bytes maxL ret hh ∈ ws) (hinit : ∀ a' U, s.WarmedH U.vm → (Cond.initialized y.cls).before a' U = true) :
    vx_Back l R p e below s sargs y len W9 (PreOf R mc ms Pc) (PostOf Qc mc ms free) (vx_Post XC mc ms free) := by
  intro m meth c A g ig mk a X hg hsize hdg hW hn hp
  have h1 : (headSpec ws rm).pre.before a A.U = true := atoms_intro fun w hw => hws w hw _ _ X.warmed
  have h2 : (Cond.codeWith y bytes maxL ret hh).before a A.U = true := hws _ hcode _ _ X.warmed
  have h3 : (Cond.initialized y.cls).before a A.U = true := hinit _ _ X.warmed
  have h4 : A.cells + (headSpec ws rm).room.cells ≤ R.cells := by rw [show (headSpec ws rm).room.cells = mc from hrc]; exact hp.1
  have h5 : A.slots + (headSpec ws rm).room.slots ≤ R.slots := by rw [show (headSpec ws rm).room.slots = ms from hrs]; exact hp.2.1
  have hPc : Pc a (A.U.calling g mk a) := hblind _ _ _ _ hp.2.2
  obtain ⟨U, Ls, c0, s0⟩ := A
  dsimp only [Pt.U, Pt.locs, Pt.cells, Pt.slots] at h1 h2 h3 h4 h5 X hn hPc ⊢
  obtain ⟨m9, methY, cY, hn9, hmY, hcY, -, hlY, -⟩ := Cond.codeWith_spec h2
  cases Option.some.inj (hn9.symm.trans hn)
  obtain ⟨kY, hkY, -⟩ := className_of_methodNamed hn
  have hinitY : kY.init = .initialized := Cond.initialized_spec (findClass_of_methodNamed hn) hkY h3
  have h : At U g.method c below := by rw [hg]; exact X.here
  have hlocals9 : W9 + (maxL + 11) + (headSpec ws rm).room.locals ≤ R.locals := hlocals
  have happ : (headSpec ws rm).appliesLoose y e.platform (U.calling g mk a) = true :=
    Spec.appliesLoose_calling (g := g) h hdg hn hkY hinitY
      (X.room_calling (g := g) (R' := (headSpec ws rm).room) hsize hmY hcY hframes (by rw [hlY]; omega) h4 h5) h1
  obtain ⟨mid, hmid⟩ := h.above
  have hfr : (U.setTop g).frames = (.java g :: mid) ++ below := by rw [State.frames_setTop' g h.top, hmid]; rfl
  obtain ⟨o, s₂, hsteps, -, hend, hq⟩ := Steps.callFree hM p X.admits X.cas X.clock (acts := []) hfr happ hPc trivial
  have hq' : vx_Q Qc XC mc ms free a (U.calling g mk a) o s₂ := hq
  rw [State.frames_setTop' g h.top] at hend
  obtain ⟨g₀, hg0⟩ := Option.isSome_iff_exists.mp h.top
  obtain ⟨r, hr⟩ := State.topJava?_eq_some.mp hg0
  have hr' : (({ U with heap := s₂.heap, slotsUsed := s₂.slotsUsed } : State).setVm s₂.vm).frames = .java g₀ :: r := hr
  rcases hq' with ⟨hqc, L, hfe, hL⟩ | ⟨q, rfl, E, ce, L, hx, hce, hcv, hcl, hW₂, hsm, hL⟩
  · obtain ⟨⟨v, rfl⟩, hW₂, e2, q2, q3, q4, q5, q6⟩ := id hfe
    have e3 : s₂ = ({ (U.calling g mk a).setFrames s₂.frames with heap := s₂.heap, slotsUsed := s₂.slotsUsed } : State).setVm s₂.vm := by
      have : s₂ = ({ s₂ with vm := (U.calling g mk a).vm } : State).setVm s₂.vm := rfl
      rw [e2] at this
      exact this
    obtain ⟨c₂, i₂, len₂, hc₂, hd₂, hf₂⟩ := hend
    have hW' : U.WarmedH s₂.vm := hW₂
    have hcc : c₂ = c := by
      have h1 : s₂.code? g.method = U.code? g.method := by
        rw [State.code?_eq, State.code?_eq, hW'.alike.method?]
      exact Option.some.inj (hc₂.symm.trans (h1.trans h.code))
    subst hcc
    have hlen : len₂ = len := by rw [hdg] at hd₂; cases hd₂; rfl
    subst hlen
    have hs₂ : s₂ = (({ U with heap := s₂.heap, slotsUsed := s₂.slotsUsed } : State).setVm s₂.vm).setTop { g with pc := g.pc + len₂, stack := v.toList ++ g.stack } := by
      refine e3.trans ?_
      rw [hf₂, State.calling_eq h.top, State.setFrames_setFrames, State.setTop_of_frames _ hr', hr]
      rfl
    have hsame : U.sameButNew ({ U with heap := s₂.heap, slotsUsed := s₂.slotsUsed } : State) L mc ms := by
      refine ⟨?_, q2, q3, q4, q5, q6⟩
      obtain ⟨t, ht, -⟩ := State.frames_cons hr
      show ({ U with heap := s₂.heap, slotsUsed := s₂.slotsUsed } : State) = { U.setFrames U.frames with heap := s₂.heap, slotsUsed := s₂.slotsUsed }
      rw [State.setFrames_self ht]
    subst hg
    refine Or.inl ⟨v, ⟨(({ U with heap := s₂.heap, slotsUsed := s₂.slotsUsed } : State).setVm s₂.vm), Ls ++ L, c0 + mc, s0 + ms⟩,
      ⟨X.admits, X.cas, X.clock, X.frames, X.room, X.hears, X.method, X.code, (X.here.setHeapUsed s₂.heap s₂.slotsUsed).setVm hW'.alike, X.tail, State.WarmedH.trans X.warmed hW', X.limits, X.bytes, X.same.trans (hsame.setVm s.vm)⟩,
      ⟨g, mk, s₂, L, rfl, rfl, hqc, rfl, hL, rfl, rfl⟩, ?_⟩
    show Steps p.tables e below _ ((({ U with heap := s₂.heap, slotsUsed := s₂.slotsUsed } : State).setVm s₂.vm).setTop { g with pc := g.pc + len₂, stack := v.toList ++ g.stack })
    rw [← hs₂]
    exact hsteps
  · obtain ⟨e2, q2, q3, q4, q5, q6⟩ := id hsm
    have e3 : s₂ = ({ (U.calling g mk a).setFrames s₂.frames with heap := s₂.heap, slotsUsed := s₂.slotsUsed } : State).setVm s₂.vm := by
      have : s₂ = ({ s₂ with vm := (U.calling g mk a).vm } : State).setVm s₂.vm := rfl
      rw [e2] at this
      exact this
    have hf₂ : s₂.frames = .throwing q :: .java g :: U.frames.tail := hend
    have hW' : U.WarmedH s₂.vm := hW₂
    have hs₂ : s₂ = ((({ U with heap := s₂.heap, slotsUsed := s₂.slotsUsed } : State).setVm s₂.vm).setTop g).pushFrame (.throwing q) := by
      refine e3.trans ?_
      rw [hf₂, State.calling_eq h.top, State.setFrames_setFrames, State.pushFrame, State.frames_setTop _ hr', State.setTop_of_frames _ hr', State.setFrames_setFrames, hr]
      rfl
    have hsame : U.sameButNew ({ U with heap := s₂.heap, slotsUsed := s₂.slotsUsed } : State) L mc ms := by
      refine ⟨?_, q2, q3, q4, q5, q6⟩
      obtain ⟨t, ht, -⟩ := State.frames_cons hr
      show ({ U with heap := s₂.heap, slotsUsed := s₂.slotsUsed } : State) = { U.setFrames U.frames with heap := s₂.heap, slotsUsed := s₂.slotsUsed }
      rw [State.setFrames_self ht]
    subst hg
    refine Or.inr ⟨q, ⟨(({ U with heap := s₂.heap, slotsUsed := s₂.slotsUsed } : State).setVm s₂.vm), Ls ++ L, c0 + mc, s0 + ms⟩,
      ⟨X.admits, X.cas, X.clock, X.frames, X.room, X.hears, X.method, X.code, (X.here.setHeapUsed s₂.heap s₂.slotsUsed).setVm hW'.alike, X.tail, State.WarmedH.trans X.warmed hW', X.limits, X.bytes, X.same.trans (hsame.setVm s.vm)⟩,
      ⟨g, mk, s₂, L, E, ce, rfl, rfl, hx, hce, hcv, hcl, rfl, hL, rfl, rfl⟩, ?_⟩
    show Steps p.tables e below _ (((({ U with heap := s₂.heap, slotsUsed := s₂.slotsUsed } : State).setVm s₂.vm).setTop g).pushFrame (.throwing q))
    rw [← hs₂]
    exact hsteps
end
variable {p : Program} {l : Launch} {e : Env} {R : Room} {s : State} {m : MethodId} {args : Array Value} {below : List Frame} {meth : Method} {c : Code} {T : State} {H : Heap} {locs : List Loc} {cells slots : Nat}
theorem vx_callVX (X : Stand p l e R s m args below meth c T locs cells slots) (hexec : p.tables.exec = Jvm.exec) {own C : String} {index : Nat} {y : MethodName} {bytes : ByteArray} {maxL : Nat} {ret : Option FieldType} {hh : List (Nat × Nat × Nat × Nat)}
    (hown : s.vm.findClass own = some m.cls) (hlink : (Cond.methodLink own index y).before args s = true) (hinst : (Cond.instanceMethod y).before args s = true) (hsel : (Cond.selects C y y).before args s = true)
    (hcode : (Cond.codeWith y bytes maxL ret hh).before args s = true) (hy : y.cls ≠ "java/lang/invoke/MethodHandle" ∧ y.cls ≠ "java/lang/invoke/VarHandle")
    {W9 : Nat} {Pre : Pt → Array Value → Prop} {Post : Pt → Array Value → Option Value → Pt → Prop} {PostX : Pt → Array Value → Addr → Pt → Prop} (hK : vx_Back l R p e below s args y 3 W9 Pre Post PostX)
    {b : Addr} {cellB : Cell} (hcell : T.heap[b]? = some cellB) (hobj : cellB.vm.isStatics = false) (hcls : s.vm.findClass C = some cellB.cls)
    {g : JFrame} (hg : g.method = m) (hsize : g.locals.size = c.maxLocals) {argsL rest : List Value} (hlen : ∀ sig, parseMethodDescriptor y.desc = some sig → argsL.length = sig.parameters.length)
    (hstack : g.stack = argsL.reverse ++ .ref b :: rest) (hW : 2 * g.monitorRoom + (rest.map fun v => v.category).sum ≤ W9) (hdg : decode c.code g.pc = .ok (.invokevirtual index, 3))
    (hpre : ∀ vm₁, s.WarmedH vm₁ → Pre ⟨T.setVm vm₁, locs, cells, slots⟩ (Value.ref b :: argsL).toArray) :
    (∃ (v : Option Value) (vm₁ : Vm) (B : Pt), s.WarmedH vm₁ ∧ Stand p l e R s m args below meth c B.U B.locs B.cells B.slots ∧ Post ⟨T.setVm vm₁, locs, cells, slots⟩ (Value.ref b :: argsL).toArray v B ∧
      ∀ target, Steps p.tables e below (B.U.setTop { g with pc := g.pc + 3, stack := v.toList ++ rest }) target → Steps p.tables e below (T.setTop g) target) ∨
    (∃ (q : Addr) (vm₁ : Vm) (B : Pt), s.WarmedH vm₁ ∧ Stand p l e R s m args below meth c B.U B.locs B.cells B.slots ∧ PostX ⟨T.setVm vm₁, locs, cells, slots⟩ (Value.ref b :: argsL).toArray q B ∧
      Steps p.tables e below (T.setTop g) ((B.U.setTop { g with stack := rest }).pushFrame (.throwing q))) := by
  obtain ⟨mk, methM, hnamed, hmethM, hstM, habM⟩ := Cond.instanceMethod_spec hinst
  obtain ⟨m8, methM', cM, hn8, hmethM', -, -, -, -, -, -, hsigM⟩ := Cond.codeWith_spec hcode
  cases Option.some.inj (hn8.symm.trans hnamed)
  cases hmethM.symm.trans hmethM'
  obtain ⟨c2, r2, m2, q1, q2, q3, q4, kP, hkP, hkPi⟩ := Cond.selects_spec hsel
  cases hcls.symm.trans q1
  cases (State.methodFound?_of_named hnamed hy).symm.trans q2
  cases hnamed.symm.trans q3
  have hselP : selectMethod e.platform s.vm cellB.cls mk = .method mk := by rw [Launch.admits_selectMethod X.admits]; exact q4
  obtain ⟨vm₁, X₁, hstep₁⟩ := X.invokevirtual hexec hown hlink hnamed hmethM hstM hkP hkPi hy (a := b) (cell := cellB) hcell
    (fun z h => by rw [h] at hobj; cases hobj) hselP hmethM habM hkP hkPi (g := g) hg (argsL := argsL) (rest := rest) (hlen _ hsigM) hstack hdg
  rcases hK m meth c ⟨T.setVm vm₁, locs, cells, slots⟩ { g with stack := rest } (.invokevirtual index) mk (Value.ref b :: argsL).toArray X₁ hg hsize hdg hW (X₁.named hnamed) (hpre vm₁ X₁.warmed) with ⟨v, B, X', hpost, hsteps⟩ | ⟨q, B, X', hpost, hsteps⟩
  · exact Or.inl ⟨v, vm₁, B, X₁.warmed, X', hpost, fun target h => hstep₁ _ fun acts => by rw [doInvoke_state]; exact hsteps.trans h⟩
  · exact Or.inr ⟨q, vm₁, B, X₁.warmed, X', hpost, hstep₁ _ fun acts => by rw [doInvoke_state]; exact hsteps⟩
theorem vx_callSX (X : Stand p l e R s m args below meth c T locs cells slots) (hexec : p.tables.exec = Jvm.exec) {own : String} {index : Nat} {y : MethodName} {bytes : ByteArray} {maxL : Nat} {ret : Option FieldType} {hh : List (Nat × Nat × Nat × Nat)}
    (hown : s.vm.findClass own = some m.cls) (hlink : (Cond.methodLink own index y).before args s = true) (hstat : (Cond.static y).before args s = true) (hinit : (Cond.initialized y.cls).before args s = true)
    (hcode : (Cond.codeWith y bytes maxL ret hh).before args s = true) (hy : y.cls ≠ "java/lang/invoke/MethodHandle" ∧ y.cls ≠ "java/lang/invoke/VarHandle")
    {W9 : Nat} {Pre : Pt → Array Value → Prop} {Post : Pt → Array Value → Option Value → Pt → Prop} {PostX : Pt → Array Value → Addr → Pt → Prop} (hK : vx_Back l R p e below s args y 3 W9 Pre Post PostX)
    {g : JFrame} (hg : g.method = m) (hsize : g.locals.size = c.maxLocals) {argsL rest : List Value} (hlen : ∀ sig, parseMethodDescriptor y.desc = some sig → argsL.length = sig.parameters.length)
    (hstack : g.stack = argsL.reverse ++ rest) (hW : 2 * g.monitorRoom + (rest.map fun v => v.category).sum ≤ W9) (hdg : decode c.code g.pc = .ok (.invokestatic index, 3))
    (hpre : ∀ vm₁, s.WarmedH vm₁ → Pre ⟨T.setVm vm₁, locs, cells, slots⟩ argsL.toArray) :
    (∃ (v : Option Value) (vm₁ : Vm) (B : Pt), s.WarmedH vm₁ ∧ Stand p l e R s m args below meth c B.U B.locs B.cells B.slots ∧ Post ⟨T.setVm vm₁, locs, cells, slots⟩ argsL.toArray v B ∧
      ∀ target, Steps p.tables e below (B.U.setTop { g with pc := g.pc + 3, stack := v.toList ++ rest }) target → Steps p.tables e below (T.setTop g) target) ∨
    (∃ (q : Addr) (vm₁ : Vm) (B : Pt), s.WarmedH vm₁ ∧ Stand p l e R s m args below meth c B.U B.locs B.cells B.slots ∧ PostX ⟨T.setVm vm₁, locs, cells, slots⟩ argsL.toArray q B ∧
      Steps p.tables e below (T.setTop g) ((B.U.setTop { g with stack := rest }).pushFrame (.throwing q))) := by
  obtain ⟨mk, methM, cM, hnamed, hmethM, -, -, -, -, -, -, hsigM⟩ := Cond.codeWith_spec hcode
  have hstatic : methM.isStatic = true := Cond.static_spec hnamed hmethM hstat
  obtain ⟨kP, hkP, -⟩ := className_of_methodNamed hnamed
  have hinitP : kP.init = .initialized := Cond.initialized_spec (findClass_of_methodNamed hnamed) hkP hinit
  obtain ⟨vm₁, X₁, hstep₁⟩ := X.invokestatic hexec hown hlink hnamed hmethM hstatic hkP hinitP hy (g := g) hg (argsL := argsL) (rest := rest) (hlen _ hsigM) hstack hdg
  rcases hK m meth c ⟨T.setVm vm₁, locs, cells, slots⟩ { g with stack := rest } (.invokestatic index) mk argsL.toArray X₁ hg hsize hdg hW (X₁.named hnamed) (hpre vm₁ X₁.warmed) with ⟨v, B, X', hpost, hsteps⟩ | ⟨q, B, X', hpost, hsteps⟩
  · exact Or.inl ⟨v, vm₁, B, X₁.warmed, X', hpost, fun target h => hstep₁ _ fun acts => by rw [doInvoke_state]; exact hsteps.trans h⟩
  · exact Or.inr ⟨q, vm₁, B, X₁.warmed, X', hpost, hstep₁ _ fun acts => by rw [doInvoke_state]; exact hsteps⟩
theorem vx_callVW (X : Stand p l e R s m args below meth c T locs cells slots) (hexec : p.tables.exec = Jvm.exec) {own C : String} {index : Nat} {y : MethodName} {bytes : ByteArray} {maxL : Nat} {ret : Option FieldType} {hh : List (Nat × Nat × Nat × Nat)}
    (hown : s.vm.findClass own = some m.cls) (hlink : (Cond.methodLink own index y).before args s = true) (hinst : (Cond.instanceMethod y).before args s = true) (hsel : (Cond.selects C y y).before args s = true)
    (hcode : (Cond.codeWith y bytes maxL ret hh).before args s = true) (hy : y.cls ≠ "java/lang/invoke/MethodHandle" ∧ y.cls ≠ "java/lang/invoke/VarHandle")
    {W9 : Nat} {Pre : Pt → Array Value → Prop} {Post : Pt → Array Value → Option Value → Pt → Prop} (hK : Back l R p e below s args y 3 W9 Pre Post)
    {b : Addr} {cellB : Cell} (hcell : T.heap[b]? = some cellB) (hobj : cellB.vm.isStatics = false) (hcls : s.vm.findClass C = some cellB.cls)
    {g : JFrame} (hg : g.method = m) (hsize : g.locals.size = c.maxLocals) {argsL rest : List Value} (hlen : ∀ sig, parseMethodDescriptor y.desc = some sig → argsL.length = sig.parameters.length)
    (hstack : g.stack = argsL.reverse ++ .ref b :: rest) (hW : 2 * g.monitorRoom + (rest.map fun v => v.category).sum ≤ W9) (hdg : decode c.code g.pc = .ok (.invokevirtual index, 3))
    (hpre : ∀ vm₁, s.WarmedH vm₁ → Pre ⟨T.setVm vm₁, locs, cells, slots⟩ (Value.ref b :: argsL).toArray) :
    ∃ (v : Option Value) (vm₁ : Vm) (B : Pt), s.WarmedH vm₁ ∧ Stand p l e R s m args below meth c B.U B.locs B.cells B.slots ∧ Post ⟨T.setVm vm₁, locs, cells, slots⟩ (Value.ref b :: argsL).toArray v B ∧
      ∀ target, Steps p.tables e below (B.U.setTop { g with pc := g.pc + 3, stack := v.toList ++ rest }) target → Steps p.tables e below (T.setTop g) target := by
  obtain ⟨mk, methM, hnamed, hmethM, hstM, habM⟩ := Cond.instanceMethod_spec hinst
  obtain ⟨m8, methM', cM, hn8, hmethM', -, -, -, -, -, -, hsigM⟩ := Cond.codeWith_spec hcode
  cases Option.some.inj (hn8.symm.trans hnamed)
  cases hmethM.symm.trans hmethM'
  obtain ⟨c2, r2, m2, q1, q2, q3, q4, kP, hkP, hkPi⟩ := Cond.selects_spec hsel
  cases hcls.symm.trans q1
  cases (State.methodFound?_of_named hnamed hy).symm.trans q2
  cases hnamed.symm.trans q3
  have hselP : selectMethod e.platform s.vm cellB.cls mk = .method mk := by rw [Launch.admits_selectMethod X.admits]; exact q4
  obtain ⟨vm₁, X₁, hstep₁⟩ := X.invokevirtual hexec hown hlink hnamed hmethM hstM hkP hkPi hy (a := b) (cell := cellB) hcell
    (fun z h => by rw [h] at hobj; cases hobj) hselP hmethM habM hkP hkPi (g := g) hg (argsL := argsL) (rest := rest) (hlen _ hsigM) hstack hdg
  obtain ⟨v, B, X', hpost, hsteps⟩ := hK m meth c ⟨T.setVm vm₁, locs, cells, slots⟩ { g with stack := rest } (.invokevirtual index) mk (Value.ref b :: argsL).toArray X₁ hg hsize hdg hW (X₁.named hnamed) (hpre vm₁ X₁.warmed)
  exact ⟨v, vm₁, B, X₁.warmed, X', hpost, fun target h => hstep₁ _ fun acts => by rw [doInvoke_state]; exact hsteps.trans h⟩
abbrev vx_CVW (R : Room) (s : State) (args : Array Value) (own C : String) (index : Nat) (y : MethodName) (bytes : ByteArray) (maxL : Nat) (ret : Option FieldType) (hh : List (Nat × Nat × Nat × Nat)) (ws : List Cond) (rm : Room) (mc ms n : Nat) : Prop :=
  (rm.cells = mc ∧ rm.slots = ms ∧ rm.frames + 1 ≤ R.frames ∧ 8 + (maxL + 11) + rm.locals ≤ R.locals ∧ (∀ w ∈ ws, ∀ (a' : Array Value) (U : State), s.WarmedH U.vm → w.before a' U = true) ∧ Cond.codeWith y bytes maxL ret hh ∈ ws) ∧
  (Cond.codeWith y bytes maxL ret hh).before args s = true ∧ (Cond.initialized y.cls).before args s = true ∧ (y.cls ≠ "java/lang/invoke/MethodHandle" ∧ y.cls ≠ "java/lang/invoke/VarHandle") ∧
  (∀ sig, parseMethodDescriptor y.desc = some sig → n = sig.parameters.length) ∧ (Cond.methodLink own index y).before args s = true ∧ (Cond.instanceMethod y).before args s = true ∧ (Cond.selects C y y).before args s = true
theorem vx_cwVW {own C : String} {index maxL mc ms : Nat} {y : MethodName} {bytes : ByteArray} {ret : Option FieldType} {hh : List (Nat × Nat × Nat × Nat)} {Ts ws ws' : List Cond} {rm : Room} (n : Nat) (ht : ∀ w ∈ Ts, w.before args s = true) (hT : GoodIn Ts (wsV own index C y ws)) (hw : ws = Cond.codeWith y bytes maxL ret hh :: ws') (hrc : rm.cells = mc) (hrs : rm.slots = ms)
    (hd : y.cls = C ∧ y.cls ≠ "java/lang/invoke/MethodHandle" ∧ y.cls ≠ "java/lang/invoke/VarHandle" ∧ (parseMethodDescriptor y.desc).map (fun d => d.parameters.length) = some n) (hR : rm.frames + 1 ≤ R.frames ∧ 8 + (maxL + 11) + rm.locals ≤ R.locals) :
    vx_CVW R s args own C index y bytes maxL ret hh ws rm mc ms n := by
  obtain ⟨hC, hd⟩ := hd
  subst hC
  have ok : ∀ w ∈ wsV own index y.cls y ws, w.before args s = true := fun w h => ht w (hT w h).1
  have hG : GoodIn Ts ws := fun w h => hT w (by unfold wsV; exact List.mem_append_right _ h)
  have hc : Cond.codeWith y bytes maxL ret hh ∈ ws := by rw [hw]; exact List.mem_cons_self
  refine ⟨⟨hrc, hrs, hR.1, hR.2, pay_in ht hG, hc⟩, ht _ (hG _ hc).1, ok _ (by simp [wsV]), ⟨hd.1, hd.2.1⟩, fun sig h => ?_, ok _ (by simp [wsV]), ok _ (by simp [wsV]), ok _ (by simp [wsV])⟩
  have h2 := hd.2.2
  rw [h] at h2
  exact (Option.some.inj h2).symm
theorem vx_runVW {y : MethodName} {bytes cc : ByteArray} {maxL nL mc ms n index : Nat} {ret : Option FieldType} {hh : List (Nat × Nat × Nat × Nat)} {ws : List Cond} {rm : Room} {Pc : Array Value → State → Prop} {Qc : Array Value → State → Outcome → State → Prop} {free : Addr → Prop} {Ts : List Cond} {own C : String} {b : Addr} {As rest : List Value} {g : JFrame}
    (S : CallFix p m c cc nL s args Ts own) (hM : Met l y ws rm Pc Qc mc ms free) (cw : vx_CVW R s args own C index y bytes maxL ret hh ws rm mc ms n) (hp : PreV s H C b Pc As)
    (hg : g.method = m) (hn : As.length = n) (hsize : g.locals.size = nL) (hstack : g.stack = As.reverse ++ .ref b :: rest) (hW : 2 * g.monitorRoom + (rest.map fun v => v.category).sum ≤ 8) (hdg : decode cc g.pc = .ok (.invokevirtual index, 3)) (hf : cells + mc ≤ R.cells ∧ slots + ms ≤ R.slots) :
    va_Run p l e R s m args below meth c H locs cells slots mc ms g rest (Qc (Value.ref b :: As).toArray) free := by
  obtain ⟨⟨hrc, hrs, hfr, hlo, hws, hcw⟩, hcode, hini, hy, hlen, hl, hin, hse⟩ := cw
  have hK : Back l R p e below s args y 3 8 (PreOf R mc ms Pc) (PostOf Qc mc ms free) := va_backW (hh := hh) (bytes := bytes) (maxL := maxL) (ret := ret) hM hp.1 hrc hrs hfr hlo hws hcw (fun a' U hW => word_at hW (Or.inl (by first | rfl | simp [Cond.onTables, Cond.keeps, Cond.steady])) hini)
  obtain ⟨hx, hb, hml, ho, -⟩ := S
  obtain ⟨-, ⟨cellB, hcB, hoB, hclB⟩, hPc⟩ := hp
  intro T hT X
  obtain ⟨v, vm₁, ⟨U', l2, c2, s2⟩, hW₁, X', ⟨g', mk, t, L, e1, e2, hq, h1, hL, h2, h3⟩, st⟩ := vx_callVW X hx (C := C) (hh := hh) (bytes := bytes) (maxL := maxL) (ret := ret) ho hl hin hse hcode hy hK (by rw [hT]; exact hcB) hoB hclB hg (hsize.trans hml.symm) (argsL := As) (rest := rest) (fun sig h => hn.trans (hlen sig h)) hstack hW (by rw [hb]; exact hdg)
    (fun vm₁ hW₁ => ⟨hf.1, hf.2, hPc (T.setVm vm₁) hT hW₁⟩)
  dsimp only [Pt.U, Pt.locs, Pt.cells, Pt.slots] at X' e1 e2 h1 h2 h3 st
  subst h1; subst h2; subst h3
  exact ⟨v, (T.setVm vm₁).calling g' mk (Value.ref b :: As).toArray, t, U', L, hT, X', hL, e1, e2, hq, st⟩
section
variable {y : MethodName} {bytes cc : ByteArray} {maxL nL mc ms n index : Nat} {ret : Option FieldType} {ws : List Cond} {rm : Room} {Pc : Array Value → State → Prop} {Qc : Array Value → State → Outcome → State → Prop} {XC : String → State → State → Prop} {free : Addr → Prop} {Ts : List Cond} {own C : String} {b : Addr} {As rest : List Value} {g : JFrame}
theorem vx_runVX {hh : List (Nat × Nat × Nat × Nat)} (S : CallFix p m c cc nL s args Ts own) (hM : vx_Met l y ws rm Pc Qc XC mc ms free) (cw : vx_CVW R s args own C index y bytes maxL ret hh ws rm mc ms n) (hp : PreV s H C b Pc As)
    (hg : g.method = m) (hn : As.length = n) (hsize : g.locals.size = nL) (hstack : g.stack = As.reverse ++ .ref b :: rest) (hW : 2 * g.monitorRoom + (rest.map fun v => v.category).sum ≤ 8) (hdg : decode cc g.pc = .ok (.invokevirtual index, 3)) (hf : cells + mc ≤ R.cells ∧ slots + ms ≤ R.slots) :
    vx_Run p l e R s m args below meth c H locs cells slots mc ms g rest (Qc (Value.ref b :: As).toArray) XC free := by
  obtain ⟨⟨hrc, hrs, hfr, hlo, hws, hcw⟩, hcode, hini, hy, hlen, hl, hin, hse⟩ := cw
  have hK : vx_Back l R p e below s args y 3 8 (PreOf R mc ms Pc) (PostOf Qc mc ms free) (vx_Post XC mc ms free) := vx_backW (hh := hh) (bytes := bytes) (maxL := maxL) (ret := ret) hM hp.1 hrc hrs hfr hlo hws hcw (fun a' U hW => word_at hW (Or.inl (by first | rfl | simp [Cond.onTables, Cond.keeps, Cond.steady])) hini)
  obtain ⟨hx, hb, hml, ho, -⟩ := S
  obtain ⟨-, ⟨cellB, hcB, hoB, hclB⟩, hPc⟩ := hp
  intro T hT X
  rcases vx_callVX X hx (C := C) (hh := hh) (bytes := bytes) (maxL := maxL) (ret := ret) ho hl hin hse hcode hy hK (by rw [hT]; exact hcB) hoB hclB hg (hsize.trans hml.symm) (argsL := As) (rest := rest) (fun sig h => hn.trans (hlen sig h)) hstack hW (by rw [hb]; exact hdg)
    (fun vm₁ hW₁ => ⟨hf.1, hf.2, hPc (T.setVm vm₁) hT hW₁⟩) with ⟨v, vm₁, ⟨U', l2, c2, s2⟩, hW₁, X', ⟨g', mk, t, L, e1, e2, hq, h1, hL, h2, h3⟩, st⟩ | ⟨q, vm₁, ⟨U', l2, c2, s2⟩, hW₁, X', ⟨g', mk, t, L, E, ce, e1, e2, hq, hce, hcv, hcl, h1, hL, h2, h3⟩, st⟩
  · dsimp only [Pt.U, Pt.locs, Pt.cells, Pt.slots] at X' e1 e2 h1 h2 h3 st
    subst h1; subst h2; subst h3
    exact Or.inl ⟨v, (T.setVm vm₁).calling g' mk (Value.ref b :: As).toArray, t, U', L, hT, X', hL, e1, e2, hq, st⟩
  · dsimp only [Pt.U, Pt.locs, Pt.cells, Pt.slots] at X' e1 e2 h1 h2 h3 st hcl
    subst h1; subst h2; subst h3
    exact Or.inr ⟨q, (T.setVm vm₁).calling g' mk (Value.ref b :: As).toArray, t, U', L, E, ce, hT, X', hL, e1, e2, hq, hce, hcv, vx_cls hW₁ hcl, st⟩
theorem vx_runSX {hh : List (Nat × Nat × Nat × Nat)} (S : CallFix p m c cc nL s args Ts own) (hM : vx_Met l y ws rm Pc Qc XC mc ms free) (cw : vx_CSW R s args own index y bytes maxL ret hh ws rm mc ms n) (hp : PreS s H Pc As)
    (hg : g.method = m) (hn : As.length = n) (hsize : g.locals.size = nL) (hstack : g.stack = As.reverse ++ rest) (hW : 2 * g.monitorRoom + (rest.map fun v => v.category).sum ≤ 8) (hdg : decode cc g.pc = .ok (.invokestatic index, 3)) (hf : cells + mc ≤ R.cells ∧ slots + ms ≤ R.slots) :
    vx_Run p l e R s m args below meth c H locs cells slots mc ms g rest (Qc As.toArray) XC free := by
  obtain ⟨⟨hrc, hrs, hfr, hlo, hws, hcw⟩, hcode, hini, hy, hlen, hl, hstt⟩ := cw
  have hK : vx_Back l R p e below s args y 3 8 (PreOf R mc ms Pc) (PostOf Qc mc ms free) (vx_Post XC mc ms free) := vx_backW (hh := hh) (bytes := bytes) (maxL := maxL) (ret := ret) hM hp.1 hrc hrs hfr hlo hws hcw (fun a' U hW => word_at hW (Or.inl (by first | rfl | simp [Cond.onTables, Cond.keeps, Cond.steady])) hini)
  obtain ⟨hx, hb, hml, ho, -⟩ := S
  intro T hT X
  rcases vx_callSX X hx (hh := hh) (bytes := bytes) (maxL := maxL) (ret := ret) ho hl hstt hini hcode hy hK hg (hsize.trans hml.symm) (argsL := As) (rest := rest) (fun sig h => hn.trans (hlen sig h)) hstack hW (by rw [hb]; exact hdg)
    (fun vm₁ hW₁ => ⟨hf.1, hf.2, hp.2 (T.setVm vm₁) hT hW₁⟩) with ⟨v, vm₁, ⟨U', l2, c2, s2⟩, hW₁, X', ⟨g', mk, t, L, e1, e2, hq, h1, hL, h2, h3⟩, st⟩ | ⟨q, vm₁, ⟨U', l2, c2, s2⟩, hW₁, X', ⟨g', mk, t, L, E, ce, e1, e2, hq, hce, hcv, hcl, h1, hL, h2, h3⟩, st⟩
  · dsimp only [Pt.U, Pt.locs, Pt.cells, Pt.slots] at X' e1 e2 h1 h2 h3 st
    subst h1; subst h2; subst h3
    exact Or.inl ⟨v, (T.setVm vm₁).calling g' mk As.toArray, t, U', L, hT, X', hL, e1, e2, hq, st⟩
  · dsimp only [Pt.U, Pt.locs, Pt.cells, Pt.slots] at X' e1 e2 h1 h2 h3 st hcl
    subst h1; subst h2; subst h3
    exact Or.inr ⟨q, (T.setVm vm₁).calling g' mk As.toArray, t, U', L, E, ce, hT, X', hL, e1, e2, hq, hce, hcv, vx_cls hW₁ hcl, st⟩
end
end VXH
theorem vx_ofWH {l : Launch} {y : MethodName} {ws ws' : List Cond} {rm : Room} {Pc : Array Value → State → Prop} {Qc : Array Value → State → Outcome → State → Prop} {XC : String → State → State → Prop} {mc ms : Nat} {free : Addr → Prop} {cc : ByteArray} {maxL : Nat} {ret : Option FieldType} {hh : List (Nat × Nat × Nat × Nat)}
    (hy : plainName y.cls = true) (hw : ws = Cond.codeWith y cc maxL ret hh :: ws')
    (body : ∀ p e s m args below meth c s₁, BodyLoose p l y (headSpec ws rm) cc maxL ret e s m args below meth c s₁ → c.maxLocals = maxL → Pc args s →
      W p l e (headSpec ws rm).room s m args below meth c s.heap [] 0 0 (vx_MQ below Qc XC args s mc ms free) (entryFrame m args maxL)) : vx_Met l y ws rm Pc Qc XC mc ms free := by
  refine MetFree.of_bodyS (code := cc) (maxLocals := maxL) (ret := ret) hy ?_ ?_
  · intro args s m h hn
    obtain ⟨m9, meth, c, hn9, h1, h2, h3, h4, -, h5, h6, -⟩ := Cond.codeWith_spec (atoms_spec (ws := ws) h _ (by rw [hw]; exact List.mem_cons_self))
    cases hn.symm.trans hn9
    exact ⟨meth, c, h1, h2, h3, h4, h5, h6⟩
  · intro p e s m args below meth c s₁ B hml hP _
    have hh0 : s₁.heap = s.heap := by rw [B.state]; rfl
    obtain ⟨t, a1, o, b1, b2, b3⟩ := body p e s m args below meth c s₁ B hml hP s₁ hh0 (Stand.of_body B)
    exact ⟨t, o, a1, b1, b2, b3⟩
/-! ===== END ===== -/
end
section
/-! ===== BEGIN printed: names, fields, word lists, decode rows ===== -/
def RX0 : String := "Rotationary$Court"
def TX0 : u_T := fun k => match k with
  | 0 => ("Rotationary$Court", "first", "LRotationary$Side;", true)
  | 1 => ("Rotationary$Court", "second", "LRotationary$Side;", true)
  | 2 => ("Rotationary$Court", "server", "I", false)
  | _ => ("Rotationary$Court", "pointsAheadOfWrong", "I", false)
def tyX0 : Nat → FieldType := fun k => match k with
  | 0 => .object "Rotationary$Side"
  | 1 => .object "Rotationary$Side"
  | 2 => .int
  | _ => .int
theorem nmX0 : ∀ a, a < 4 → ∀ b, b < 4 → a ≠ b → (TX0 a).2.1 ≠ (TX0 b).2.1 := by decide +kernel
theorem tyX0_ok : ∀ k, k < 4 → parseFieldDescriptor (TX0 k).2.2.1 = some (tyX0 k) := by decide +kernel
abbrev cX0_init : ByteArray := prog_2_method_1_code
def yX0_init : MethodName := ⟨RX0, "<init>", "()V"⟩
abbrev cX0_sideOf : ByteArray := prog_2_method_2_code
def yX0_sideOf : MethodName := ⟨RX0, "sideOf", "(I)LRotationary$Side;"⟩
abbrev cX0_isSetOn : ByteArray := prog_2_method_3_code
def yX0_isSetOn : MethodName := ⟨RX0, "isSetOn", "()Z"⟩
abbrev cX0_isMatchOver : ByteArray := prog_2_method_4_code
def yX0_isMatchOver : MethodName := ⟨RX0, "isMatchOver", "()Z"⟩
abbrev cX0_setsPlayed : ByteArray := prog_2_method_5_code
def yX0_setsPlayed : MethodName := ⟨RX0, "setsPlayed", "()I"⟩
abbrev cX0_startSet : ByteArray := prog_2_method_6_code
def yX0_startSet : MethodName := ⟨RX0, "startSet", "(I)V"⟩
abbrev cX0_takeService : ByteArray := prog_2_method_7_code
def yX0_takeService : MethodName := ⟨RX0, "takeService", "(I)Z"⟩
abbrev cX0_givePoint : ByteArray := prog_2_method_8_code
def yX0_givePoint : MethodName := ⟨RX0, "givePoint", "(I)V"⟩
abbrev cX0_takeBack : ByteArray := prog_2_method_9_code
def yX0_takeBack : MethodName := ⟨RX0, "takeBack", "()I"⟩
abbrev cX0_hasWonSet : ByteArray := prog_2_method_10_code
def yX0_hasWonSet : MethodName := ⟨RX0, "hasWonSet", "(I)Z"⟩
abbrev cX0_endSet : ByteArray := prog_2_method_11_code
def yX0_endSet : MethodName := ⟨RX0, "endSet", "(I)V"⟩
abbrev cX0_copyFrom : ByteArray := prog_2_method_12_code
def yX0_copyFrom : MethodName := ⟨RX0, "copyFrom", "(LRotationary$Court;)V"⟩
def RX1 : String := "Rotationary$Rally"
def TX1 : u_T := fun k => match k with
  | 0 => ("Rotationary$Rally", "isOn", "Z", false)
  | 1 => ("Rotationary$Rally", "team", "I", false)
  | 2 => ("Rotationary$Rally", "shirt", "I", false)
  | 3 => ("Rotationary$Rally", "kind", "I", false)
  | 4 => ("Rotationary$Rally", "inARow", "I", false)
  | 5 => ("Rotationary$Rally", "isNetNotedOfFirst", "Z", false)
  | _ => ("Rotationary$Rally", "isNetNotedOfSecond", "Z", false)
def tyX1 : Nat → FieldType := fun k => match k with
  | 0 => .boolean
  | 1 => .int
  | 2 => .int
  | 3 => .int
  | 4 => .int
  | 5 => .boolean
  | _ => .boolean
theorem nmX1 : ∀ a, a < 7 → ∀ b, b < 7 → a ≠ b → (TX1 a).2.1 ≠ (TX1 b).2.1 := by decide +kernel
theorem tyX1_ok : ∀ k, k < 7 → parseFieldDescriptor (TX1 k).2.2.1 = some (tyX1 k) := by decide +kernel
abbrev cX1_init : ByteArray := prog_3_method_1_code
def yX1_init : MethodName := ⟨RX1, "<init>", "()V"⟩
abbrev cX1_start : ByteArray := prog_3_method_2_code
def yX1_start : MethodName := ⟨RX1, "start", "(II)V"⟩
abbrev cX1_faultOf : ByteArray := prog_3_method_3_code
def yX1_faultOf : MethodName := ⟨RX1, "faultOf", "(III)I"⟩
abbrev cX1_note : ByteArray := prog_3_method_4_code
def yX1_note : MethodName := ⟨RX1, "note", "(III)V"⟩
abbrev cX1_noteNet : ByteArray := prog_3_method_5_code
def yX1_noteNet : MethodName := ⟨RX1, "noteNet", "(I)V"⟩
abbrev cX1_isNetNotedOf : ByteArray := prog_3_method_6_code
def yX1_isNetNotedOf : MethodName := ⟨RX1, "isNetNotedOf", "(I)Z"⟩
def RX2 : String := "Rotationary$Reader"
def TX2 : u_T := fun k => match k with
  | 0 => ("Rotationary$Reader", "court", "LRotationary$Court;", true)
  | 1 => ("Rotationary$Reader", "lostByFirst", "[I", true)
  | _ => ("Rotationary$Reader", "lostBySecond", "[I", true)
def tyX2 : Nat → FieldType := fun k => match k with
  | 0 => .object "Rotationary$Court"
  | 1 => .array .int
  | _ => .array .int
theorem nmX2 : ∀ a, a < 3 → ∀ b, b < 3 → a ≠ b → (TX2 a).2.1 ≠ (TX2 b).2.1 := by decide +kernel
theorem tyX2_ok : ∀ k, k < 3 → parseFieldDescriptor (TX2 k).2.2.1 = some (tyX2 k) := by decide +kernel
abbrev cX2_init : ByteArray := prog_4_method_1_code
def yX2_init : MethodName := ⟨RX2, "<init>", "()V"⟩
abbrev cX2_read : ByteArray := prog_4_method_2_code
def yX2_read : MethodName := ⟨RX2, "read", "(LRotationary$Sheet;)V"⟩
abbrev cX2_lostBy : ByteArray := prog_4_method_3_code
def yX2_lostBy : MethodName := ⟨RX2, "lostBy", "(II)I"⟩
abbrev cX2_rowOf : ByteArray := prog_4_method_4_code
def yX2_rowOf : MethodName := ⟨RX2, "rowOf", "(I)[I"⟩
abbrev cX2_clear : ByteArray := prog_4_method_5_code
def yX2_clear : MethodName := ⟨RX2, "clear", "()V"⟩
abbrev cX2_follow : ByteArray := prog_4_method_6_code
def yX2_follow : MethodName := ⟨RX2, "follow", "(IIII)V"⟩
abbrev cX2_countLost : ByteArray := prog_4_method_7_code
def yX2_countLost : MethodName := ⟨RX2, "countLost", "(I)V"⟩
def RX3 : String := "Rotationary$Sheet"
def TX3 : u_T := fun k => match k with
  | 0 => ("Rotationary$Sheet", "signs", "[I", true)
  | _ => ("Rotationary$Sheet", "length", "I", false)
def tyX3 : Nat → FieldType := fun k => match k with
  | 0 => .array .int
  | _ => .int
theorem nmX3 : ∀ a, a < 2 → ∀ b, b < 2 → a ≠ b → (TX3 a).2.1 ≠ (TX3 b).2.1 := by decide +kernel
theorem tyX3_ok : ∀ k, k < 2 → parseFieldDescriptor (TX3 k).2.2.1 = some (tyX3 k) := by decide +kernel
abbrev cX3_init : ByteArray := prog_5_method_1_code
def yX3_init : MethodName := ⟨RX3, "<init>", "()V"⟩
abbrev cX3_write : ByteArray := prog_5_method_2_code
def yX3_write : MethodName := ⟨RX3, "write", "(IIII)V"⟩
abbrev cX3_cutTo : ByteArray := prog_5_method_3_code
def yX3_cutTo : MethodName := ⟨RX3, "cutTo", "(I)V"⟩
abbrev cX3_signAt : ByteArray := prog_5_method_4_code
def yX3_signAt : MethodName := ⟨RX3, "signAt", "(I)I"⟩
abbrev cX3_kindOf : ByteArray := prog_5_method_5_code
def yX3_kindOf : MethodName := ⟨RX3, "kindOf", "(I)I"⟩
abbrev cX3_teamOf : ByteArray := prog_5_method_6_code
def yX3_teamOf : MethodName := ⟨RX3, "teamOf", "(I)I"⟩
abbrev cX3_oneOf : ByteArray := prog_5_method_7_code
def yX3_oneOf : MethodName := ⟨RX3, "oneOf", "(I)I"⟩
abbrev cX3_twoOf : ByteArray := prog_5_method_8_code
def yX3_twoOf : MethodName := ⟨RX3, "twoOf", "(I)I"⟩
def RX4 : String := "Rotationary$Side"
def TX4 : u_T := fun k => match k with
  | 0 => ("Rotationary$Side", "shirts", "[I", true)
  | 1 => ("Rotationary$Side", "pairs", "[I", true)
  | 2 => ("Rotationary$Side", "libero", "I", false)
  | 3 => ("Rotationary$Side", "goneForLibero", "I", false)
  | 4 => ("Rotationary$Side", "points", "I", false)
  | 5 => ("Rotationary$Side", "sets", "I", false)
  | 6 => ("Rotationary$Side", "rotations", "I", false)
  | 7 => ("Rotationary$Side", "substitutions", "I", false)
  | 8 => ("Rotationary$Side", "challenges", "I", false)
  | _ => ("Rotationary$Side", "hasExchanged", "Z", false)
def tyX4 : Nat → FieldType := fun k => match k with
  | 0 => .array .int
  | 1 => .array .int
  | 2 => .int
  | 3 => .int
  | 4 => .int
  | 5 => .int
  | 6 => .int
  | 7 => .int
  | 8 => .int
  | _ => .boolean
theorem nmX4 : ∀ a, a < 10 → ∀ b, b < 10 → a ≠ b → (TX4 a).2.1 ≠ (TX4 b).2.1 := by decide +kernel
theorem tyX4_ok : ∀ k, k < 10 → parseFieldDescriptor (TX4 k).2.2.1 = some (tyX4 k) := by decide +kernel
abbrev cX4_init : ByteArray := prog_6_method_1_code
def yX4_init : MethodName := ⟨RX4, "<init>", "()V"⟩
abbrev cX4_shirtIn : ByteArray := prog_6_method_2_code
def yX4_shirtIn : MethodName := ⟨RX4, "shirtIn", "(I)I"⟩
abbrev cX4_put : ByteArray := prog_6_method_3_code
def yX4_put : MethodName := ⟨RX4, "put", "(II)V"⟩
abbrev cX4_placeOf : ByteArray := prog_6_method_4_code
def yX4_placeOf : MethodName := ⟨RX4, "placeOf", "(I)I"⟩
abbrev cX4_isBehind : ByteArray := prog_6_method_5_code
def yX4_isBehind : MethodName := ⟨RX4, "isBehind", "(I)Z"⟩
abbrev cX4_isLiberoIn : ByteArray := prog_6_method_6_code
def yX4_isLiberoIn : MethodName := ⟨RX4, "isLiberoIn", "()Z"⟩
abbrev cX4_isReady : ByteArray := prog_6_method_7_code
def yX4_isReady : MethodName := ⟨RX4, "isReady", "()Z"⟩
abbrev cX4_startSet : ByteArray := prog_6_method_8_code
def yX4_startSet : MethodName := ⟨RX4, "startSet", "()V"⟩
abbrev cX4_clearOrder : ByteArray := prog_6_method_9_code
def yX4_clearOrder : MethodName := ⟨RX4, "clearOrder", "()V"⟩
abbrev cX4_rotate : ByteArray := prog_6_method_10_code
def yX4_rotate : MethodName := ⟨RX4, "rotate", "()V"⟩
abbrev cX4_faultOf : ByteArray := prog_6_method_11_code
def yX4_faultOf : MethodName := ⟨RX4, "faultOf", "(IIZ)I"⟩
abbrev cX4_canExchange : ByteArray := prog_6_method_12_code
def yX4_canExchange : MethodName := ⟨RX4, "canExchange", "(I)Z"⟩
abbrev cX4_swapLibero : ByteArray := prog_6_method_13_code
def yX4_swapLibero : MethodName := ⟨RX4, "swapLibero", "(I)V"⟩
abbrev cX4_canSubstitute : ByteArray := prog_6_method_14_code
def yX4_canSubstitute : MethodName := ⟨RX4, "canSubstitute", "(II)Z"⟩
abbrev cX4_swapByPair : ByteArray := prog_6_method_15_code
def yX4_swapByPair : MethodName := ⟨RX4, "swapByPair", "(II)V"⟩
abbrev cX4_copyFrom : ByteArray := prog_6_method_16_code
def yX4_copyFrom : MethodName := ⟨RX4, "copyFrom", "(LRotationary$Side;)V"⟩
def RX5 : String := "Rotationary"
def TX5 : u_T := fun k => match k with
  | 0 => ("Rotationary", "court", "LRotationary$Court;", true)
  | 1 => ("Rotationary", "courtAheadOfEnd", "LRotationary$Court;", true)
  | 2 => ("Rotationary", "rally", "LRotationary$Rally;", true)
  | 3 => ("Rotationary", "sheet", "LRotationary$Sheet;", true)
  | 4 => ("Rotationary", "reader", "LRotationary$Reader;", true)
  | 5 => ("Rotationary", "signsAheadOfEnd", "I", false)
  | 6 => ("Rotationary", "loser", "I", false)
  | _ => ("Rotationary", "lastEnd", "I", false)
def tyX5 : Nat → FieldType := fun k => match k with
  | 0 => .object "Rotationary$Court"
  | 1 => .object "Rotationary$Court"
  | 2 => .object "Rotationary$Rally"
  | 3 => .object "Rotationary$Sheet"
  | 4 => .object "Rotationary$Reader"
  | 5 => .int
  | 6 => .int
  | _ => .int
theorem nmX5 : ∀ a, a < 8 → ∀ b, b < 8 → a ≠ b → (TX5 a).2.1 ≠ (TX5 b).2.1 := by decide +kernel
theorem tyX5_ok : ∀ k, k < 8 → parseFieldDescriptor (TX5 k).2.2.1 = some (tyX5 k) := by decide +kernel
abbrev cX5_init : ByteArray := prog_1_method_1_code
def yX5_init : MethodName := ⟨RX5, "<init>", "()V"⟩
abbrev cX5_line : ByteArray := prog_1_method_2_code
def yX5_line : MethodName := ⟨RX5, "line", "(III)I"⟩
abbrev cX5_libero : ByteArray := prog_1_method_3_code
def yX5_libero : MethodName := ⟨RX5, "libero", "(II)I"⟩
abbrev cX5_begin : ByteArray := prog_1_method_4_code
def yX5_begin : MethodName := ⟨RX5, "begin", "(I)I"⟩
abbrev cX5_serve : ByteArray := prog_1_method_5_code
def yX5_serve : MethodName := ⟨RX5, "serve", "(I)Z"⟩
abbrev cX5_touch : ByteArray := prog_1_method_6_code
def yX5_touch : MethodName := ⟨RX5, "touch", "(IIIZ)I"⟩
abbrev cX5_fall : ByteArray := prog_1_method_7_code
def yX5_fall : MethodName := ⟨RX5, "fall", "(I)I"⟩
abbrev cX5_net : ByteArray := prog_1_method_8_code
def yX5_net : MethodName := ⟨RX5, "net", "(IZ)Z"⟩
abbrev cX5_find : ByteArray := prog_1_method_9_code
def yX5_find : MethodName := ⟨RX5, "find", "()I"⟩
abbrev cX5_exchange : ByteArray := prog_1_method_10_code
def yX5_exchange : MethodName := ⟨RX5, "exchange", "(II)Z"⟩
abbrev cX5_substitute : ByteArray := prog_1_method_11_code
def yX5_substitute : MethodName := ⟨RX5, "substitute", "(III)I"⟩
abbrev cX5_challenge : ByteArray := prog_1_method_12_code
def yX5_challenge : MethodName := ⟨RX5, "challenge", "(I)Z"⟩
abbrev cX5_points : ByteArray := prog_1_method_13_code
def yX5_points : MethodName := ⟨RX5, "points", "(I)I"⟩
abbrev cX5_pointsAnew : ByteArray := prog_1_method_14_code
def yX5_pointsAnew : MethodName := ⟨RX5, "pointsAnew", "(I)I"⟩
abbrev cX5_sets : ByteArray := prog_1_method_15_code
def yX5_sets : MethodName := ⟨RX5, "sets", "(I)I"⟩
abbrev cX5_at : ByteArray := prog_1_method_16_code
def yX5_at : MethodName := ⟨RX5, "at", "(II)I"⟩
abbrev cX5_atAnew : ByteArray := prog_1_method_17_code
def yX5_atAnew : MethodName := ⟨RX5, "atAnew", "(II)I"⟩
abbrev cX5_about : ByteArray := prog_1_method_18_code
def yX5_about : MethodName := ⟨RX5, "about", "(I)I"⟩
abbrev cX5_of : ByteArray := prog_1_method_19_code
def yX5_of : MethodName := ⟨RX5, "of", "(II)I"⟩
abbrev cX5_lost : ByteArray := prog_1_method_20_code
def yX5_lost : MethodName := ⟨RX5, "lost", "(II)I"⟩
abbrev cX5_checkTeam : ByteArray := prog_1_method_21_code
def yX5_checkTeam : MethodName := ⟨RX5, "checkTeam", "(I)V"⟩
abbrev cX5_checkPlace : ByteArray := prog_1_method_22_code
def yX5_checkPlace : MethodName := ⟨RX5, "checkPlace", "(I)V"⟩
abbrev cX5_checkShirt : ByteArray := prog_1_method_23_code
def yX5_checkShirt : MethodName := ⟨RX5, "checkShirt", "(I)V"⟩
abbrev cX5_checkAheadOfSet : ByteArray := prog_1_method_24_code
def yX5_checkAheadOfSet : MethodName := ⟨RX5, "checkAheadOfSet", "()V"⟩
abbrev cX5_checkBetweenRallies : ByteArray := prog_1_method_25_code
def yX5_checkBetweenRallies : MethodName := ⟨RX5, "checkBetweenRallies", "()V"⟩
abbrev cX5_checkRally : ByteArray := prog_1_method_26_code
def yX5_checkRally : MethodName := ⟨RX5, "checkRally", "()V"⟩
abbrev cX5_writeOrder : ByteArray := prog_1_method_27_code
def yX5_writeOrder : MethodName := ⟨RX5, "writeOrder", "(I)V"⟩
abbrev cX5_endRally : ByteArray := prog_1_method_28_code
def yX5_endRally : MethodName := ⟨RX5, "endRally", "(II)V"⟩
abbrev cX5_endSetIfWonBy : ByteArray := prog_1_method_29_code
def yX5_endSetIfWonBy : MethodName := ⟨RX5, "endSetIfWonBy", "(I)V"⟩
abbrev cX5_valueIn : ByteArray := prog_1_method_30_code
def yX5_valueIn : MethodName := ⟨RX5, "valueIn", "([II)I"⟩
abbrev cX5_putIn : ByteArray := prog_1_method_31_code
def yX5_putIn : MethodName := ⟨RX5, "putIn", "([III)V"⟩
def RX6 : String := "RotationaryModel"
def TX6 : u_T := fun k => match k with
  | 0 => ("RotationaryModel", "z", "[I", true)
  | 1 => ("RotationaryModel", "ahead", "[I", true)
  | _ => ("RotationaryModel", "thrown", "I", false)
def tyX6 : Nat → FieldType := fun k => match k with
  | 0 => .array .int
  | 1 => .array .int
  | _ => .int
theorem nmX6 : ∀ a, a < 3 → ∀ b, b < 3 → a ≠ b → (TX6 a).2.1 ≠ (TX6 b).2.1 := by decide +kernel
theorem tyX6_ok : ∀ k, k < 3 → parseFieldDescriptor (TX6 k).2.2.1 = some (tyX6 k) := by decide +kernel
abbrev cX6_init : ByteArray := prog_8_method_1_code
def yX6_init : MethodName := ⟨RX6, "<init>", "()V"⟩
abbrev cX6_thrown : ByteArray := prog_8_method_2_code
def yX6_thrown : MethodName := ⟨RX6, "thrown", "()I"⟩
abbrev cX6_goes : ByteArray := prog_8_method_3_code
def yX6_goes : MethodName := ⟨RX6, "goes", "(I)Z"⟩
abbrev cX6_isIn : ByteArray := prog_8_method_4_code
def yX6_isIn : MethodName := ⟨RX6, "isIn", "(III)Z"⟩
abbrev cX6_isTeam : ByteArray := prog_8_method_5_code
def yX6_isTeam : MethodName := ⟨RX6, "isTeam", "(I)Z"⟩
abbrev cX6_isShirt : ByteArray := prog_8_method_6_code
def yX6_isShirt : MethodName := ⟨RX6, "isShirt", "(I)Z"⟩
abbrev cX6_isOver : ByteArray := prog_8_method_7_code
def yX6_isOver : MethodName := ⟨RX6, "isOver", "()Z"⟩
abbrev cX6_slot : ByteArray := prog_8_method_8_code
def yX6_slot : MethodName := ⟨RX6, "slot", "(II)I"⟩
abbrev cX6_place : ByteArray := prog_8_method_9_code
def yX6_place : MethodName := ⟨RX6, "place", "(II)I"⟩
abbrev cX6_isBehind : ByteArray := prog_8_method_10_code
def yX6_isBehind : MethodName := ⟨RX6, "isBehind", "(I)Z"⟩
abbrev cX6_line : ByteArray := prog_8_method_11_code
def yX6_line : MethodName := ⟨RX6, "line", "(III)I"⟩
abbrev cX6_libero : ByteArray := prog_8_method_12_code
def yX6_libero : MethodName := ⟨RX6, "libero", "(II)I"⟩
abbrev cX6_isLinedUp : ByteArray := prog_8_method_13_code
def yX6_isLinedUp : MethodName := ⟨RX6, "isLinedUp", "(I)Z"⟩
abbrev cX6_begin : ByteArray := prog_8_method_14_code
def yX6_begin : MethodName := ⟨RX6, "begin", "(I)I"⟩
abbrev cX6_rotates : ByteArray := prog_8_method_15_code
def yX6_rotates : MethodName := ⟨RX6, "rotates", "(I)V"⟩
abbrev cX6_scores : ByteArray := prog_8_method_16_code
def yX6_scores : MethodName := ⟨RX6, "scores", "(I)V"⟩
abbrev cX6_wins : ByteArray := prog_8_method_17_code
def yX6_wins : MethodName := ⟨RX6, "wins", "(II)V"⟩
abbrev cX6_ends : ByteArray := prog_8_method_18_code
def yX6_ends : MethodName := ⟨RX6, "ends", "(II)V"⟩
abbrev cX6_serve : ByteArray := prog_8_method_19_code
def yX6_serve : MethodName := ⟨RX6, "serve", "(I)Z"⟩
abbrev cX6_fault : ByteArray := prog_8_method_20_code
def yX6_fault : MethodName := ⟨RX6, "fault", "(IIIZ)I"⟩
abbrev cX6_touch : ByteArray := prog_8_method_21_code
def yX6_touch : MethodName := ⟨RX6, "touch", "(IIIZ)I"⟩
abbrev cX6_fall : ByteArray := prog_8_method_22_code
def yX6_fall : MethodName := ⟨RX6, "fall", "(I)I"⟩
abbrev cX6_net : ByteArray := prog_8_method_23_code
def yX6_net : MethodName := ⟨RX6, "net", "(IZ)Z"⟩
abbrev cX6_find : ByteArray := prog_8_method_24_code
def yX6_find : MethodName := ⟨RX6, "find", "()I"⟩
abbrev cX6_exchange : ByteArray := prog_8_method_25_code
def yX6_exchange : MethodName := ⟨RX6, "exchange", "(II)Z"⟩
abbrev cX6_pair : ByteArray := prog_8_method_26_code
def yX6_pair : MethodName := ⟨RX6, "pair", "(II)I"⟩
abbrev cX6_substitute : ByteArray := prog_8_method_27_code
def yX6_substitute : MethodName := ⟨RX6, "substitute", "(III)I"⟩
abbrev cX6_challenge : ByteArray := prog_8_method_28_code
def yX6_challenge : MethodName := ⟨RX6, "challenge", "(I)Z"⟩
abbrev cX6_points : ByteArray := prog_8_method_29_code
def yX6_points : MethodName := ⟨RX6, "points", "(I)I"⟩
abbrev cX6_pointsAnew : ByteArray := prog_8_method_30_code
def yX6_pointsAnew : MethodName := ⟨RX6, "pointsAnew", "(I)I"⟩
abbrev cX6_sets : ByteArray := prog_8_method_31_code
def yX6_sets : MethodName := ⟨RX6, "sets", "(I)I"⟩
abbrev cX6_isPlace : ByteArray := prog_8_method_32_code
def yX6_isPlace : MethodName := ⟨RX6, "isPlace", "(II)Z"⟩
abbrev cX6_at : ByteArray := prog_8_method_33_code
def yX6_at : MethodName := ⟨RX6, "at", "(II)I"⟩
abbrev cX6_atAnew : ByteArray := prog_8_method_34_code
def yX6_atAnew : MethodName := ⟨RX6, "atAnew", "(II)I"⟩
abbrev cX6_about : ByteArray := prog_8_method_35_code
def yX6_about : MethodName := ⟨RX6, "about", "(I)I"⟩
abbrev cX6_of : ByteArray := prog_8_method_36_code
def yX6_of : MethodName := ⟨RX6, "of", "(II)I"⟩
abbrev cX6_lost : ByteArray := prog_8_method_37_code
def yX6_lost : MethodName := ⟨RX6, "lost", "(II)I"⟩
def RJ0 : String := "java/lang/String"
def TJ0 : u_T := fun k => match k with
  | _ => ("", "", "", false)
def tyJ0 : Nat → FieldType := fun k => match k with
  | _ => .int
theorem nmJ0 : ∀ a, a < 0 → ∀ b, b < 0 → a ≠ b → (TJ0 a).2.1 ≠ (TJ0 b).2.1 := by decide +kernel
theorem tyJ0_ok : ∀ k, k < 0 → parseFieldDescriptor (TJ0 k).2.2.1 = some (tyJ0 k) := by decide +kernel
def RL : String := "RotationaryLaw"
abbrev cL_line : ByteArray := method_3_code
def yL_line : MethodName := ⟨RL, "line", "(LRotationary;III[J)I"⟩
abbrev cL_libero : ByteArray := method_4_code
def yL_libero : MethodName := ⟨RL, "libero", "(LRotationary;II[J)I"⟩
abbrev cL_begin : ByteArray := method_5_code
def yL_begin : MethodName := ⟨RL, "begin", "(LRotationary;I[J)I"⟩
abbrev cL_serve : ByteArray := method_6_code
def yL_serve : MethodName := ⟨RL, "serve", "(LRotationary;I[J)I"⟩
abbrev cL_touch : ByteArray := method_7_code
def yL_touch : MethodName := ⟨RL, "touch", "(LRotationary;IIIZ[J)I"⟩
abbrev cL_fall : ByteArray := method_8_code
def yL_fall : MethodName := ⟨RL, "fall", "(LRotationary;I[J)I"⟩
abbrev cL_net : ByteArray := method_9_code
def yL_net : MethodName := ⟨RL, "net", "(LRotationary;IZ[J)I"⟩
abbrev cL_find : ByteArray := method_10_code
def yL_find : MethodName := ⟨RL, "find", "(LRotationary;[J)I"⟩
abbrev cL_exchange : ByteArray := method_11_code
def yL_exchange : MethodName := ⟨RL, "exchange", "(LRotationary;II[J)I"⟩
abbrev cL_substitute : ByteArray := method_12_code
def yL_substitute : MethodName := ⟨RL, "substitute", "(LRotationary;III[J)I"⟩
abbrev cL_challenge : ByteArray := method_13_code
def yL_challenge : MethodName := ⟨RL, "challenge", "(LRotationary;I[J)I"⟩
abbrev cL_points : ByteArray := method_14_code
def yL_points : MethodName := ⟨RL, "points", "(LRotationary;I[J)I"⟩
abbrev cL_pointsAnew : ByteArray := method_15_code
def yL_pointsAnew : MethodName := ⟨RL, "pointsAnew", "(LRotationary;I[J)I"⟩
abbrev cL_sets : ByteArray := method_16_code
def yL_sets : MethodName := ⟨RL, "sets", "(LRotationary;I[J)I"⟩
abbrev cL_at : ByteArray := method_17_code
def yL_at : MethodName := ⟨RL, "at", "(LRotationary;II[J)I"⟩
abbrev cL_atAnew : ByteArray := method_18_code
def yL_atAnew : MethodName := ⟨RL, "atAnew", "(LRotationary;II[J)I"⟩
abbrev cL_about : ByteArray := method_19_code
def yL_about : MethodName := ⟨RL, "about", "(LRotationary;I[J)I"⟩
abbrev cL_of : ByteArray := method_20_code
def yL_of : MethodName := ⟨RL, "of", "(LRotationary;II[J)I"⟩
abbrev cL_lost : ByteArray := method_21_code
def yL_lost : MethodName := ⟨RL, "lost", "(LRotationary;II[J)I"⟩
abbrev cL_law : ByteArray := code
def yL_law : MethodName := ⟨RL, "law", "([I)Z"⟩
abbrev vwCl : List vw_C := [(RX0, TX0, 4), (RX1, TX1, 7), (RX2, TX2, 3), (RX3, TX3, 2), (RX4, TX4, 10), (RX5, TX5, 8), (RX6, TX6, 3)]
end
section
/-! THE WORLD: 32 cells by number (0 the game, 1..7 its court, 8..14 the kept court, 15 rally, 16 17 sheet, 18 reader, 19..25 its court, 26 27 its rows, 28 29 30 the model, 31 the law's own row); what they hold is a function of two numbers -/
abbrev gSt : Type := Nat → Nat → Int32
def gup (σ : gSt) (k j : Nat) (v : Int32) : gSt := fun k' j' => if k' = k ∧ j' = j then v else σ k' j'
theorem gup_s {σ : gSt} {k j : Nat} {v : Int32} : gup σ k j v k j = v := if_pos ⟨rfl, rfl⟩
theorem gup_n {σ : gSt} {k j k' j' : Nat} {v : Int32} (h : ¬ (k' = k ∧ j' = j)) : gup σ k j v k' j' = σ k' j' := if_neg h
theorem gup_k {σ : gSt} {k j k' j' : Nat} {v : Int32} (h : k' ≠ k) : gup σ k j v k' j' = σ k' j' := if_neg (fun q => h q.1)
theorem gup_row {σ : gSt} {k j : Nat} {v : Int32} : gup σ k j v k = upd (σ k) j v := by
  funext j'
  unfold gup upd
  by_cases h : j' = j
  · rw [if_pos h, if_pos ⟨rfl, h⟩]
  · rw [if_neg h, if_neg (fun q => h q.2)]
theorem gup_oth {σ : gSt} {k j k' : Nat} {v : Int32} (h : k' ≠ k) : gup σ k j v k' = σ k' := by
  funext j'
  exact gup_k h
def gKs : List Nat := [5, 0, 4, 7, 7, 4, 7, 7, 0, 4, 7, 7, 4, 7, 7, 1, 3, 7, 2, 0, 4, 7, 7, 4, 7, 7, 7, 7, 6, 7, 7, 8]
def gKd (k : Nat) : Nat := gKs.getD k 9
def gRs : List (List (Option Nat)) := [[some 1, some 8, some 15, some 16, some 18], [some 2, some 5], [some 3, some 4], [], [], [some 6, some 7], [], [],
  [some 9, some 12], [some 10, some 11], [], [], [some 13, some 14], [], [], [], [some 17], [], [some 19, some 26, some 27],
  [some 20, some 23], [some 21, some 22], [], [], [some 24, some 25], [], [], [], [], [some 29, some 30], [], [], []]
def gRf (k j : Nat) : Option Nat := (gRs.getD k []).getD j none
def gLs : List Nat := [0, 0, 0, 7, 21, 0, 7, 21, 0, 0, 7, 21, 0, 7, 21, 0, 0, 640, 0, 0, 0, 7, 21, 0, 7, 21, 6, 6, 0, 92, 92, 1]
def gLn (k : Nat) : Nat := gLs.getD k 0
def gNf (c : Nat) : Nat := [4, 7, 3, 2, 10, 8, 3].getD c 0
def gfv (ad : Nat → Nat) (σ : gSt) (k j : Nat) : Value := match gRf k j with
  | some k' => .ref (ad k')
  | none => .int (σ k j)
def gcell (cI cJ : ClassId) (ad : Nat → Nat) (σ : gSt) (k : Nat) : va_E := if gKd k = 7 then .inl (cI, gLn k, .inl (σ k)) else if gKd k = 8 then .inl (cJ, gLn k, .inr (.inl (fun j => (σ k j).toInt64))) else .inr (gKd k, (List.range (gNf (gKd k))).map (gfv ad σ k))
def gw (cI cJ : ClassId) (ad : Nat → Nat) (σ : gSt) : va_W := (List.range 32).map (fun k => (ad k, gcell cI cJ ad σ k))
theorem gw_get {cI cJ : ClassId} {ad : Nat → Nat} {σ : gSt} {k : Nat} (h : k < 32) : (gw cI cJ ad σ)[k]? = some (ad k, gcell cI cJ ad σ k) := by
  unfold gw
  rw [List.getElem?_map, List.getElem?_range h]
  rfl
theorem gw_no {cI cJ : ClassId} {ad : Nat → Nat} {σ : gSt} {k : Nat} {q : Nat × va_E} (h : (gw cI cJ ad σ)[k]? = some q) : k < 32 ∧ q = (ad k, gcell cI cJ ad σ k) := by
  have hk : k < 32 := by
    have h1 := (List.getElem?_eq_some_iff.mp h).1
    simpa [gw] using h1
  refine ⟨hk, ?_⟩
  rw [gw_get hk] at h
  exact (Option.some.inj h).symm
theorem gcell_o {cI cJ : ClassId} {ad : Nat → Nat} {σ : gSt} {k c : Nat} (h : gKd k = c) (hc : c < 7) : gcell cI cJ ad σ k = .inr (c, (List.range (gNf c)).map (gfv ad σ k)) := by
  unfold gcell
  rw [if_neg (by omega), if_neg (by omega), h]
theorem gcell_i {cI cJ : ClassId} {ad : Nat → Nat} {σ : gSt} {k : Nat} (h : gKd k = 7) : gcell cI cJ ad σ k = .inl (cI, gLn k, .inl (σ k)) := by
  unfold gcell
  rw [if_pos h]
theorem gcell_j {cI cJ : ClassId} {ad : Nat → Nat} {σ : gSt} {k : Nat} (h : gKd k = 8) : gcell cI cJ ad σ k = .inl (cJ, gLn k, .inr (.inl (fun j => (σ k j).toInt64))) := by
  unfold gcell
  rw [if_neg (by omega), if_pos h]
theorem gKd_lt {k c : Nat} (h : gKd k = c) (hc : c < 9) : k < 32 := by
  rcases Nat.lt_or_ge k 32 with q | q
  · exact q
  · have : gKd k = 9 := by
      unfold gKd
      rw [List.getD_eq_getElem?_getD, List.getElem?_eq_none (by simpa [gKs] using q)]
      rfl
    omega
theorem gfl_get {ad : Nat → Nat} {σ : gSt} {k n j : Nat} (h : j < n) : ((List.range n).map (gfv ad σ k))[j]? = some (gfv ad σ k j) := by
  rw [List.getElem?_map, List.getElem?_range h]
  rfl
theorem gfv_i {ad : Nat → Nat} {σ : gSt} {k j : Nat} (h : gRf k j = none) : gfv ad σ k j = .int (σ k j) := by
  unfold gfv
  rw [h]
theorem gfv_r {ad : Nat → Nat} {σ : gSt} {k j k' : Nat} (h : gRf k j = some k') : gfv ad σ k j = .ref (ad k') := by
  unfold gfv
  rw [h]
theorem gcell_n {cI cJ : ClassId} {ad : Nat → Nat} {σ σ' : gSt} {k : Nat} (h : σ' k = σ k) : gcell cI cJ ad σ' k = gcell cI cJ ad σ k := by
  have h2 : gfv ad σ' k = gfv ad σ k := by
    funext j
    unfold gfv
    rw [h]
  unfold gcell
  rw [h, h2]
theorem gw_set {cI cJ : ClassId} {ad : Nat → Nat} {σ σ' : gSt} {k : Nat} (hk : k < 32) {e : va_E} (he : gcell cI cJ ad σ' k = e) (ho : ∀ k', k' ≠ k → σ' k' = σ k') : (gw cI cJ ad σ).set k (ad k, e) = gw cI cJ ad σ' := by
  apply List.ext_getElem?
  intro i
  rw [List.getElem?_set]
  by_cases h : k = i
  · subst h
    rw [if_pos rfl, if_pos (by simpa [gw] using hk), gw_get hk, he]
  · rw [if_neg h]
    rcases Nat.lt_or_ge i 32 with q | q
    · rw [gw_get q, gw_get q, gcell_n (ho i (Ne.symm h))]
    · rw [List.getElem?_eq_none (by simpa [gw] using q), List.getElem?_eq_none (by simpa [gw] using q)]
theorem gw_putf {cI cJ : ClassId} {ad : Nat → Nat} {σ : gSt} {k c j : Nat} {v : Int32} (h : gKd k = c) (hc : c < 7) (hr : gRf k j = none) : (gw cI cJ ad σ).set k (ad k, .inr (c, ((List.range (gNf c)).map (gfv ad σ k)).set j (.int v))) = gw cI cJ ad (gup σ k j v) := by
  refine gw_set (gKd_lt h (by omega)) ?_ (fun k' hk => gup_oth hk)
  rw [gcell_o h hc]
  congr 2
  apply List.ext_getElem?
  intro i
  rw [List.getElem?_set]
  by_cases hi : j = i
  · subst hi
    rw [if_pos rfl]
    rcases Nat.lt_or_ge j (gNf c) with q | q
    · rw [if_pos (by simpa using q), gfl_get q, gfv_i hr, gup_s]
    · rw [if_neg (by simpa using q), List.getElem?_eq_none (by simpa using q)]
  · rw [if_neg hi]
    rcases Nat.lt_or_ge i (gNf c) with q | q
    · rw [gfl_get q, gfl_get q]
      unfold gfv
      rw [gup_n (fun z => hi z.2.symm)]
    · rw [List.getElem?_eq_none (by simpa using q), List.getElem?_eq_none (by simpa using q)]
theorem gw_puti {cI cJ : ClassId} {ad : Nat → Nat} {σ : gSt} {k j : Nat} {v : Int32} (h : gKd k = 7) : (gw cI cJ ad σ).set k (ad k, .inl (cI, gLn k, .inl (upd (σ k) j v))) = gw cI cJ ad (gup σ k j v) := by
  refine gw_set (gKd_lt h (by omega)) ?_ (fun k' hk => gup_oth hk)
  rw [gcell_i h, gup_row]
theorem gw_putj {cI cJ : ClassId} {ad : Nat → Nat} {σ : gSt} {k j : Nat} {v : Int32} (h : gKd k = 8) : (gw cI cJ ad σ).set k (ad k, .inl (cJ, gLn k, .inr (.inl (vp_updL (fun j => (σ k j).toInt64) j v.toInt64)))) = gw cI cJ ad (gup σ k j v) := by
  refine gw_set (gKd_lt h (by omega)) ?_ (fun k' hk => gup_oth hk)
  rw [gcell_j h]
  congr 5
  funext j'
  rw [gup_row]
  unfold upd vp_updL
  by_cases hj : j' = j
  · rw [if_pos hj, if_pos hj]
  · rw [if_neg hj, if_neg hj]
/-- the addresses are unlike -/
def gInj (ad : Nat → Nat) : Prop := ∀ i j : Nat, i < 32 → j < 32 → ad i = ad j → i = j
theorem gw_D {cI cJ : ClassId} {ad : Nat → Nat} {σ : gSt} {A : Nat → Prop} (hi : gInj ad) (hA : ∀ k, k < 32 → A (ad k)) : va_D A (gw cI cJ ad σ) := by
  refine ⟨fun i j p q hp hq h => ?_, fun k q hq => ?_⟩
  · obtain ⟨h1, rfl⟩ := gw_no hp
    obtain ⟨h2, rfl⟩ := gw_no hq
    exact hi i j h1 h2 h
  · obtain ⟨h1, rfl⟩ := gw_no hq
    exact hA k h1
/-- what a method may write: the world's cells, and new ones -/
def gA (ad : Nat → Nat) (sz : Nat) : Nat → Prop := fun q => (∃ k, k < 32 ∧ q = ad k) ∨ sz ≤ q
/-- the words that all methods share -/
def gT : List Cond := lw_tbl.filter goodWord
theorem gT_in {w : Cond} (h : w ∈ lw_tbl) (hg : goodWord w = true) : w ∈ gT := List.mem_filter.mpr ⟨h, hg⟩
theorem gT_good {w : Cond} (h : w ∈ gT) : goodWord w = true := (List.mem_filter.mp h).2
theorem gT_lw {w : Cond} (h : w ∈ gT) : w ∈ lw_tbl := (List.mem_filter.mp h).1
/-- the answer of a method's picture, and that a goal is wanted only where there is one -/
def gX {ρ : Type} (X : Option ρ) (res : ρ) (G : Prop) : Prop := X = some res → G
def gl {α β : Type} (v : α) (K : α → β) : β := K v
theorem gX_none {ρ : Type} {res : ρ} {G : Prop} : gX none res G := fun h => nomatch h
theorem gX_if {ρ : Type} {res : ρ} {G : Prop} {c : Prop} [Decidable c] {X1 X2 : Option ρ} (a : c → gX X1 res G) (b : ¬ c → gX X2 res G) : gX (if c then X1 else X2) res G := by
  by_cases h : c
  · rw [if_pos h]; exact a h
  · rw [if_neg h]; exact b h
def gNestF : List (String × Nat × String × String × String × String) := [("Rotationary", 71, "Rotationary$Side", "libero", "I", "Rotationary"), ("Rotationary$Reader", 86, "Rotationary$Side", "libero", "I", "Rotationary"), ("Rotationary$Court", 42, "Rotationary$Side", "points", "I", "Rotationary"), ("Rotationary", 211, "Rotationary$Side", "points", "I", "Rotationary"), ("Rotationary$Court", 28, "Rotationary$Side", "sets", "I", "Rotationary"), ("Rotationary", 219, "Rotationary$Side", "sets", "I", "Rotationary"), ("Rotationary$Reader", 113, "Rotationary$Side", "rotations", "I", "Rotationary"), ("Rotationary", 193, "Rotationary$Side", "substitutions", "I", "Rotationary"), ("Rotationary", 196, "Rotationary$Side", "challenges", "I", "Rotationary"), ("Rotationary$Court", 45, "Rotationary$Side", "hasExchanged", "Z", "Rotationary"), ("Rotationary", 74, "Rotationary$Court", "first", "LRotationary$Side;", "Rotationary"), ("Rotationary$Reader", 62, "Rotationary$Court", "first", "LRotationary$Side;", "Rotationary"), ("Rotationary", 82, "Rotationary$Court", "second", "LRotationary$Side;", "Rotationary"), ("Rotationary$Reader", 71, "Rotationary$Court", "second", "LRotationary$Side;", "Rotationary"), ("Rotationary", 115, "Rotationary$Court", "server", "I", "Rotationary"), ("Rotationary", 162, "Rotationary$Court", "pointsAheadOfWrong", "I", "Rotationary"), ("Rotationary", 158, "Rotationary$Rally", "isOn", "Z", "Rotationary"), ("Rotationary", 152, "Rotationary$Rally", "team", "I", "Rotationary"), ("Rotationary", 225, "Rotationary$Rally", "shirt", "I", "Rotationary"), ("Rotationary$Reader", 28, "Rotationary$Sheet", "length", "I", "Rotationary"), ("Rotationary", 256, "Rotationary$Sheet", "length", "I", "Rotationary"), ("Rotationary", 218, "Rotationary$Reader", "court", "LRotationary$Court;", "Rotationary")]
def gNestM : List (String × Nat × MethodName × String) := [("Rotationary", 9, ⟨"Rotationary$Court", "<init>", "()V"⟩, "Rotationary"), ("Rotationary$Side", 28, ⟨"Rotationary", "putIn", "([III)V"⟩, "Rotationary"), ("Rotationary", 21, ⟨"Rotationary$Rally", "<init>", "()V"⟩, "Rotationary"), ("Rotationary", 28, ⟨"Rotationary$Sheet", "<init>", "()V"⟩, "Rotationary"), ("Rotationary", 35, ⟨"Rotationary$Reader", "<init>", "()V"⟩, "Rotationary"), ("Rotationary$Reader", 11, ⟨"Rotationary$Court", "<init>", "()V"⟩, "Rotationary"), ("Rotationary$Side", 32, ⟨"Rotationary", "valueIn", "([II)I"⟩, "Rotationary"), ("Rotationary$Sheet", 17, ⟨"Rotationary", "putIn", "([III)V"⟩, "Rotationary"), ("Rotationary$Reader", 74, ⟨"Rotationary", "putIn", "([III)V"⟩, "Rotationary"), ("Rotationary$Sheet", 23, ⟨"Rotationary", "valueIn", "([II)I"⟩, "Rotationary"), ("Rotationary$Reader", 58, ⟨"Rotationary", "valueIn", "([II)I"⟩, "Rotationary")]
def gNestD : List MethodName := [⟨"java/lang/RuntimeException", "<init>", "(Ljava/lang/String;)V"⟩, ⟨"java/lang/Exception", "<init>", "(Ljava/lang/String;)V"⟩, ⟨"java/lang/Throwable", "<init>", "(Ljava/lang/String;)V"⟩]
def gNestC : List (String × String) := [("java/lang/IndexOutOfBoundsException", "java/lang/IndexOutOfBoundsException"), ("java/lang/IllegalArgumentException", "java/lang/IllegalArgumentException"), ("java/lang/IllegalStateException", "java/lang/IllegalStateException")]
def gNcs : List (String × String) := [("java/lang/IndexOutOfBoundsException", "java/lang/IllegalArgumentException"), ("java/lang/IndexOutOfBoundsException", "java/lang/IllegalStateException"), ("java/lang/IllegalArgumentException", "java/lang/IndexOutOfBoundsException"), ("java/lang/IllegalArgumentException", "java/lang/IllegalStateException"), ("java/lang/IllegalStateException", "java/lang/IndexOutOfBoundsException"), ("java/lang/IllegalStateException", "java/lang/IllegalArgumentException")]
def gStr : List (String × Nat × String) := [("Rotationary", 240, "no such team"), ("Rotationary", 243, "no such place"), ("Rotationary", 245, "no such shirt"), ("Rotationary", 250, "a set goes on, or the match is over"), ("Rotationary", 87, "the orders are not as told"), ("Rotationary", 252, "no set goes on, or a rally goes on"), ("Rotationary", 121, "the shirt is not on the court"), ("Rotationary", 132, "no such touch"), ("Rotationary", 254, "no rally goes on"), ("Rotationary", 165, "nothing can be found"), ("Rotationary", 176, "it cannot be exchanged"), ("Rotationary", 188, "it cannot be substituted"), ("Rotationary", 199, "the team may not challenge"), ("Rotationary", 228, "nothing is told about this"), ("Rotationary", 230, "nothing is told of this"), ("Rotationary", 232, "no such remainder")]
def gNest : List Cond := gNestF.map (fun q => .fieldLinkNest q.1 q.2.1 q.2.2.1 q.2.2.2.1 q.2.2.2.2.1 q.2.2.2.2.2) ++ (gNestM.map (fun q => .methodLinkNest q.1 q.2.1 q.2.2.1 q.2.2.2) ++ (gNestD.map (fun q => .declares q) ++ gNestC.map (fun q => .castable q.1 q.2)))
theorem gNest_tab : ∀ w ∈ gNest, w.onTables = true := by
  intro w hw
  simp only [gNest, List.mem_append, List.mem_map] at hw
  rcases hw with ⟨q, -, rfl⟩ | ⟨q, -, rfl⟩ | ⟨q, -, rfl⟩ | ⟨q, -, rfl⟩ <;> rfl
theorem gNest_warm {s U : State} (hW : s.WarmedH U.vm) : ∀ w ∈ gNest, va_Nw w s → va_Nw w U := by
  intro w hw h
  simp only [gNest, List.mem_append, List.mem_map] at hw
  rcases hw with ⟨q, -, rfl⟩ | ⟨q, -, rfl⟩ | ⟨q, -, rfl⟩ | ⟨q, -, rfl⟩
  · exact va_Nw.warmF hW h
  · exact va_Nw.warmM hW h
  · exact va_Nw.warmD hW h
  · exact va_Nw.warmC hW h
/-- what the tables say beside the shared words -/
def gB (U : State) : Prop := (∀ w ∈ gNest, va_Nw w U) ∧ (∀ q ∈ gNcs, va_Nc q.1 q.2 U) ∧ ∀ q ∈ gStr, ∃ sa, vk_R q.1 q.2.1 q.2.2 sa U
theorem gB_warm {s U : State} (hW : s.WarmedH U.vm) (h : gB s) : gB U := by
  refine ⟨fun w hw => gNest_warm hW w hw (h.1 w hw), fun q hq => va_Nc.moved hW.alike (h.2.1 q hq), fun q hq => ?_⟩
  obtain ⟨sa, h1⟩ := h.2.2 q hq
  exact ⟨sa, vk_R.warm hW h1⟩
theorem gB_nest {s : State} (h : gB s) {w : Cond} (hw : w ∈ gNest) : va_Nw w s := h.1 w hw
/-- the two statics that a throw reads -/
def gZ (A : Nat → Prop) (U : State) (H : Heap) : Prop := vx_Zq Bundle.tN "UNASSIGNED_STACK" Bundle.steD A U H ∧ vx_Zq Bundle.tN "SUPPRESSED_SENTINEL" Bundle.listD A U H
theorem gZ_moved {A : Nat → Prop} {u U : State} {H : Heap} (hvm : u.vm.Alike U.vm) (h : gZ A u H) : gZ A U H := ⟨vx_Zq.moved hvm h.1, vx_Zq.moved hvm h.2⟩
theorem gZ_kept {A : Nat → Prop} {U : State} {H H1 : Heap} (h : gZ A U H) (hq : ∀ a : Nat, a < H.size → ¬ A a → H1[a]? = H[a]?) : gZ A U H1 := ⟨h.1.kept hq, h.2.kept hq⟩
theorem gZ_narrow {A B : Nat → Prop} {U : State} {H : Heap} (h : gZ A U H) (hAB : ∀ q, B q → A q) : gZ B U H := ⟨h.1.narrow hAB, h.2.narrow hAB⟩
end
section
/-- what a method's body has at hand, beside its world -/
def gC (p : Program) (s : State) (m : MethodId) (args : Array Value) (meth : Method) (c : Code) (D : va_G) (cI cJ : ClassId) (ad : Nat → Nat) (A : Nat → Prop) (cc : ByteArray) (nL : Nat) (own : String) : Prop :=
  p.tables.exec = Jvm.exec ∧ c.code = cc ∧ c.maxLocals = nL ∧ s.vm.findClass own = some m.cls ∧ (∀ w ∈ gT, w.before args s = true) ∧ va_K D vwCl [(cI, .int), (cJ, .long)] s ∧ (∀ q, s.heap.size ≤ q → A q) ∧ (∀ k, k < 32 → A (ad k)) ∧ gInj ad ∧ gB s ∧ gZ A s s.heap ∧ meth.locks = false
def gG (p : Program) (l : Launch) (e : Env) (R : Room) (s : State) (m : MethodId) (args : Array Value) (below : List Frame) (meth : Method) (c : Code) (D : va_G) (cI cJ : ClassId) (ad : Nat → Nat) (A : Nat → Prop) (nL cells slots : Nat) (Q : State → Prop) (σ : gSt) (pc : Nat) (L : List (Nat × Value)) (st : List Value) : Prop :=
  ∀ (H : Heap) (locs : List Loc) (ls : Array Slot), lv_has ls nL L → va_P D vwCl (gw cI cJ ad σ) H → va_S A s.heap H locs → W p l e R s m args below meth c H locs cells slots Q (F0 m pc ls st)
section GR
variable {p : Program} {l : Launch} {e : Env} {R : Room} {s : State} {m : MethodId} {args : Array Value} {below : List Frame} {meth : Method} {c : Code} {D : va_G} {cI cJ : ClassId} {ad : Nat → Nat} {A : Nat → Prop} {cc : ByteArray} {nL : Nat} {own : String} {cells slots : Nat} {Q : State → Prop} {σ : gSt} {pc : Nat} {L L' : List (Nat × Value)} {st : List Value}
variable {ρ : Type} {X X1 X2 : Option ρ} {res : ρ}
theorem g_iconst (C : gC p s m args meth c D cI cJ ad A cc nL own) {n : Int} {v : Int32} (hdg : decode cc pc = .ok (.iconst n, 1)) (hv : Int32.ofInt n = v) (k : gX X res (gG p l e R s m args below meth c D cI cJ ad A nL cells slots Q σ (pc + 1) L (.int v :: st))) : gX X res (gG p l e R s m args below meth c D cI cJ ad A nL cells slots Q σ pc L st) :=
  fun hX H locs ls hl hP hS => lv_iconst C.1 C.2.1 hdg hv (k hX H locs ls hl hP hS)
theorem g_bipush (C : gC p s m args meth c D cI cJ ad A cc nL own) {n : Int} {v : Int32} (hdg : decode cc pc = .ok (.bipush n, 2)) (hv : (Int8.ofInt n).toInt32 = v) (k : gX X res (gG p l e R s m args below meth c D cI cJ ad A nL cells slots Q σ (pc + 2) L (.int v :: st))) : gX X res (gG p l e R s m args below meth c D cI cJ ad A nL cells slots Q σ pc L st) :=
  fun hX H locs ls hl hP hS => lv_bipush C.1 C.2.1 hdg hv (k hX H locs ls hl hP hS)
theorem g_sipush (C : gC p s m args meth c D cI cJ ad A cc nL own) {n : Int} {v : Int32} (hdg : decode cc pc = .ok (.sipush n, 3)) (hv : (Int16.ofInt n).toInt32 = v) (k : gX X res (gG p l e R s m args below meth c D cI cJ ad A nL cells slots Q σ (pc + 3) L (.int v :: st))) : gX X res (gG p l e R s m args below meth c D cI cJ ad A nL cells slots Q σ pc L st) :=
  fun hX H locs ls hl hP hS => lv_sipush C.1 C.2.1 hdg hv (k hX H locs ls hl hP hS)
theorem g_iload_n (C : gC p s m args meth c D cI cJ ad A cc nL own) {q : Fin 4} {i : Nat} {x : Int32} (j : Nat) (hdg : decode cc pc = .ok (.iload_n q, 1)) (hi : (q : Nat) = i) (hj : L[j]? = some (i, .int x)) (k : gX X res (gG p l e R s m args below meth c D cI cJ ad A nL cells slots Q σ (pc + 1) L (.int x :: st))) : gX X res (gG p l e R s m args below meth c D cI cJ ad A nL cells slots Q σ pc L st) :=
  fun hX H locs ls hl hP hS => lv_iload_n C.1 C.2.1 hdg hi (lv_at hl j hj) (k hX H locs ls hl hP hS)
theorem g_iload (C : gC p s m args meth c D cI cJ ad A cc nL own) {i : Nat} {x : Int32} (j : Nat) (hdg : decode cc pc = .ok (.iload i, 2)) (hj : L[j]? = some (i, .int x)) (k : gX X res (gG p l e R s m args below meth c D cI cJ ad A nL cells slots Q σ (pc + 2) L (.int x :: st))) : gX X res (gG p l e R s m args below meth c D cI cJ ad A nL cells slots Q σ pc L st) :=
  fun hX H locs ls hl hP hS => lv_iload C.1 C.2.1 hdg (lv_at hl j hj) (k hX H locs ls hl hP hS)
theorem g_aload_n (C : gC p s m args meth c D cI cJ ad A cc nL own) {q : Fin 4} {i : Nat} {x : Nat} (j : Nat) (hdg : decode cc pc = .ok (.aload_n q, 1)) (hi : (q : Nat) = i) (hj : L[j]? = some (i, .ref x)) (k : gX X res (gG p l e R s m args below meth c D cI cJ ad A nL cells slots Q σ (pc + 1) L (.ref x :: st))) : gX X res (gG p l e R s m args below meth c D cI cJ ad A nL cells slots Q σ pc L st) :=
  fun hX H locs ls hl hP hS => lv_aload_n C.1 C.2.1 hdg hi (lv_at hl j hj) (k hX H locs ls hl hP hS)
theorem g_aload (C : gC p s m args meth c D cI cJ ad A cc nL own) {i : Nat} {x : Nat} (j : Nat) (hdg : decode cc pc = .ok (.aload i, 2)) (hj : L[j]? = some (i, .ref x)) (k : gX X res (gG p l e R s m args below meth c D cI cJ ad A nL cells slots Q σ (pc + 2) L (.ref x :: st))) : gX X res (gG p l e R s m args below meth c D cI cJ ad A nL cells slots Q σ pc L st) :=
  fun hX H locs ls hl hP hS => lv_aload C.1 C.2.1 hdg (lv_at hl j hj) (k hX H locs ls hl hP hS)
theorem g_istore_n (C : gC p s m args meth c D cI cJ ad A cc nL own) {q : Fin 4} {i : Nat} {x : Int32} (hdg : decode cc pc = .ok (.istore_n q, 1)) (hi : (q : Nat) = i) (hn : i < nL) (hl' : (i, Value.int x) :: L.filter (fun q => !(q.1 == i) && !(q.1 + 1 == i && q.2.category == 2)) = L') (k : gX X res (gG p l e R s m args below meth c D cI cJ ad A nL cells slots Q σ (pc + 1) L' st)) : gX X res (gG p l e R s m args below meth c D cI cJ ad A nL cells slots Q σ pc L (.int x :: st)) :=
  fun hX H locs ls hl hP hS => lv_istore_n C.1 C.2.1 hdg hi hl hn hl' (fun ls' hl2 => k hX H locs ls' hl2 hP hS)
theorem g_istore (C : gC p s m args meth c D cI cJ ad A cc nL own) {i : Nat} {x : Int32} (hdg : decode cc pc = .ok (.istore i, 2)) (hn : i < nL) (hl' : (i, Value.int x) :: L.filter (fun q => !(q.1 == i) && !(q.1 + 1 == i && q.2.category == 2)) = L') (k : gX X res (gG p l e R s m args below meth c D cI cJ ad A nL cells slots Q σ (pc + 2) L' st)) : gX X res (gG p l e R s m args below meth c D cI cJ ad A nL cells slots Q σ pc L (.int x :: st)) :=
  fun hX H locs ls hl hP hS => lv_istore C.1 C.2.1 hdg hl hn hl' (fun ls' hl2 => k hX H locs ls' hl2 hP hS)
theorem g_astore_n (C : gC p s m args meth c D cI cJ ad A cc nL own) {q : Fin 4} {i : Nat} {x : Nat} (hdg : decode cc pc = .ok (.astore_n q, 1)) (hi : (q : Nat) = i) (hn : i < nL) (hl' : (i, Value.ref x) :: L.filter (fun q => !(q.1 == i) && !(q.1 + 1 == i && q.2.category == 2)) = L') (k : gX X res (gG p l e R s m args below meth c D cI cJ ad A nL cells slots Q σ (pc + 1) L' st)) : gX X res (gG p l e R s m args below meth c D cI cJ ad A nL cells slots Q σ pc L (.ref x :: st)) :=
  fun hX H locs ls hl hP hS => lv_astore_n C.1 C.2.1 hdg hi hl hn hl' (fun ls' hl2 => k hX H locs ls' hl2 hP hS)
theorem g_astore (C : gC p s m args meth c D cI cJ ad A cc nL own) {i : Nat} {x : Nat} (hdg : decode cc pc = .ok (.astore i, 2)) (hn : i < nL) (hl' : (i, Value.ref x) :: L.filter (fun q => !(q.1 == i) && !(q.1 + 1 == i && q.2.category == 2)) = L') (k : gX X res (gG p l e R s m args below meth c D cI cJ ad A nL cells slots Q σ (pc + 2) L' st)) : gX X res (gG p l e R s m args below meth c D cI cJ ad A nL cells slots Q σ pc L (.ref x :: st)) :=
  fun hX H locs ls hl hP hS => lv_astore C.1 C.2.1 hdg hl hn hl' (fun ls' hl2 => k hX H locs ls' hl2 hP hS)
theorem g_iinc (C : gC p s m args meth c D cI cJ ad A cc nL own) {i : Nat} {n : Int} {x v : Int32} (j : Nat) (hdg : decode cc pc = .ok (.iinc i n, 3)) (hj : L[j]? = some (i, .int x)) (hv : x + Int32.ofInt n = v) (hn : i < nL) (hl' : (i, Value.int v) :: L.filter (fun q => !(q.1 == i) && !(q.1 + 1 == i && q.2.category == 2)) = L') (k : gX X res (gG p l e R s m args below meth c D cI cJ ad A nL cells slots Q σ (pc + 3) L' st)) : gX X res (gG p l e R s m args below meth c D cI cJ ad A nL cells slots Q σ pc L st) :=
  fun hX H locs ls hl hP hS => lv_iinc C.1 C.2.1 hdg hl (k := j) hj hv hn hl' (fun ls' hl2 => k hX H locs ls' hl2 hP hS)
/-- the listed places in another order, or fewer -/
theorem g_loc (js : List Nat) (hj : lv_pick L js = L') (k : gX X res (gG p l e R s m args below meth c D cI cJ ad A nL cells slots Q σ pc L' st)) : gX X res (gG p l e R s m args below meth c D cI cJ ad A nL cells slots Q σ pc L st) :=
  fun hX H locs ls hl hP hS => k hX H locs ls (lv_sub hl js hj) hP hS
theorem g_iadd (C : gC p s m args meth c D cI cJ ad A cc nL own) {x y : Int32} (hdg : decode cc pc = .ok (.iadd, 1)) (k : gX X res (gG p l e R s m args below meth c D cI cJ ad A nL cells slots Q σ (pc + 1) L (.int (x + y) :: st))) : gX X res (gG p l e R s m args below meth c D cI cJ ad A nL cells slots Q σ pc L (.int y :: .int x :: st)) :=
  fun hX H locs ls hl hP hS => lv_iadd C.1 C.2.1 hdg (k hX H locs ls hl hP hS)
theorem g_isub (C : gC p s m args meth c D cI cJ ad A cc nL own) {x y : Int32} (hdg : decode cc pc = .ok (.isub, 1)) (k : gX X res (gG p l e R s m args below meth c D cI cJ ad A nL cells slots Q σ (pc + 1) L (.int (x - y) :: st))) : gX X res (gG p l e R s m args below meth c D cI cJ ad A nL cells slots Q σ pc L (.int y :: .int x :: st)) :=
  fun hX H locs ls hl hP hS => lv_isub C.1 C.2.1 hdg (k hX H locs ls hl hP hS)
theorem g_imul (C : gC p s m args meth c D cI cJ ad A cc nL own) {x y : Int32} (hdg : decode cc pc = .ok (.imul, 1)) (k : gX X res (gG p l e R s m args below meth c D cI cJ ad A nL cells slots Q σ (pc + 1) L (.int (x * y) :: st))) : gX X res (gG p l e R s m args below meth c D cI cJ ad A nL cells slots Q σ pc L (.int y :: .int x :: st)) :=
  fun hX H locs ls hl hP hS => lv_imul C.1 C.2.1 hdg (k hX H locs ls hl hP hS)
theorem g_iand (C : gC p s m args meth c D cI cJ ad A cc nL own) {x y : Int32} (hdg : decode cc pc = .ok (.iand, 1)) (k : gX X res (gG p l e R s m args below meth c D cI cJ ad A nL cells slots Q σ (pc + 1) L (.int (x &&& y) :: st))) : gX X res (gG p l e R s m args below meth c D cI cJ ad A nL cells slots Q σ pc L (.int y :: .int x :: st)) :=
  fun hX H locs ls hl hP hS => lv_iand C.1 C.2.1 hdg (k hX H locs ls hl hP hS)
theorem g_ior (C : gC p s m args meth c D cI cJ ad A cc nL own) {x y : Int32} (hdg : decode cc pc = .ok (.ior, 1)) (k : gX X res (gG p l e R s m args below meth c D cI cJ ad A nL cells slots Q σ (pc + 1) L (.int (x ||| y) :: st))) : gX X res (gG p l e R s m args below meth c D cI cJ ad A nL cells slots Q σ pc L (.int y :: .int x :: st)) :=
  fun hX H locs ls hl hP hS => lv_ior C.1 C.2.1 hdg (k hX H locs ls hl hP hS)
theorem g_ishl (C : gC p s m args meth c D cI cJ ad A cc nL own) {x y : Int32} (hdg : decode cc pc = .ok (.ishl, 1)) (k : gX X res (gG p l e R s m args below meth c D cI cJ ad A nL cells slots Q σ (pc + 1) L (.int (x <<< (y &&& 31)) :: st))) : gX X res (gG p l e R s m args below meth c D cI cJ ad A nL cells slots Q σ pc L (.int y :: .int x :: st)) :=
  fun hX H locs ls hl hP hS => lv_ishl C.1 C.2.1 hdg (k hX H locs ls hl hP hS)
theorem g_ishr (C : gC p s m args meth c D cI cJ ad A cc nL own) {x y : Int32} (hdg : decode cc pc = .ok (.ishr, 1)) (k : gX X res (gG p l e R s m args below meth c D cI cJ ad A nL cells slots Q σ (pc + 1) L (.int (x >>> (y &&& 31)) :: st))) : gX X res (gG p l e R s m args below meth c D cI cJ ad A nL cells slots Q σ pc L (.int y :: .int x :: st)) :=
  fun hX H locs ls hl hP hS => lv_ishr C.1 C.2.1 hdg (k hX H locs ls hl hP hS)
theorem g_irem (C : gC p s m args meth c D cI cJ ad A cc nL own) {x y : Int32} (hdg : decode cc pc = .ok (.irem, 1)) (hne : ¬ y = 0) (k : gX X res (gG p l e R s m args below meth c D cI cJ ad A nL cells slots Q σ (pc + 1) L (.int (x - x / y * y) :: st))) : gX X res (gG p l e R s m args below meth c D cI cJ ad A nL cells slots Q σ pc L (.int y :: .int x :: st)) :=
  fun hX H locs ls hl hP hS => lv_irem C.1 C.2.1 hdg hne (k hX H locs ls hl hP hS)
theorem g_dup (C : gC p s m args meth c D cI cJ ad A cc nL own) {a : Value} (hdg : decode cc pc = .ok (.dup, 1)) (ha : a.category = 1) (k : gX X res (gG p l e R s m args below meth c D cI cJ ad A nL cells slots Q σ (pc + 1) L (a :: a :: st))) : gX X res (gG p l e R s m args below meth c D cI cJ ad A nL cells slots Q σ pc L (a :: st)) :=
  fun hX H locs ls hl hP hS => lv_dup C.1 C.2.1 hdg ha (k hX H locs ls hl hP hS)
theorem g_pop (C : gC p s m args meth c D cI cJ ad A cc nL own) {a : Value} (hdg : decode cc pc = .ok (.pop, 1)) (ha : a.category = 1) (k : gX X res (gG p l e R s m args below meth c D cI cJ ad A nL cells slots Q σ (pc + 1) L st)) : gX X res (gG p l e R s m args below meth c D cI cJ ad A nL cells slots Q σ pc L (a :: st)) :=
  fun hX H locs ls hl hP hS => lv_pop C.1 C.2.1 hdg ha (k hX H locs ls hl hP hS)
theorem g_dup2 (C : gC p s m args meth c D cI cJ ad A cc nL own) {a b : Value} (hdg : decode cc pc = .ok (.dup2, 1)) (ha : a.category = 1) (hb : b.category = 1) (k : gX X res (gG p l e R s m args below meth c D cI cJ ad A nL cells slots Q σ (pc + 1) L (a :: b :: a :: b :: st))) : gX X res (gG p l e R s m args below meth c D cI cJ ad A nL cells slots Q σ pc L (a :: b :: st)) :=
  fun hX H locs ls hl hP hS => lv_dup2_11 C.1 C.2.1 hdg ha hb (k hX H locs ls hl hP hS)
theorem g_goto (C : gC p s m args meth c D cI cJ ad A cc nL own) {off : Int} {tgt : Nat} (hdg : decode cc pc = .ok (.goto off, 3)) (ht : (pc : Int) + off = (tgt : Int)) (k : gX X res (gG p l e R s m args below meth c D cI cJ ad A nL cells slots Q σ tgt L st)) : gX X res (gG p l e R s m args below meth c D cI cJ ad A nL cells slots Q σ pc L st) :=
  fun hX H locs ls hl hP hS => lv_goto C.1 C.2.1 hdg ht (k hX H locs ls hl hP hS)
theorem g_icmp_eq (C : gC p s m args meth c D cI cJ ad A cc nL own) {x y : Int32} {off : Int} {tgt : Nat} (hdg : decode cc pc = .ok (.if_icmp .eq off, 3)) (ht : (pc : Int) + off = (tgt : Int)) (k1 : x = y → gX X1 res (gG p l e R s m args below meth c D cI cJ ad A nL cells slots Q σ tgt L st)) (k2 : ¬ x = y → gX X2 res (gG p l e R s m args below meth c D cI cJ ad A nL cells slots Q σ (pc + 3) L st)) : gX (if x = y then X1 else X2) res (gG p l e R s m args below meth c D cI cJ ad A nL cells slots Q σ pc L (.int y :: .int x :: st)) := by
  refine gX_if (fun h hX H locs ls hl hP hS => ?_) (fun h hX H locs ls hl hP hS => ?_)
  · exact lv_icmp_eq C.1 C.2.1 hdg ht (fun _ => k1 h hX H locs ls hl hP hS) (fun h2 => absurd h h2)
  · exact lv_icmp_eq C.1 C.2.1 hdg ht (fun h2 => absurd h2 h) (fun _ => k2 h hX H locs ls hl hP hS)
theorem g_icmp_eq_t (C : gC p s m args meth c D cI cJ ad A cc nL own) {x y : Int32} {off : Int} {tgt : Nat} (hdg : decode cc pc = .ok (.if_icmp .eq off, 3)) (ht : (pc : Int) + off = (tgt : Int)) (h : x = y) (k1 : gX X res (gG p l e R s m args below meth c D cI cJ ad A nL cells slots Q σ tgt L st)) : gX X res (gG p l e R s m args below meth c D cI cJ ad A nL cells slots Q σ pc L (.int y :: .int x :: st)) :=
  fun hX H locs ls hl hP hS => lv_icmp_eq C.1 C.2.1 hdg ht (fun _ => k1 hX H locs ls hl hP hS) (fun h2 => absurd h h2)
theorem g_icmp_eq_f (C : gC p s m args meth c D cI cJ ad A cc nL own) {x y : Int32} {off : Int} {tgt : Nat} (hdg : decode cc pc = .ok (.if_icmp .eq off, 3)) (ht : (pc : Int) + off = (tgt : Int)) (h : ¬ x = y) (k2 : gX X res (gG p l e R s m args below meth c D cI cJ ad A nL cells slots Q σ (pc + 3) L st)) : gX X res (gG p l e R s m args below meth c D cI cJ ad A nL cells slots Q σ pc L (.int y :: .int x :: st)) :=
  fun hX H locs ls hl hP hS => lv_icmp_eq C.1 C.2.1 hdg ht (fun h2 => absurd h2 h) (fun _ => k2 hX H locs ls hl hP hS)
theorem g_icmp_ne (C : gC p s m args meth c D cI cJ ad A cc nL own) {x y : Int32} {off : Int} {tgt : Nat} (hdg : decode cc pc = .ok (.if_icmp .ne off, 3)) (ht : (pc : Int) + off = (tgt : Int)) (k1 : x = y → gX X1 res (gG p l e R s m args below meth c D cI cJ ad A nL cells slots Q σ (pc + 3) L st)) (k2 : ¬ x = y → gX X2 res (gG p l e R s m args below meth c D cI cJ ad A nL cells slots Q σ tgt L st)) : gX (if x = y then X1 else X2) res (gG p l e R s m args below meth c D cI cJ ad A nL cells slots Q σ pc L (.int y :: .int x :: st)) := by
  refine gX_if (fun h hX H locs ls hl hP hS => ?_) (fun h hX H locs ls hl hP hS => ?_)
  · exact lv_icmp_ne C.1 C.2.1 hdg ht (fun h2 => absurd h h2) (fun _ => k1 h hX H locs ls hl hP hS)
  · exact lv_icmp_ne C.1 C.2.1 hdg ht (fun _ => k2 h hX H locs ls hl hP hS) (fun h2 => absurd h2 h)
theorem g_icmp_ne_t (C : gC p s m args meth c D cI cJ ad A cc nL own) {x y : Int32} {off : Int} {tgt : Nat} (hdg : decode cc pc = .ok (.if_icmp .ne off, 3)) (ht : (pc : Int) + off = (tgt : Int)) (h : x = y) (k1 : gX X res (gG p l e R s m args below meth c D cI cJ ad A nL cells slots Q σ (pc + 3) L st)) : gX X res (gG p l e R s m args below meth c D cI cJ ad A nL cells slots Q σ pc L (.int y :: .int x :: st)) :=
  fun hX H locs ls hl hP hS => lv_icmp_ne C.1 C.2.1 hdg ht (fun h2 => absurd h h2) (fun _ => k1 hX H locs ls hl hP hS)
theorem g_icmp_ne_f (C : gC p s m args meth c D cI cJ ad A cc nL own) {x y : Int32} {off : Int} {tgt : Nat} (hdg : decode cc pc = .ok (.if_icmp .ne off, 3)) (ht : (pc : Int) + off = (tgt : Int)) (h : ¬ x = y) (k2 : gX X res (gG p l e R s m args below meth c D cI cJ ad A nL cells slots Q σ tgt L st)) : gX X res (gG p l e R s m args below meth c D cI cJ ad A nL cells slots Q σ pc L (.int y :: .int x :: st)) :=
  fun hX H locs ls hl hP hS => lv_icmp_ne C.1 C.2.1 hdg ht (fun _ => k2 hX H locs ls hl hP hS) (fun h2 => absurd h2 h)
theorem g_icmp_lt (C : gC p s m args meth c D cI cJ ad A cc nL own) {x y : Int32} {off : Int} {tgt : Nat} (hdg : decode cc pc = .ok (.if_icmp .lt off, 3)) (ht : (pc : Int) + off = (tgt : Int)) (k1 : x < y → gX X1 res (gG p l e R s m args below meth c D cI cJ ad A nL cells slots Q σ tgt L st)) (k2 : ¬ x < y → gX X2 res (gG p l e R s m args below meth c D cI cJ ad A nL cells slots Q σ (pc + 3) L st)) : gX (if x < y then X1 else X2) res (gG p l e R s m args below meth c D cI cJ ad A nL cells slots Q σ pc L (.int y :: .int x :: st)) := by
  refine gX_if (fun h hX H locs ls hl hP hS => ?_) (fun h hX H locs ls hl hP hS => ?_)
  · exact lv_icmp_lt C.1 C.2.1 hdg ht (fun _ => k1 h hX H locs ls hl hP hS) (fun h2 => absurd h h2)
  · exact lv_icmp_lt C.1 C.2.1 hdg ht (fun h2 => absurd h2 h) (fun _ => k2 h hX H locs ls hl hP hS)
theorem g_icmp_lt_t (C : gC p s m args meth c D cI cJ ad A cc nL own) {x y : Int32} {off : Int} {tgt : Nat} (hdg : decode cc pc = .ok (.if_icmp .lt off, 3)) (ht : (pc : Int) + off = (tgt : Int)) (h : x < y) (k1 : gX X res (gG p l e R s m args below meth c D cI cJ ad A nL cells slots Q σ tgt L st)) : gX X res (gG p l e R s m args below meth c D cI cJ ad A nL cells slots Q σ pc L (.int y :: .int x :: st)) :=
  fun hX H locs ls hl hP hS => lv_icmp_lt C.1 C.2.1 hdg ht (fun _ => k1 hX H locs ls hl hP hS) (fun h2 => absurd h h2)
theorem g_icmp_lt_f (C : gC p s m args meth c D cI cJ ad A cc nL own) {x y : Int32} {off : Int} {tgt : Nat} (hdg : decode cc pc = .ok (.if_icmp .lt off, 3)) (ht : (pc : Int) + off = (tgt : Int)) (h : ¬ x < y) (k2 : gX X res (gG p l e R s m args below meth c D cI cJ ad A nL cells slots Q σ (pc + 3) L st)) : gX X res (gG p l e R s m args below meth c D cI cJ ad A nL cells slots Q σ pc L (.int y :: .int x :: st)) :=
  fun hX H locs ls hl hP hS => lv_icmp_lt C.1 C.2.1 hdg ht (fun h2 => absurd h2 h) (fun _ => k2 hX H locs ls hl hP hS)
theorem g_icmp_ge (C : gC p s m args meth c D cI cJ ad A cc nL own) {x y : Int32} {off : Int} {tgt : Nat} (hdg : decode cc pc = .ok (.if_icmp .ge off, 3)) (ht : (pc : Int) + off = (tgt : Int)) (k1 : y ≤ x → gX X1 res (gG p l e R s m args below meth c D cI cJ ad A nL cells slots Q σ tgt L st)) (k2 : ¬ y ≤ x → gX X2 res (gG p l e R s m args below meth c D cI cJ ad A nL cells slots Q σ (pc + 3) L st)) : gX (if y ≤ x then X1 else X2) res (gG p l e R s m args below meth c D cI cJ ad A nL cells slots Q σ pc L (.int y :: .int x :: st)) := by
  refine gX_if (fun h hX H locs ls hl hP hS => ?_) (fun h hX H locs ls hl hP hS => ?_)
  · exact lv_icmp_ge C.1 C.2.1 hdg ht (fun _ => k1 h hX H locs ls hl hP hS) (fun h2 => absurd h h2)
  · exact lv_icmp_ge C.1 C.2.1 hdg ht (fun h2 => absurd h2 h) (fun _ => k2 h hX H locs ls hl hP hS)
theorem g_icmp_ge_t (C : gC p s m args meth c D cI cJ ad A cc nL own) {x y : Int32} {off : Int} {tgt : Nat} (hdg : decode cc pc = .ok (.if_icmp .ge off, 3)) (ht : (pc : Int) + off = (tgt : Int)) (h : y ≤ x) (k1 : gX X res (gG p l e R s m args below meth c D cI cJ ad A nL cells slots Q σ tgt L st)) : gX X res (gG p l e R s m args below meth c D cI cJ ad A nL cells slots Q σ pc L (.int y :: .int x :: st)) :=
  fun hX H locs ls hl hP hS => lv_icmp_ge C.1 C.2.1 hdg ht (fun _ => k1 hX H locs ls hl hP hS) (fun h2 => absurd h h2)
theorem g_icmp_ge_f (C : gC p s m args meth c D cI cJ ad A cc nL own) {x y : Int32} {off : Int} {tgt : Nat} (hdg : decode cc pc = .ok (.if_icmp .ge off, 3)) (ht : (pc : Int) + off = (tgt : Int)) (h : ¬ y ≤ x) (k2 : gX X res (gG p l e R s m args below meth c D cI cJ ad A nL cells slots Q σ (pc + 3) L st)) : gX X res (gG p l e R s m args below meth c D cI cJ ad A nL cells slots Q σ pc L (.int y :: .int x :: st)) :=
  fun hX H locs ls hl hP hS => lv_icmp_ge C.1 C.2.1 hdg ht (fun h2 => absurd h2 h) (fun _ => k2 hX H locs ls hl hP hS)
theorem g_icmp_gt (C : gC p s m args meth c D cI cJ ad A cc nL own) {x y : Int32} {off : Int} {tgt : Nat} (hdg : decode cc pc = .ok (.if_icmp .gt off, 3)) (ht : (pc : Int) + off = (tgt : Int)) (k1 : y < x → gX X1 res (gG p l e R s m args below meth c D cI cJ ad A nL cells slots Q σ tgt L st)) (k2 : ¬ y < x → gX X2 res (gG p l e R s m args below meth c D cI cJ ad A nL cells slots Q σ (pc + 3) L st)) : gX (if y < x then X1 else X2) res (gG p l e R s m args below meth c D cI cJ ad A nL cells slots Q σ pc L (.int y :: .int x :: st)) := by
  refine gX_if (fun h hX H locs ls hl hP hS => ?_) (fun h hX H locs ls hl hP hS => ?_)
  · exact lv_icmp_gt C.1 C.2.1 hdg ht (fun _ => k1 h hX H locs ls hl hP hS) (fun h2 => absurd h h2)
  · exact lv_icmp_gt C.1 C.2.1 hdg ht (fun h2 => absurd h2 h) (fun _ => k2 h hX H locs ls hl hP hS)
theorem g_icmp_gt_t (C : gC p s m args meth c D cI cJ ad A cc nL own) {x y : Int32} {off : Int} {tgt : Nat} (hdg : decode cc pc = .ok (.if_icmp .gt off, 3)) (ht : (pc : Int) + off = (tgt : Int)) (h : y < x) (k1 : gX X res (gG p l e R s m args below meth c D cI cJ ad A nL cells slots Q σ tgt L st)) : gX X res (gG p l e R s m args below meth c D cI cJ ad A nL cells slots Q σ pc L (.int y :: .int x :: st)) :=
  fun hX H locs ls hl hP hS => lv_icmp_gt C.1 C.2.1 hdg ht (fun _ => k1 hX H locs ls hl hP hS) (fun h2 => absurd h h2)
theorem g_icmp_gt_f (C : gC p s m args meth c D cI cJ ad A cc nL own) {x y : Int32} {off : Int} {tgt : Nat} (hdg : decode cc pc = .ok (.if_icmp .gt off, 3)) (ht : (pc : Int) + off = (tgt : Int)) (h : ¬ y < x) (k2 : gX X res (gG p l e R s m args below meth c D cI cJ ad A nL cells slots Q σ (pc + 3) L st)) : gX X res (gG p l e R s m args below meth c D cI cJ ad A nL cells slots Q σ pc L (.int y :: .int x :: st)) :=
  fun hX H locs ls hl hP hS => lv_icmp_gt C.1 C.2.1 hdg ht (fun h2 => absurd h2 h) (fun _ => k2 hX H locs ls hl hP hS)
theorem g_icmp_le (C : gC p s m args meth c D cI cJ ad A cc nL own) {x y : Int32} {off : Int} {tgt : Nat} (hdg : decode cc pc = .ok (.if_icmp .le off, 3)) (ht : (pc : Int) + off = (tgt : Int)) (k1 : x ≤ y → gX X1 res (gG p l e R s m args below meth c D cI cJ ad A nL cells slots Q σ tgt L st)) (k2 : ¬ x ≤ y → gX X2 res (gG p l e R s m args below meth c D cI cJ ad A nL cells slots Q σ (pc + 3) L st)) : gX (if x ≤ y then X1 else X2) res (gG p l e R s m args below meth c D cI cJ ad A nL cells slots Q σ pc L (.int y :: .int x :: st)) := by
  refine gX_if (fun h hX H locs ls hl hP hS => ?_) (fun h hX H locs ls hl hP hS => ?_)
  · exact lv_icmp_le C.1 C.2.1 hdg ht (fun _ => k1 h hX H locs ls hl hP hS) (fun h2 => absurd h h2)
  · exact lv_icmp_le C.1 C.2.1 hdg ht (fun h2 => absurd h2 h) (fun _ => k2 h hX H locs ls hl hP hS)
theorem g_icmp_le_t (C : gC p s m args meth c D cI cJ ad A cc nL own) {x y : Int32} {off : Int} {tgt : Nat} (hdg : decode cc pc = .ok (.if_icmp .le off, 3)) (ht : (pc : Int) + off = (tgt : Int)) (h : x ≤ y) (k1 : gX X res (gG p l e R s m args below meth c D cI cJ ad A nL cells slots Q σ tgt L st)) : gX X res (gG p l e R s m args below meth c D cI cJ ad A nL cells slots Q σ pc L (.int y :: .int x :: st)) :=
  fun hX H locs ls hl hP hS => lv_icmp_le C.1 C.2.1 hdg ht (fun _ => k1 hX H locs ls hl hP hS) (fun h2 => absurd h h2)
theorem g_icmp_le_f (C : gC p s m args meth c D cI cJ ad A cc nL own) {x y : Int32} {off : Int} {tgt : Nat} (hdg : decode cc pc = .ok (.if_icmp .le off, 3)) (ht : (pc : Int) + off = (tgt : Int)) (h : ¬ x ≤ y) (k2 : gX X res (gG p l e R s m args below meth c D cI cJ ad A nL cells slots Q σ (pc + 3) L st)) : gX X res (gG p l e R s m args below meth c D cI cJ ad A nL cells slots Q σ pc L (.int y :: .int x :: st)) :=
  fun hX H locs ls hl hP hS => lv_icmp_le C.1 C.2.1 hdg ht (fun h2 => absurd h2 h) (fun _ => k2 hX H locs ls hl hP hS)
theorem g_if_eq (C : gC p s m args meth c D cI cJ ad A cc nL own) {x : Int32} {off : Int} {tgt : Nat} (hdg : decode cc pc = .ok (.ifCond .eq off, 3)) (ht : (pc : Int) + off = (tgt : Int)) (k1 : x = 0 → gX X1 res (gG p l e R s m args below meth c D cI cJ ad A nL cells slots Q σ tgt L st)) (k2 : ¬ x = 0 → gX X2 res (gG p l e R s m args below meth c D cI cJ ad A nL cells slots Q σ (pc + 3) L st)) : gX (if x = 0 then X1 else X2) res (gG p l e R s m args below meth c D cI cJ ad A nL cells slots Q σ pc L (.int x :: st)) := by
  refine gX_if (fun h hX H locs ls hl hP hS => ?_) (fun h hX H locs ls hl hP hS => ?_)
  · exact lv_if_eq C.1 C.2.1 hdg ht (fun _ => k1 h hX H locs ls hl hP hS) (fun h2 => absurd h h2)
  · exact lv_if_eq C.1 C.2.1 hdg ht (fun h2 => absurd h2 h) (fun _ => k2 h hX H locs ls hl hP hS)
theorem g_if_eq_t (C : gC p s m args meth c D cI cJ ad A cc nL own) {x : Int32} {off : Int} {tgt : Nat} (hdg : decode cc pc = .ok (.ifCond .eq off, 3)) (ht : (pc : Int) + off = (tgt : Int)) (h : x = 0) (k1 : gX X res (gG p l e R s m args below meth c D cI cJ ad A nL cells slots Q σ tgt L st)) : gX X res (gG p l e R s m args below meth c D cI cJ ad A nL cells slots Q σ pc L (.int x :: st)) :=
  fun hX H locs ls hl hP hS => lv_if_eq C.1 C.2.1 hdg ht (fun _ => k1 hX H locs ls hl hP hS) (fun h2 => absurd h h2)
theorem g_if_eq_f (C : gC p s m args meth c D cI cJ ad A cc nL own) {x : Int32} {off : Int} {tgt : Nat} (hdg : decode cc pc = .ok (.ifCond .eq off, 3)) (ht : (pc : Int) + off = (tgt : Int)) (h : ¬ x = 0) (k2 : gX X res (gG p l e R s m args below meth c D cI cJ ad A nL cells slots Q σ (pc + 3) L st)) : gX X res (gG p l e R s m args below meth c D cI cJ ad A nL cells slots Q σ pc L (.int x :: st)) :=
  fun hX H locs ls hl hP hS => lv_if_eq C.1 C.2.1 hdg ht (fun h2 => absurd h2 h) (fun _ => k2 hX H locs ls hl hP hS)
theorem g_if_ne (C : gC p s m args meth c D cI cJ ad A cc nL own) {x : Int32} {off : Int} {tgt : Nat} (hdg : decode cc pc = .ok (.ifCond .ne off, 3)) (ht : (pc : Int) + off = (tgt : Int)) (k1 : x = 0 → gX X1 res (gG p l e R s m args below meth c D cI cJ ad A nL cells slots Q σ (pc + 3) L st)) (k2 : ¬ x = 0 → gX X2 res (gG p l e R s m args below meth c D cI cJ ad A nL cells slots Q σ tgt L st)) : gX (if x = 0 then X1 else X2) res (gG p l e R s m args below meth c D cI cJ ad A nL cells slots Q σ pc L (.int x :: st)) := by
  refine gX_if (fun h hX H locs ls hl hP hS => ?_) (fun h hX H locs ls hl hP hS => ?_)
  · exact lv_if_ne C.1 C.2.1 hdg ht (fun h2 => absurd h h2) (fun _ => k1 h hX H locs ls hl hP hS)
  · exact lv_if_ne C.1 C.2.1 hdg ht (fun _ => k2 h hX H locs ls hl hP hS) (fun h2 => absurd h2 h)
theorem g_if_ne_t (C : gC p s m args meth c D cI cJ ad A cc nL own) {x : Int32} {off : Int} {tgt : Nat} (hdg : decode cc pc = .ok (.ifCond .ne off, 3)) (ht : (pc : Int) + off = (tgt : Int)) (h : x = 0) (k1 : gX X res (gG p l e R s m args below meth c D cI cJ ad A nL cells slots Q σ (pc + 3) L st)) : gX X res (gG p l e R s m args below meth c D cI cJ ad A nL cells slots Q σ pc L (.int x :: st)) :=
  fun hX H locs ls hl hP hS => lv_if_ne C.1 C.2.1 hdg ht (fun h2 => absurd h h2) (fun _ => k1 hX H locs ls hl hP hS)
theorem g_if_ne_f (C : gC p s m args meth c D cI cJ ad A cc nL own) {x : Int32} {off : Int} {tgt : Nat} (hdg : decode cc pc = .ok (.ifCond .ne off, 3)) (ht : (pc : Int) + off = (tgt : Int)) (h : ¬ x = 0) (k2 : gX X res (gG p l e R s m args below meth c D cI cJ ad A nL cells slots Q σ tgt L st)) : gX X res (gG p l e R s m args below meth c D cI cJ ad A nL cells slots Q σ pc L (.int x :: st)) :=
  fun hX H locs ls hl hP hS => lv_if_ne C.1 C.2.1 hdg ht (fun _ => k2 hX H locs ls hl hP hS) (fun h2 => absurd h2 h)
theorem g_if_lt (C : gC p s m args meth c D cI cJ ad A cc nL own) {x : Int32} {off : Int} {tgt : Nat} (hdg : decode cc pc = .ok (.ifCond .lt off, 3)) (ht : (pc : Int) + off = (tgt : Int)) (k1 : x < 0 → gX X1 res (gG p l e R s m args below meth c D cI cJ ad A nL cells slots Q σ tgt L st)) (k2 : ¬ x < 0 → gX X2 res (gG p l e R s m args below meth c D cI cJ ad A nL cells slots Q σ (pc + 3) L st)) : gX (if x < 0 then X1 else X2) res (gG p l e R s m args below meth c D cI cJ ad A nL cells slots Q σ pc L (.int x :: st)) := by
  refine gX_if (fun h hX H locs ls hl hP hS => ?_) (fun h hX H locs ls hl hP hS => ?_)
  · exact lv_if_lt C.1 C.2.1 hdg ht (fun _ => k1 h hX H locs ls hl hP hS) (fun h2 => absurd h h2)
  · exact lv_if_lt C.1 C.2.1 hdg ht (fun h2 => absurd h2 h) (fun _ => k2 h hX H locs ls hl hP hS)
theorem g_if_lt_t (C : gC p s m args meth c D cI cJ ad A cc nL own) {x : Int32} {off : Int} {tgt : Nat} (hdg : decode cc pc = .ok (.ifCond .lt off, 3)) (ht : (pc : Int) + off = (tgt : Int)) (h : x < 0) (k1 : gX X res (gG p l e R s m args below meth c D cI cJ ad A nL cells slots Q σ tgt L st)) : gX X res (gG p l e R s m args below meth c D cI cJ ad A nL cells slots Q σ pc L (.int x :: st)) :=
  fun hX H locs ls hl hP hS => lv_if_lt C.1 C.2.1 hdg ht (fun _ => k1 hX H locs ls hl hP hS) (fun h2 => absurd h h2)
theorem g_if_lt_f (C : gC p s m args meth c D cI cJ ad A cc nL own) {x : Int32} {off : Int} {tgt : Nat} (hdg : decode cc pc = .ok (.ifCond .lt off, 3)) (ht : (pc : Int) + off = (tgt : Int)) (h : ¬ x < 0) (k2 : gX X res (gG p l e R s m args below meth c D cI cJ ad A nL cells slots Q σ (pc + 3) L st)) : gX X res (gG p l e R s m args below meth c D cI cJ ad A nL cells slots Q σ pc L (.int x :: st)) :=
  fun hX H locs ls hl hP hS => lv_if_lt C.1 C.2.1 hdg ht (fun h2 => absurd h2 h) (fun _ => k2 hX H locs ls hl hP hS)
theorem g_if_ge (C : gC p s m args meth c D cI cJ ad A cc nL own) {x : Int32} {off : Int} {tgt : Nat} (hdg : decode cc pc = .ok (.ifCond .ge off, 3)) (ht : (pc : Int) + off = (tgt : Int)) (k1 : 0 ≤ x → gX X1 res (gG p l e R s m args below meth c D cI cJ ad A nL cells slots Q σ tgt L st)) (k2 : ¬ 0 ≤ x → gX X2 res (gG p l e R s m args below meth c D cI cJ ad A nL cells slots Q σ (pc + 3) L st)) : gX (if 0 ≤ x then X1 else X2) res (gG p l e R s m args below meth c D cI cJ ad A nL cells slots Q σ pc L (.int x :: st)) := by
  refine gX_if (fun h hX H locs ls hl hP hS => ?_) (fun h hX H locs ls hl hP hS => ?_)
  · exact lv_if_ge C.1 C.2.1 hdg ht (fun _ => k1 h hX H locs ls hl hP hS) (fun h2 => absurd h h2)
  · exact lv_if_ge C.1 C.2.1 hdg ht (fun h2 => absurd h2 h) (fun _ => k2 h hX H locs ls hl hP hS)
theorem g_if_ge_t (C : gC p s m args meth c D cI cJ ad A cc nL own) {x : Int32} {off : Int} {tgt : Nat} (hdg : decode cc pc = .ok (.ifCond .ge off, 3)) (ht : (pc : Int) + off = (tgt : Int)) (h : 0 ≤ x) (k1 : gX X res (gG p l e R s m args below meth c D cI cJ ad A nL cells slots Q σ tgt L st)) : gX X res (gG p l e R s m args below meth c D cI cJ ad A nL cells slots Q σ pc L (.int x :: st)) :=
  fun hX H locs ls hl hP hS => lv_if_ge C.1 C.2.1 hdg ht (fun _ => k1 hX H locs ls hl hP hS) (fun h2 => absurd h h2)
theorem g_if_ge_f (C : gC p s m args meth c D cI cJ ad A cc nL own) {x : Int32} {off : Int} {tgt : Nat} (hdg : decode cc pc = .ok (.ifCond .ge off, 3)) (ht : (pc : Int) + off = (tgt : Int)) (h : ¬ 0 ≤ x) (k2 : gX X res (gG p l e R s m args below meth c D cI cJ ad A nL cells slots Q σ (pc + 3) L st)) : gX X res (gG p l e R s m args below meth c D cI cJ ad A nL cells slots Q σ pc L (.int x :: st)) :=
  fun hX H locs ls hl hP hS => lv_if_ge C.1 C.2.1 hdg ht (fun h2 => absurd h2 h) (fun _ => k2 hX H locs ls hl hP hS)
theorem g_if_gt (C : gC p s m args meth c D cI cJ ad A cc nL own) {x : Int32} {off : Int} {tgt : Nat} (hdg : decode cc pc = .ok (.ifCond .gt off, 3)) (ht : (pc : Int) + off = (tgt : Int)) (k1 : 0 < x → gX X1 res (gG p l e R s m args below meth c D cI cJ ad A nL cells slots Q σ tgt L st)) (k2 : ¬ 0 < x → gX X2 res (gG p l e R s m args below meth c D cI cJ ad A nL cells slots Q σ (pc + 3) L st)) : gX (if 0 < x then X1 else X2) res (gG p l e R s m args below meth c D cI cJ ad A nL cells slots Q σ pc L (.int x :: st)) := by
  refine gX_if (fun h hX H locs ls hl hP hS => ?_) (fun h hX H locs ls hl hP hS => ?_)
  · exact lv_if_gt C.1 C.2.1 hdg ht (fun _ => k1 h hX H locs ls hl hP hS) (fun h2 => absurd h h2)
  · exact lv_if_gt C.1 C.2.1 hdg ht (fun h2 => absurd h2 h) (fun _ => k2 h hX H locs ls hl hP hS)
theorem g_if_gt_t (C : gC p s m args meth c D cI cJ ad A cc nL own) {x : Int32} {off : Int} {tgt : Nat} (hdg : decode cc pc = .ok (.ifCond .gt off, 3)) (ht : (pc : Int) + off = (tgt : Int)) (h : 0 < x) (k1 : gX X res (gG p l e R s m args below meth c D cI cJ ad A nL cells slots Q σ tgt L st)) : gX X res (gG p l e R s m args below meth c D cI cJ ad A nL cells slots Q σ pc L (.int x :: st)) :=
  fun hX H locs ls hl hP hS => lv_if_gt C.1 C.2.1 hdg ht (fun _ => k1 hX H locs ls hl hP hS) (fun h2 => absurd h h2)
theorem g_if_gt_f (C : gC p s m args meth c D cI cJ ad A cc nL own) {x : Int32} {off : Int} {tgt : Nat} (hdg : decode cc pc = .ok (.ifCond .gt off, 3)) (ht : (pc : Int) + off = (tgt : Int)) (h : ¬ 0 < x) (k2 : gX X res (gG p l e R s m args below meth c D cI cJ ad A nL cells slots Q σ (pc + 3) L st)) : gX X res (gG p l e R s m args below meth c D cI cJ ad A nL cells slots Q σ pc L (.int x :: st)) :=
  fun hX H locs ls hl hP hS => lv_if_gt C.1 C.2.1 hdg ht (fun h2 => absurd h2 h) (fun _ => k2 hX H locs ls hl hP hS)
theorem g_if_le (C : gC p s m args meth c D cI cJ ad A cc nL own) {x : Int32} {off : Int} {tgt : Nat} (hdg : decode cc pc = .ok (.ifCond .le off, 3)) (ht : (pc : Int) + off = (tgt : Int)) (k1 : x ≤ 0 → gX X1 res (gG p l e R s m args below meth c D cI cJ ad A nL cells slots Q σ tgt L st)) (k2 : ¬ x ≤ 0 → gX X2 res (gG p l e R s m args below meth c D cI cJ ad A nL cells slots Q σ (pc + 3) L st)) : gX (if x ≤ 0 then X1 else X2) res (gG p l e R s m args below meth c D cI cJ ad A nL cells slots Q σ pc L (.int x :: st)) := by
  refine gX_if (fun h hX H locs ls hl hP hS => ?_) (fun h hX H locs ls hl hP hS => ?_)
  · exact lv_if_le C.1 C.2.1 hdg ht (fun _ => k1 h hX H locs ls hl hP hS) (fun h2 => absurd h h2)
  · exact lv_if_le C.1 C.2.1 hdg ht (fun h2 => absurd h2 h) (fun _ => k2 h hX H locs ls hl hP hS)
theorem g_if_le_t (C : gC p s m args meth c D cI cJ ad A cc nL own) {x : Int32} {off : Int} {tgt : Nat} (hdg : decode cc pc = .ok (.ifCond .le off, 3)) (ht : (pc : Int) + off = (tgt : Int)) (h : x ≤ 0) (k1 : gX X res (gG p l e R s m args below meth c D cI cJ ad A nL cells slots Q σ tgt L st)) : gX X res (gG p l e R s m args below meth c D cI cJ ad A nL cells slots Q σ pc L (.int x :: st)) :=
  fun hX H locs ls hl hP hS => lv_if_le C.1 C.2.1 hdg ht (fun _ => k1 hX H locs ls hl hP hS) (fun h2 => absurd h h2)
theorem g_if_le_f (C : gC p s m args meth c D cI cJ ad A cc nL own) {x : Int32} {off : Int} {tgt : Nat} (hdg : decode cc pc = .ok (.ifCond .le off, 3)) (ht : (pc : Int) + off = (tgt : Int)) (h : ¬ x ≤ 0) (k2 : gX X res (gG p l e R s m args below meth c D cI cJ ad A nL cells slots Q σ (pc + 3) L st)) : gX X res (gG p l e R s m args below meth c D cI cJ ad A nL cells slots Q σ pc L (.int x :: st)) :=
  fun hX H locs ls hl hP hS => lv_if_le C.1 C.2.1 hdg ht (fun h2 => absurd h2 h) (fun _ => k2 hX H locs ls hl hP hS)
/-- a class by its number: its words, its place -/
def gCl (c : Nat) (CN : String) (T : u_T) : Prop := (∀ w ∈ u_ws CN T (gNf c), w ∈ gT) ∧ vwCl[c]? = some (CN, T, gNf c) ∧ c < 7
theorem gw_obj {o c0 : Nat} (ho : gKd o = c0) (hc : c0 < 7) : (gw cI cJ ad σ)[o]? = some (ad o, .inr (c0, (List.range (gNf c0)).map (gfv ad σ o))) := by
  rw [gw_get (gKd_lt ho (by omega)), gcell_o ho hc]
theorem gw_int {o : Nat} (ho : gKd o = 7) : (gw cI cJ ad σ)[o]? = some (ad o, .inl (cI, gLn o, .inl (σ o))) := by
  rw [gw_get (gKd_lt ho (by omega)), gcell_i ho]
theorem gw_lng {o : Nat} (ho : gKd o = 8) : (gw cI cJ ad σ)[o]? = some (ad o, .inl (cJ, gLn o, .inr (.inl (fun j => (σ o j).toInt64)))) := by
  rw [gw_get (gKd_lt ho (by omega)), gcell_j ho]
theorem g_getI (C : gC p s m args meth c D cI cJ ad A cc nL own) {idx c0 : Nat} {CN : String} {T : u_T} (o j : Nat) (hcl : gCl c0 CN T) (ho : gKd o = c0) (hj : j < gNf c0) (hr : gRf o j = none) (hlink : Cond.fieldLink own idx (T j).1 (T j).2.1 (T j).2.2.1 ∈ gT) (hdg : decode cc pc = .ok (.getfield idx, 3)) (k : gX X res (gG p l e R s m args below meth c D cI cJ ad A nL cells slots Q σ (pc + 3) L (.int (σ o j) :: st))) : gX X res (gG p l e R s m args below meth c D cI cJ ad A nL cells slots Q σ pc L (.ref (ad o) :: st)) :=
  fun hX H locs ls hl hP hS => va_get (D := D) C.1 C.2.1 C.2.2.2.2.1 hcl.1 C.2.2.2.1 C.2.2.2.2.2.1 hP o (gw_obj ho hcl.2.2) hcl.2.1 j hj (C.2.2.2.2.1 _ hlink) (fun _ h9 => h9) (by rw [gfl_get hj, gfv_i hr]) hdg (k hX H locs ls hl hP hS)
theorem g_getR (C : gC p s m args meth c D cI cJ ad A cc nL own) {idx c0 : Nat} {CN : String} {T : u_T} (o j : Nat) {o' : Nat} (hcl : gCl c0 CN T) (ho : gKd o = c0) (hj : j < gNf c0) (hr : gRf o j = some o') (hlink : Cond.fieldLink own idx (T j).1 (T j).2.1 (T j).2.2.1 ∈ gT) (hdg : decode cc pc = .ok (.getfield idx, 3)) (k : gX X res (gG p l e R s m args below meth c D cI cJ ad A nL cells slots Q σ (pc + 3) L (.ref (ad o') :: st))) : gX X res (gG p l e R s m args below meth c D cI cJ ad A nL cells slots Q σ pc L (.ref (ad o) :: st)) :=
  fun hX H locs ls hl hP hS => va_get (D := D) C.1 C.2.1 C.2.2.2.2.1 hcl.1 C.2.2.2.1 C.2.2.2.2.2.1 hP o (gw_obj ho hcl.2.2) hcl.2.1 j hj (C.2.2.2.2.1 _ hlink) (fun _ h9 => h9) (by rw [gfl_get hj, gfv_r hr]) hdg (k hX H locs ls hl hP hS)
theorem g_getIN (C : gC p s m args meth c D cI cJ ad A cc nL own) {idx c0 : Nat} {CN host : String} {T : u_T} (o j : Nat) (hcl : gCl c0 CN T) (ho : gKd o = c0) (hj : j < gNf c0) (hr : gRf o j = none) (hlink : Cond.fieldLinkNest own idx (T j).1 (T j).2.1 (T j).2.2.1 host ∈ gNest) (hdg : decode cc pc = .ok (.getfield idx, 3)) (k : gX X res (gG p l e R s m args below meth c D cI cJ ad A nL cells slots Q σ (pc + 3) L (.int (σ o j) :: st))) : gX X res (gG p l e R s m args below meth c D cI cJ ad A nL cells slots Q σ pc L (.ref (ad o) :: st)) :=
  fun hX H locs ls hl hP hS => va_getN (D := D) C.1 C.2.1 C.2.2.2.2.1 hcl.1 C.2.2.2.1 C.2.2.2.2.2.1 hP o (gw_obj ho hcl.2.2) hcl.2.1 j hj (va_Nw.use rfl (gB_nest C.2.2.2.2.2.2.2.2.2.1 hlink)) (fun _ h9 => h9) (by rw [gfl_get hj, gfv_i hr]) hdg (k hX H locs ls hl hP hS)
theorem g_getRN (C : gC p s m args meth c D cI cJ ad A cc nL own) {idx c0 : Nat} {CN host : String} {T : u_T} (o j : Nat) {o' : Nat} (hcl : gCl c0 CN T) (ho : gKd o = c0) (hj : j < gNf c0) (hr : gRf o j = some o') (hlink : Cond.fieldLinkNest own idx (T j).1 (T j).2.1 (T j).2.2.1 host ∈ gNest) (hdg : decode cc pc = .ok (.getfield idx, 3)) (k : gX X res (gG p l e R s m args below meth c D cI cJ ad A nL cells slots Q σ (pc + 3) L (.ref (ad o') :: st))) : gX X res (gG p l e R s m args below meth c D cI cJ ad A nL cells slots Q σ pc L (.ref (ad o) :: st)) :=
  fun hX H locs ls hl hP hS => va_getN (D := D) C.1 C.2.1 C.2.2.2.2.1 hcl.1 C.2.2.2.1 C.2.2.2.2.2.1 hP o (gw_obj ho hcl.2.2) hcl.2.1 j hj (va_Nw.use rfl (gB_nest C.2.2.2.2.2.2.2.2.2.1 hlink)) (fun _ h9 => h9) (by rw [gfl_get hj, gfv_r hr]) hdg (k hX H locs ls hl hP hS)
/-- a field's type row: not final, its name apart, what may be stored -/
def gFt (c0 : Nat) (T : u_T) (ty : Nat → FieldType) : Prop := (∀ k, k < gNf c0 → parseFieldDescriptor (T k).2.2.1 = some (ty k)) ∧ (∀ a, a < gNf c0 → ∀ b, b < gNf c0 → a ≠ b → (T a).2.1 ≠ (T b).2.1)
theorem g_putI (C : gC p s m args meth c D cI cJ ad A cc nL own) {K : gSt → Option ρ} {idx c0 : Nat} {CN : String} {T : u_T} {ty : Nat → FieldType} {v : Int32} (o j : Nat) (hcl : gCl c0 CN T) (hft : gFt c0 T ty) (ho : gKd o = c0) (hj : j < gNf c0) (hr : gRf o j = none) (hfin : (T j).2.2.2 = false) (hty : ty j = .int) (hlink : Cond.fieldLink own idx (T j).1 (T j).2.1 (T j).2.2.1 ∈ gT) (hdg : decode cc pc = .ok (.putfield idx, 3)) (k : ∀ σ', gX (K σ') res (gG p l e R s m args below meth c D cI cJ ad A nL cells slots Q σ' (pc + 3) L st)) : gX (gl (gup σ o j v) K) res (gG p l e R s m args below meth c D cI cJ ad A nL cells slots Q σ pc L (.int v :: .ref (ad o) :: st)) := by
  intro hX H locs ls hl hP hS
  refine va_put (D := D) (v := .int v) (ty := .int) C.1 C.2.1 C.2.2.2.2.1 hcl.1 ty hft.1 hft.2 C.2.2.2.1 C.2.2.2.2.2.1 hP (gw_D C.2.2.2.2.2.2.2.2.1 C.2.2.2.2.2.2.2.1) hS o (gw_obj ho hcl.2.2) hcl.2.1 j hj (C.2.2.2.2.1 _ hlink) (fun _ h9 => h9) hfin (by rw [hft.1 j hj, hty]) rfl rfl (by simpa using hj) hdg (fun H1 locs1 hP1 _ hS1 => ?_)
  rw [gw_putf ho hcl.2.2 hr] at hP1
  exact k _ hX H1 locs1 ls hl hP1 hS1
theorem g_putIN (C : gC p s m args meth c D cI cJ ad A cc nL own) {K : gSt → Option ρ} {idx c0 : Nat} {CN host : String} {T : u_T} {ty : Nat → FieldType} {v : Int32} (o j : Nat) (hcl : gCl c0 CN T) (hft : gFt c0 T ty) (ho : gKd o = c0) (hj : j < gNf c0) (hr : gRf o j = none) (hfin : (T j).2.2.2 = false) (hty : ty j = .int) (hlink : Cond.fieldLinkNest own idx (T j).1 (T j).2.1 (T j).2.2.1 host ∈ gNest) (hdg : decode cc pc = .ok (.putfield idx, 3)) (k : ∀ σ', gX (K σ') res (gG p l e R s m args below meth c D cI cJ ad A nL cells slots Q σ' (pc + 3) L st)) : gX (gl (gup σ o j v) K) res (gG p l e R s m args below meth c D cI cJ ad A nL cells slots Q σ pc L (.int v :: .ref (ad o) :: st)) := by
  intro hX H locs ls hl hP hS
  refine va_putN (D := D) (v := .int v) (ty := .int) C.1 C.2.1 C.2.2.2.2.1 hcl.1 ty hft.1 hft.2 C.2.2.2.1 C.2.2.2.2.2.1 hP (gw_D C.2.2.2.2.2.2.2.2.1 C.2.2.2.2.2.2.2.1) hS o (gw_obj ho hcl.2.2) hcl.2.1 j hj (va_Nw.use rfl (gB_nest C.2.2.2.2.2.2.2.2.2.1 hlink)) (fun _ h9 => h9) hfin (by rw [hft.1 j hj, hty]) rfl rfl (by simpa using hj) hdg (fun H1 locs1 hP1 _ hS1 => ?_)
  rw [gw_putf ho hcl.2.2 hr] at hP1
  exact k _ hX H1 locs1 ls hl hP1 hS1
theorem gz_n {v : Int32} (h : v = 0 ∨ v = 1) : narrow .boolean (.int v) = .int v := by
  rcases h with rfl | rfl <;> decide +kernel
theorem gz_f {v : Int32} (h : v = 0 ∨ v = 1) : fits .boolean (.int v) = true := by
  rcases h with rfl | rfl <;> decide +kernel
theorem g_putZ (C : gC p s m args meth c D cI cJ ad A cc nL own) {K : gSt → Option ρ} {idx c0 : Nat} {CN : String} {T : u_T} {ty : Nat → FieldType} {v : Int32} (o j : Nat) (hv : v = 0 ∨ v = 1) (hcl : gCl c0 CN T) (hft : gFt c0 T ty) (ho : gKd o = c0) (hj : j < gNf c0) (hr : gRf o j = none) (hfin : (T j).2.2.2 = false) (hty : ty j = .boolean) (hlink : Cond.fieldLink own idx (T j).1 (T j).2.1 (T j).2.2.1 ∈ gT) (hdg : decode cc pc = .ok (.putfield idx, 3)) (k : ∀ σ', gX (K σ') res (gG p l e R s m args below meth c D cI cJ ad A nL cells slots Q σ' (pc + 3) L st)) : gX (gl (gup σ o j v) K) res (gG p l e R s m args below meth c D cI cJ ad A nL cells slots Q σ pc L (.int v :: .ref (ad o) :: st)) := by
  intro hX H locs ls hl hP hS
  refine va_put (D := D) (v := .int v) (ty := .boolean) C.1 C.2.1 C.2.2.2.2.1 hcl.1 ty hft.1 hft.2 C.2.2.2.1 C.2.2.2.2.2.1 hP (gw_D C.2.2.2.2.2.2.2.2.1 C.2.2.2.2.2.2.2.1) hS o (gw_obj ho hcl.2.2) hcl.2.1 j hj (C.2.2.2.2.1 _ hlink) (fun _ h9 => h9) hfin (by rw [hft.1 j hj, hty]) (gz_n hv) (gz_f hv) (by simpa using hj) hdg (fun H1 locs1 hP1 _ hS1 => ?_)
  rw [gw_putf ho hcl.2.2 hr] at hP1
  exact k _ hX H1 locs1 ls hl hP1 hS1
theorem g_putZN (C : gC p s m args meth c D cI cJ ad A cc nL own) {K : gSt → Option ρ} {idx c0 : Nat} {CN host : String} {T : u_T} {ty : Nat → FieldType} {v : Int32} (o j : Nat) (hv : v = 0 ∨ v = 1) (hcl : gCl c0 CN T) (hft : gFt c0 T ty) (ho : gKd o = c0) (hj : j < gNf c0) (hr : gRf o j = none) (hfin : (T j).2.2.2 = false) (hty : ty j = .boolean) (hlink : Cond.fieldLinkNest own idx (T j).1 (T j).2.1 (T j).2.2.1 host ∈ gNest) (hdg : decode cc pc = .ok (.putfield idx, 3)) (k : ∀ σ', gX (K σ') res (gG p l e R s m args below meth c D cI cJ ad A nL cells slots Q σ' (pc + 3) L st)) : gX (gl (gup σ o j v) K) res (gG p l e R s m args below meth c D cI cJ ad A nL cells slots Q σ pc L (.int v :: .ref (ad o) :: st)) := by
  intro hX H locs ls hl hP hS
  refine va_putN (D := D) (v := .int v) (ty := .boolean) C.1 C.2.1 C.2.2.2.2.1 hcl.1 ty hft.1 hft.2 C.2.2.2.1 C.2.2.2.2.2.1 hP (gw_D C.2.2.2.2.2.2.2.2.1 C.2.2.2.2.2.2.2.1) hS o (gw_obj ho hcl.2.2) hcl.2.1 j hj (va_Nw.use rfl (gB_nest C.2.2.2.2.2.2.2.2.2.1 hlink)) (fun _ h9 => h9) hfin (by rw [hft.1 j hj, hty]) (gz_n hv) (gz_f hv) (by simpa using hj) hdg (fun H1 locs1 hP1 _ hS1 => ?_)
  rw [gw_putf ho hcl.2.2 hr] at hP1
  exact k _ hX H1 locs1 ls hl hP1 hS1
/-- a boolean that is computed: 0 or 1, or nothing is said -/
theorem gX_z {v : Int32} {G : Prop} (k : (v = 0 ∨ v = 1) → gX X res G) : gX (if v = 0 ∨ v = 1 then X else none) res G := gX_if k (fun _ => gX_none)
theorem g_iald (C : gC p s m args meth c D cI cJ ad A cc nL own) {o n : Nat} {i : Int32} (ho : gKd o = 7) (hn : gLn o = n) (hdg : decode cc pc = .ok (.iaload, 1)) (k : gX X res (gG p l e R s m args below meth c D cI cJ ad A nL cells slots Q σ (pc + 1) L (.int (σ o i.toNatClampNeg) :: st))) : gX (if i < 0 ∨ n ≤ i.toNatClampNeg then none else X) res (gG p l e R s m args below meth c D cI cJ ad A nL cells slots Q σ pc L (.int i :: .ref (ad o) :: st)) := by
  refine gX_if (fun _ => gX_none) (fun h hX H locs ls hl hP hS => ?_)
  subst hn
  exact va_iald (D := D) C.1 C.2.1 C.2.2.2.2.2.1 hP o 0 (gw_int ho) rfl h hdg (k hX H locs ls hl hP hS)
theorem g_ialdL (C : gC p s m args meth c D cI cJ ad A cc nL own) {o n : Nat} {i : Int32} (j : Nat) (hin : i.toNatClampNeg = j ∧ vp_in i n) (ho : gKd o = 7) (hn : gLn o = n) (hdg : decode cc pc = .ok (.iaload, 1)) (k : gX X res (gG p l e R s m args below meth c D cI cJ ad A nL cells slots Q σ (pc + 1) L (.int (σ o j) :: st))) : gX X res (gG p l e R s m args below meth c D cI cJ ad A nL cells slots Q σ pc L (.int i :: .ref (ad o) :: st)) := by
  intro hX H locs ls hl hP hS
  obtain ⟨rfl, hin⟩ := hin
  subst hn
  exact va_iald (D := D) C.1 C.2.1 C.2.2.2.2.2.1 hP o 0 (gw_int ho) rfl hin hdg (k hX H locs ls hl hP hS)
theorem g_iast (C : gC p s m args meth c D cI cJ ad A cc nL own) {K : gSt → Option ρ} {o n : Nat} {i v : Int32} (ho : gKd o = 7) (hn : gLn o = n) (hdg : decode cc pc = .ok (.iastore, 1)) (k : ∀ σ', gX (K σ') res (gG p l e R s m args below meth c D cI cJ ad A nL cells slots Q σ' (pc + 1) L st)) : gX (if i < 0 ∨ n ≤ i.toNatClampNeg then none else gl (gup σ o i.toNatClampNeg v) K) res (gG p l e R s m args below meth c D cI cJ ad A nL cells slots Q σ pc L (.int v :: .int i :: .ref (ad o) :: st)) := by
  refine gX_if (fun _ => gX_none) (fun h hX H locs ls hl hP hS => ?_)
  subst hn
  refine va_iast (D := D) C.1 C.2.1 C.2.2.2.2.2.1 hP (gw_D C.2.2.2.2.2.2.2.2.1 C.2.2.2.2.2.2.2.1) hS o 0 (gw_int ho) rfl h hdg (fun H1 locs1 hP1 _ hS1 => ?_)
  rw [gw_puti ho] at hP1
  exact k _ hX H1 locs1 ls hl hP1 hS1
theorem g_iastL (C : gC p s m args meth c D cI cJ ad A cc nL own) {K : gSt → Option ρ} {o n : Nat} {i v : Int32} (j : Nat) (hin : i.toNatClampNeg = j ∧ vp_in i n) (ho : gKd o = 7) (hn : gLn o = n) (hdg : decode cc pc = .ok (.iastore, 1)) (k : ∀ σ', gX (K σ') res (gG p l e R s m args below meth c D cI cJ ad A nL cells slots Q σ' (pc + 1) L st)) : gX (gl (gup σ o j v) K) res (gG p l e R s m args below meth c D cI cJ ad A nL cells slots Q σ pc L (.int v :: .int i :: .ref (ad o) :: st)) := by
  intro hX H locs ls hl hP hS
  obtain ⟨rfl, hin⟩ := hin
  subst hn
  refine va_iast (D := D) C.1 C.2.1 C.2.2.2.2.2.1 hP (gw_D C.2.2.2.2.2.2.2.2.1 C.2.2.2.2.2.2.2.1) hS o 0 (gw_int ho) rfl hin hdg (fun H1 locs1 hP1 _ hS1 => ?_)
  rw [gw_puti ho] at hP1
  exact k _ hX H1 locs1 ls hl hP1 hS1
theorem g_alen (C : gC p s m args meth c D cI cJ ad A cc nL own) {o n : Nat} (ho : gKd o = 7) (hn : gLn o = n) (hdg : decode cc pc = .ok (.arraylength, 1)) (k : gX X res (gG p l e R s m args below meth c D cI cJ ad A nL cells slots Q σ (pc + 1) L (.int (nI n) :: st))) : gX X res (gG p l e R s m args below meth c D cI cJ ad A nL cells slots Q σ pc L (.ref (ad o) :: st)) := by
  intro hX H locs ls hl hP hS
  subst hn
  exact va_alen (D := D) C.1 C.2.1 C.2.2.2.2.2.1 hP o 0 (gw_int ho) (ty := .int) rfl rfl hdg (k hX H locs ls hl hP hS)
theorem g_tswIn (C : gC p s m args meth c D cI cJ ad A cc nL own) {dflt lo hi : Int} {offs : Array Int} {len : Nat} {x : Int32} {off : Int} {tgt : Nat} (hdg : decode cc pc = .ok (.tableswitch dflt lo hi offs, len)) (j : Int) (hx : x.toInt = j) (h1 : ¬ j < lo) (h2 : ¬ hi < j) (ho : offs[(j - lo).toNat]? = some off) (ht : (pc : Int) + off = (tgt : Int)) (k : gX X res (gG p l e R s m args below meth c D cI cJ ad A nL cells slots Q σ tgt L st)) : gX X res (gG p l e R s m args below meth c D cI cJ ad A nL cells slots Q σ pc L (.int x :: st)) := by
  subst hx
  exact fun hX H locs ls hl hP hS => lv_tableIn C.1 C.2.1 hdg h1 h2 ho ht (k hX H locs ls hl hP hS)
theorem g_tswOut (C : gC p s m args meth c D cI cJ ad A cc nL own) {dflt lo hi : Int} {offs : Array Int} {len : Nat} {x : Int32} {tgt : Nat} (hdg : decode cc pc = .ok (.tableswitch dflt lo hi offs, len)) (h : x.toInt < lo ∨ hi < x.toInt) (ht : (pc : Int) + dflt = (tgt : Int)) (k : gX X res (gG p l e R s m args below meth c D cI cJ ad A nL cells slots Q σ tgt L st)) : gX X res (gG p l e R s m args below meth c D cI cJ ad A nL cells slots Q σ pc L (.int x :: st)) :=
  fun hX H locs ls hl hP hS => lv_tableOut C.1 C.2.1 hdg h ht (k hX H locs ls hl hP hS)
end GR
/-- a method's start: the world's picture, and what the tables say -/
def gPre (D : va_G) (cI cJ : ClassId) (ad : Nat → Nat) (σ : gSt) (sz : Nat) (U : State) : Prop :=
  U.heap.size = sz ∧ va_P D vwCl (gw cI cJ ad σ) U.heap ∧ va_K D vwCl [(cI, .int), (cJ, .long)] U ∧ gInj ad ∧ gB U ∧ gZ (gA ad sz) U U.heap
theorem gPre_blind {D : va_G} {cI cJ : ClassId} {ad : Nat → Nat} {σ : gSt} {sz : Nat} {av : List Value} : FrameBlind (va_Pc av (gPre D cI cJ ad σ sz)) := by
  intro a U g mk q
  obtain ⟨q0, q1, qP, qK, qi, qB, qZ⟩ := q
  exact ⟨q0, q1, qP, va_K.moved (u := U) (U := U.calling g mk a) (Vm.Alike.refl U.vm) qK, qi, gB_warm (s := U) (U := U.calling g mk a) (State.WarmedH.refl U) qB, gZ_moved (u := U) (U := U.calling g mk a) (Vm.Alike.refl U.vm) qZ⟩
section GK
variable {p : Program} {l : Launch} {e : Env} {R : Room} {s : State} {m : MethodId} {args : Array Value} {below : List Frame} {meth : Method} {c : Code} {D : va_G} {cI cJ : ClassId} {ad : Nat → Nat} {A : Nat → Prop} {cc : ByteArray} {nL : Nat} {own : String} {cells slots : Nat} {Q : State → Prop} {σ : gSt} {pc : Nat} {L L' : List (Nat × Value)} {st : List Value}
variable {ρ : Type} {X X1 X2 : Option ρ} {res : ρ}
theorem gPre_at (C : gC p s m args meth c D cI cJ ad A cc nL own) {H : Heap} {locs : List Loc} (hP : va_P D vwCl (gw cI cJ ad σ) H) (hS : va_S A s.heap H locs) {U : State} (hU : U.heap = H) (hW : s.WarmedH U.vm) : gPre D cI cJ ad σ H.size U := by
  obtain ⟨hx, hb, hml, hown, hts, hK, hA, hA2, hi, hB, hZ, hlk⟩ := C
  refine ⟨by rw [hU], by rw [hU]; exact hP, va_K.moved hW.alike hK, hi, gB_warm hW hB, ?_⟩
  rw [hU]
  refine gZ_moved hW.alike (gZ_narrow (gZ_kept hZ hS.2.1) (fun q hq => ?_))
  rcases hq with ⟨k, hk, rfl⟩ | hq
  · exact hA2 k hk
  · exact hA q (Nat.le_trans hS.1 hq)
theorem gA_sub (C : gC p s m args meth c D cI cJ ad A cc nL own) {H : Heap} {locs : List Loc} (hS : va_S A s.heap H locs) : ∀ q, gA ad H.size q → A q := by
  intro q hq
  rcases hq with ⟨k, hk, rfl⟩ | hq
  · exact C.2.2.2.2.2.2.2.1 k hk
  · exact C.2.2.2.2.2.2.1 q (Nat.le_trans hS.1 hq)
/-- contracts: an int (or boolean) comes back; nothing; a thing of the world -/
def gMi (l : Launch) (D : va_G) (cI cJ : ClassId) (ad : Nat → Nat) (y : MethodName) (yb : ByteArray) (yn : Nat) (yret : Option FieldType) (rm : Room) (av : List Value) (F : gSt → Option (Int32 × gSt)) : Prop :=
  ∀ (σ : gSt) (r : Int32) (σ' : gSt) (sz : Nat), F σ = some (r, σ') → Met l y (.code y yb yn yret :: gT) rm (va_Pc av (gPre D cI cJ ad σ sz)) (va_Qi (fun r1 (_ : Unit) => r1 = r) (fun _ t => va_P D vwCl (gw cI cJ ad σ') t.heap) (gA ad sz)) 0 0 (gA ad sz)
def gMv (l : Launch) (D : va_G) (cI cJ : ClassId) (ad : Nat → Nat) (y : MethodName) (yb : ByteArray) (yn : Nat) (yret : Option FieldType) (rm : Room) (av : List Value) (F : gSt → Option gSt) : Prop :=
  ∀ (σ : gSt) (σ' : gSt) (sz : Nat), F σ = some σ' → Met l y (.code y yb yn yret :: gT) rm (va_Pc av (gPre D cI cJ ad σ sz)) (va_Qv (fun (_ : Unit) => True) (fun _ t => va_P D vwCl (gw cI cJ ad σ') t.heap) (gA ad sz)) 0 0 (gA ad sz)
def gMr (l : Launch) (D : va_G) (cI cJ : ClassId) (ad : Nat → Nat) (y : MethodName) (yb : ByteArray) (yn : Nat) (yret : Option FieldType) (rm : Room) (av : List Value) (F : gSt → Option (Nat × gSt)) : Prop :=
  ∀ (σ : gSt) (o : Nat) (σ' : gSt) (sz : Nat), F σ = some (o, σ') → Met l y (.code y yb yn yret :: gT) rm (va_Pc av (gPre D cI cJ ad σ sz)) (va_Qr (fun (_ : Unit) => True) (fun _ a t => a = ad o ∧ va_P D vwCl (gw cI cJ ad σ') t.heap) (gA ad sz)) 0 0 (gA ad sz)
theorem gGood {Ts : List Cond} {y : MethodName} {yb : ByteArray} {yn : Nat} {yret : Option FieldType} (hsub : ∀ w ∈ gT, w ∈ Ts) (h : Cond.code y yb yn yret ∈ gT) : GoodIn Ts (.code y yb yn yret :: gT) := by
  intro w hw
  have hw2 : w ∈ gT := by
    rcases List.mem_cons.mp hw with rfl | h1
    · exact h
    · exact h1
  exact ⟨hsub w hw2, good_of_word (gT_good hw2)⟩
/-- a virtual call's words; a static one's; a static one's into another class; a nest mate's static -/
def gWv (own : String) (idx : Nat) (CN : String) (y : MethodName) (yb : ByteArray) (yn : Nat) (yret : Option FieldType) (n : Nat) : Prop :=
  Cond.methodLink own idx y ∈ gT ∧ Cond.instanceMethod y ∈ gT ∧ Cond.selects CN y y ∈ gT ∧ Cond.initialized CN ∈ gT ∧ Cond.code y yb yn yret ∈ gT ∧ (y.cls = CN ∧ y.cls ≠ "java/lang/invoke/MethodHandle" ∧ y.cls ≠ "java/lang/invoke/VarHandle" ∧ (parseMethodDescriptor y.desc).map (fun d => d.parameters.length) = some n)
def gWs (own : String) (idx : Nat) (y : MethodName) (yb : ByteArray) (yn : Nat) (yret : Option FieldType) (n : Nat) : Prop :=
  Cond.methodLink own idx y ∈ gT ∧ Cond.static y ∈ gT ∧ Cond.initialized y.cls ∈ gT ∧ Cond.code y yb yn yret ∈ gT ∧ (y.cls ≠ "java/lang/invoke/MethodHandle" ∧ y.cls ≠ "java/lang/invoke/VarHandle" ∧ (parseMethodDescriptor y.desc).map (fun d => d.parameters.length) = some n)
def gWn (own : String) (idx : Nat) (host : String) (y : MethodName) (yb : ByteArray) (yn : Nat) (yret : Option FieldType) (n : Nat) : Prop :=
  Cond.methodLinkNest own idx y host ∈ gNest ∧ Cond.static y ∈ gT ∧ Cond.initialized y.cls ∈ gT ∧ Cond.code y yb yn yret ∈ gT ∧ (y.cls ≠ "java/lang/invoke/MethodHandle" ∧ y.cls ≠ "java/lang/invoke/VarHandle" ∧ (parseMethodDescriptor y.desc).map (fun d => d.parameters.length) = some n)
theorem gRunV (C : gC p s m args meth c D cI cJ ad A cc nL own) {idx c0 o n : Nat} {CN : String} {T : u_T} {y : MethodName} {yb : ByteArray} {yn : Nat} {yret : Option FieldType} {rm : Room} {As : List Value} {Qc : Array Value → State → Outcome → State → Prop} {free : Addr → Prop} {H : Heap} {locs : List Loc} {ls : Array Slot} {stk : List Value}
    (hM : Met l y (.code y yb yn yret :: gT) rm (va_Pc (.ref (ad o) :: As) (gPre D cI cJ ad σ H.size)) Qc 0 0 free) (hrm : rm.cells = 0 ∧ rm.slots = 0) (hcl : gCl c0 CN T) (ho : gKd o = c0) (hw : gWv own idx CN y yb yn yret n) (hR : rm.frames + 1 ≤ R.frames ∧ 8 + (yn + 11) + rm.locals ≤ R.locals) (hn : As.length = n)
    (hl : lv_has ls nL L) (hP : va_P D vwCl (gw cI cJ ad σ) H) (hS : va_S A s.heap H locs) (hstk : stk = As.reverse ++ .ref (ad o) :: st) (hcat : (st.map fun v => v.category).sum ≤ 8) (hdg : decode cc pc = .ok (.invokevirtual idx, 3)) (hf : cells ≤ R.cells ∧ slots ≤ R.slots) :
    va_Run p l e R s m args below meth c H locs cells slots 0 0 (F0 m pc ls stk) st (Qc (Value.ref (ad o) :: As).toArray) free := by
  obtain ⟨w1, w2, w3, w4, w5, w6⟩ := hw
  have hts := C.2.2.2.2.1
  have cw : CallW R s args own CN idx y yb yn yret (.code y yb yn yret :: gT) rm 0 0 n :=
    ⟨callB_of n hts (gGood (fun _ h => h) w5) rfl hrm.1 hrm.2 (by rw [w6.1]; exact hts _ w4) (hts _ w1) w6.2 hR, hts _ w2, hts _ w3⟩
  exact va_runV ⟨C.1, C.2.1, C.2.2.1, C.2.2.2.1, hts⟩ hM cw ⟨gPre_blind, va_recv (q := (CN, T, gNf c0)) C.2.2.2.2.2.1 hP hcl.2.1 (gw_obj ho hcl.2.2), fun U hU hW => ⟨rfl, gPre_at C hP hS hU hW⟩⟩ rfl hn hl.1 hstk (lv_room hcat) hdg hf
theorem gRunS (C : gC p s m args meth c D cI cJ ad A cc nL own) {idx n : Nat} {y : MethodName} {yb : ByteArray} {yn : Nat} {yret : Option FieldType} {rm : Room} {As : List Value} {Qc : Array Value → State → Outcome → State → Prop} {free : Addr → Prop} {H : Heap} {locs : List Loc} {ls : Array Slot} {stk : List Value}
    (hM : Met l y (.code y yb yn yret :: gT) rm (va_Pc As (gPre D cI cJ ad σ H.size)) Qc 0 0 free) (hrm : rm.cells = 0 ∧ rm.slots = 0) (hw : gWs own idx y yb yn yret n) (hR : rm.frames + 1 ≤ R.frames ∧ 8 + (yn + 11) + rm.locals ≤ R.locals) (hn : As.length = n)
    (hl : lv_has ls nL L) (hP : va_P D vwCl (gw cI cJ ad σ) H) (hS : va_S A s.heap H locs) (hstk : stk = As.reverse ++ st) (hcat : (st.map fun v => v.category).sum ≤ 8) (hdg : decode cc pc = .ok (.invokestatic idx, 3)) (hf : cells ≤ R.cells ∧ slots ≤ R.slots) :
    va_Run p l e R s m args below meth c H locs cells slots 0 0 (F0 m pc ls stk) st (Qc As.toArray) free := by
  obtain ⟨w1, w2, w3, w4, w6⟩ := hw
  have hts := C.2.2.2.2.1
  exact va_runS ⟨C.1, C.2.1, C.2.2.1, C.2.2.2.1, hts⟩ hM ⟨callB_of n hts (gGood (fun _ h => h) w4) rfl hrm.1 hrm.2 (hts _ w3) (hts _ w1) w6 hR, hts _ w2⟩ ⟨gPre_blind, fun U hU hW => ⟨rfl, gPre_at C hP hS hU hW⟩⟩ rfl hn hl.1 hstk (lv_room hcat) hdg hf
theorem gRunN (C : gC p s m args meth c D cI cJ ad A cc nL own) {idx n : Nat} {host : String} {y : MethodName} {yb : ByteArray} {yn : Nat} {yret : Option FieldType} {rm : Room} {As : List Value} {Qc : Array Value → State → Outcome → State → Prop} {free : Addr → Prop} {H : Heap} {locs : List Loc} {ls : Array Slot} {stk : List Value}
    (hM : Met l y (.code y yb yn yret :: gT) rm (va_Pc As (gPre D cI cJ ad σ H.size)) Qc 0 0 free) (hrm : rm.cells = 0 ∧ rm.slots = 0) (hw : gWn own idx host y yb yn yret n) (hR : rm.frames + 1 ≤ R.frames ∧ 8 + (yn + 11) + rm.locals ≤ R.locals) (hn : As.length = n)
    (hl : lv_has ls nL L) (hP : va_P D vwCl (gw cI cJ ad σ) H) (hS : va_S A s.heap H locs) (hstk : stk = As.reverse ++ st) (hcat : (st.map fun v => v.category).sum ≤ 8) (hdg : decode cc pc = .ok (.invokestatic idx, 3)) (hf : cells ≤ R.cells ∧ slots ≤ R.slots) :
    va_Run p l e R s m args below meth c H locs cells slots 0 0 (F0 m pc ls stk) st (Qc As.toArray) free := by
  obtain ⟨w1, w2, w3, w4, w6⟩ := hw
  have hts := C.2.2.2.2.1
  exact va_runSN (host := host) ⟨C.1, C.2.1, C.2.2.1, C.2.2.2.1, hts⟩ hM ⟨va_cnB (host := host) n hts (gGood (fun _ h => h) w4) rfl hrm.1 hrm.2 (gB_nest C.2.2.2.2.2.2.2.2.2.1 w1) (hts _ w3) w6 hR, hts _ w2, trivial⟩ ⟨gPre_blind, fun U hU hW => ⟨rfl, gPre_at C hP hS hU hW⟩⟩ rfl hn hl.1 hstk (lv_room hcat) hdg hf
/-- behind a call -/
theorem gConI (C : gC p s m args meth c D cI cJ ad A cc nL own) {H : Heap} {locs : List Loc} {ls : Array Slot} {stk : List Value} {r : Int32} {σ' : gSt} {a : Array Value} (hl : lv_has ls nL L) (hS : va_S A s.heap H locs)
    (hr : va_Run p l e R s m args below meth c H locs cells slots 0 0 (F0 m pc ls stk) st (va_Qi (fun r1 (_ : Unit) => r1 = r) (fun _ t => va_P D vwCl (gw cI cJ ad σ') t.heap) (gA ad H.size) a) (gA ad H.size))
    (k : gG p l e R s m args below meth c D cI cJ ad A nL cells slots Q σ' (pc + 3) L (.int r :: st)) : W p l e R s m args below meth c H locs cells slots Q (F0 m pc ls stk) := by
  refine va_calli hr hS (fun q _ h => gA_sub C hS q h) (gA_sub C hS) (fun r1 u t H1 locs1 ht hvm hw hB hz hk hS1 => ?_)
  subst hw
  rw [ht] at hB
  exact k H1 locs1 ls hl hB hS1
theorem gConV (C : gC p s m args meth c D cI cJ ad A cc nL own) {H : Heap} {locs : List Loc} {ls : Array Slot} {stk : List Value} {σ' : gSt} {a : Array Value} (hl : lv_has ls nL L) (hS : va_S A s.heap H locs)
    (hr : va_Run p l e R s m args below meth c H locs cells slots 0 0 (F0 m pc ls stk) st (va_Qv (fun (_ : Unit) => True) (fun _ t => va_P D vwCl (gw cI cJ ad σ') t.heap) (gA ad H.size) a) (gA ad H.size))
    (k : gG p l e R s m args below meth c D cI cJ ad A nL cells slots Q σ' (pc + 3) L st) : W p l e R s m args below meth c H locs cells slots Q (F0 m pc ls stk) := by
  refine va_callv hr hS (fun q _ h => gA_sub C hS q h) (gA_sub C hS) (fun u t H1 locs1 ht hvm hw hB hz hk hS1 => ?_)
  rw [ht] at hB
  exact k H1 locs1 ls hl hB hS1
theorem gConR (C : gC p s m args meth c D cI cJ ad A cc nL own) {H : Heap} {locs : List Loc} {ls : Array Slot} {stk : List Value} {o : Nat} {σ' : gSt} {a : Array Value} (hl : lv_has ls nL L) (hS : va_S A s.heap H locs)
    (hr : va_Run p l e R s m args below meth c H locs cells slots 0 0 (F0 m pc ls stk) st (va_Qr (fun (_ : Unit) => True) (fun _ a t => a = ad o ∧ va_P D vwCl (gw cI cJ ad σ') t.heap) (gA ad H.size) a) (gA ad H.size))
    (k : gG p l e R s m args below meth c D cI cJ ad A nL cells slots Q σ' (pc + 3) L (.ref (ad o) :: st)) : W p l e R s m args below meth c H locs cells slots Q (F0 m pc ls stk) := by
  refine va_callr hr hS (fun q _ h => gA_sub C hS q h) (gA_sub C hS) (fun u ra t H1 locs1 ht hvm hw hB hz hk hS1 => ?_)
  obtain ⟨rfl, hB⟩ := hB
  rw [ht] at hB
  exact k H1 locs1 ls hl hB hS1
def gbi {ρ : Type} (X0 : Option (Int32 × gSt)) (K : Int32 → gSt → Option ρ) : Option ρ := match X0 with
  | none => none
  | some q => K q.1 q.2
def gbv {ρ : Type} (X0 : Option gSt) (K : gSt → Option ρ) : Option ρ := match X0 with
  | none => none
  | some q => K q
def gbr {ρ : Type} (X0 : Option (Nat × gSt)) (K : Nat → gSt → Option ρ) : Option ρ := match X0 with
  | none => none
  | some q => K q.1 q.2
theorem g_callvi (C : gC p s m args meth c D cI cJ ad A cc nL own) {idx c0 o n : Nat} {CN : String} {T : u_T} {y : MethodName} {yb : ByteArray} {yn : Nat} {yret : Option FieldType} {rm : Room} {As : List Value} {F : gSt → Option (Int32 × gSt)} {K : Int32 → gSt → Option ρ} {stk : List Value}
    (hM : gMi l D cI cJ ad y yb yn yret rm (.ref (ad o) :: As) F) (hrm : rm.cells = 0 ∧ rm.slots = 0) (hcl : gCl c0 CN T) (ho : gKd o = c0) (hw : gWv own idx CN y yb yn yret n) (hR : rm.frames + 1 ≤ R.frames ∧ 8 + (yn + 11) + rm.locals ≤ R.locals) (hn : As.length = n) (hstk : stk = As.reverse ++ .ref (ad o) :: st) (hcat : (st.map fun v => v.category).sum ≤ 8) (hdg : decode cc pc = .ok (.invokevirtual idx, 3)) (hf : cells ≤ R.cells ∧ slots ≤ R.slots)
    (k : ∀ (r : Int32) (σ' : gSt), gX (K r σ') res (gG p l e R s m args below meth c D cI cJ ad A nL cells slots Q σ' (pc + 3) L (.int r :: st))) : gX (gbi (F σ) K) res (gG p l e R s m args below meth c D cI cJ ad A nL cells slots Q σ pc L stk) := by
  intro hX
  cases hF : F σ with
  | none => rw [hF] at hX; cases hX
  | some q =>
    rw [hF] at hX
    obtain ⟨r, σ'⟩ := q
    intro H locs ls hl hP hS
    exact gConI C hl hS (gRunV C (hM _ _ _ _ hF) hrm hcl ho hw hR hn hl hP hS hstk hcat hdg hf) (k r σ' hX)
theorem g_callvv (C : gC p s m args meth c D cI cJ ad A cc nL own) {idx c0 o n : Nat} {CN : String} {T : u_T} {y : MethodName} {yb : ByteArray} {yn : Nat} {yret : Option FieldType} {rm : Room} {As : List Value} {F : gSt → Option gSt} {K : gSt → Option ρ} {stk : List Value}
    (hM : gMv l D cI cJ ad y yb yn yret rm (.ref (ad o) :: As) F) (hrm : rm.cells = 0 ∧ rm.slots = 0) (hcl : gCl c0 CN T) (ho : gKd o = c0) (hw : gWv own idx CN y yb yn yret n) (hR : rm.frames + 1 ≤ R.frames ∧ 8 + (yn + 11) + rm.locals ≤ R.locals) (hn : As.length = n) (hstk : stk = As.reverse ++ .ref (ad o) :: st) (hcat : (st.map fun v => v.category).sum ≤ 8) (hdg : decode cc pc = .ok (.invokevirtual idx, 3)) (hf : cells ≤ R.cells ∧ slots ≤ R.slots)
    (k : ∀ σ' : gSt, gX (K σ') res (gG p l e R s m args below meth c D cI cJ ad A nL cells slots Q σ' (pc + 3) L (st))) : gX (gbv (F σ) K) res (gG p l e R s m args below meth c D cI cJ ad A nL cells slots Q σ pc L stk) := by
  intro hX
  cases hF : F σ with
  | none => rw [hF] at hX; cases hX
  | some σ' =>
    rw [hF] at hX
    intro H locs ls hl hP hS
    exact gConV C hl hS (gRunV C (hM _ _ _ hF) hrm hcl ho hw hR hn hl hP hS hstk hcat hdg hf) (k σ' hX)
theorem g_callvr (C : gC p s m args meth c D cI cJ ad A cc nL own) {idx c0 o n : Nat} {CN : String} {T : u_T} {y : MethodName} {yb : ByteArray} {yn : Nat} {yret : Option FieldType} {rm : Room} {As : List Value} {F : gSt → Option (Nat × gSt)} {K : Nat → gSt → Option ρ} {stk : List Value}
    (hM : gMr l D cI cJ ad y yb yn yret rm (.ref (ad o) :: As) F) (hrm : rm.cells = 0 ∧ rm.slots = 0) (hcl : gCl c0 CN T) (ho : gKd o = c0) (hw : gWv own idx CN y yb yn yret n) (hR : rm.frames + 1 ≤ R.frames ∧ 8 + (yn + 11) + rm.locals ≤ R.locals) (hn : As.length = n) (hstk : stk = As.reverse ++ .ref (ad o) :: st) (hcat : (st.map fun v => v.category).sum ≤ 8) (hdg : decode cc pc = .ok (.invokevirtual idx, 3)) (hf : cells ≤ R.cells ∧ slots ≤ R.slots)
    (k : ∀ (o1 : Nat) (σ' : gSt), F σ = some (o1, σ') → gX (K o1 σ') res (gG p l e R s m args below meth c D cI cJ ad A nL cells slots Q σ' (pc + 3) L (.ref (ad o1) :: st))) : gX (gbr (F σ) K) res (gG p l e R s m args below meth c D cI cJ ad A nL cells slots Q σ pc L stk) := by
  intro hX
  cases hF : F σ with
  | none => rw [hF] at hX; cases hX
  | some q =>
    rw [hF] at hX
    obtain ⟨o1, σ'⟩ := q
    intro H locs ls hl hP hS
    exact gConR C hl hS (gRunV C (hM _ _ _ _ hF) hrm hcl ho hw hR hn hl hP hS hstk hcat hdg hf) (k o1 σ' hF hX)
theorem g_callsi (C : gC p s m args meth c D cI cJ ad A cc nL own) {idx n : Nat} {y : MethodName} {yb : ByteArray} {yn : Nat} {yret : Option FieldType} {rm : Room} {As : List Value} {F : gSt → Option (Int32 × gSt)} {K : Int32 → gSt → Option ρ} {stk : List Value}
    (hM : gMi l D cI cJ ad y yb yn yret rm As F) (hrm : rm.cells = 0 ∧ rm.slots = 0) (hw : gWs own idx y yb yn yret n) (hR : rm.frames + 1 ≤ R.frames ∧ 8 + (yn + 11) + rm.locals ≤ R.locals) (hn : As.length = n) (hstk : stk = As.reverse ++ st) (hcat : (st.map fun v => v.category).sum ≤ 8) (hdg : decode cc pc = .ok (.invokestatic idx, 3)) (hf : cells ≤ R.cells ∧ slots ≤ R.slots)
    (k : ∀ (r : Int32) (σ' : gSt), gX (K r σ') res (gG p l e R s m args below meth c D cI cJ ad A nL cells slots Q σ' (pc + 3) L (.int r :: st))) : gX (gbi (F σ) K) res (gG p l e R s m args below meth c D cI cJ ad A nL cells slots Q σ pc L stk) := by
  intro hX
  cases hF : F σ with
  | none => rw [hF] at hX; cases hX
  | some q =>
    rw [hF] at hX
    obtain ⟨r, σ'⟩ := q
    intro H locs ls hl hP hS
    exact gConI C hl hS (gRunS C (hM _ _ _ _ hF) hrm hw hR hn hl hP hS hstk hcat hdg hf) (k r σ' hX)
theorem g_callsv (C : gC p s m args meth c D cI cJ ad A cc nL own) {idx n : Nat} {y : MethodName} {yb : ByteArray} {yn : Nat} {yret : Option FieldType} {rm : Room} {As : List Value} {F : gSt → Option gSt} {K : gSt → Option ρ} {stk : List Value}
    (hM : gMv l D cI cJ ad y yb yn yret rm As F) (hrm : rm.cells = 0 ∧ rm.slots = 0) (hw : gWs own idx y yb yn yret n) (hR : rm.frames + 1 ≤ R.frames ∧ 8 + (yn + 11) + rm.locals ≤ R.locals) (hn : As.length = n) (hstk : stk = As.reverse ++ st) (hcat : (st.map fun v => v.category).sum ≤ 8) (hdg : decode cc pc = .ok (.invokestatic idx, 3)) (hf : cells ≤ R.cells ∧ slots ≤ R.slots)
    (k : ∀ σ' : gSt, gX (K σ') res (gG p l e R s m args below meth c D cI cJ ad A nL cells slots Q σ' (pc + 3) L (st))) : gX (gbv (F σ) K) res (gG p l e R s m args below meth c D cI cJ ad A nL cells slots Q σ pc L stk) := by
  intro hX
  cases hF : F σ with
  | none => rw [hF] at hX; cases hX
  | some σ' =>
    rw [hF] at hX
    intro H locs ls hl hP hS
    exact gConV C hl hS (gRunS C (hM _ _ _ hF) hrm hw hR hn hl hP hS hstk hcat hdg hf) (k σ' hX)
theorem g_callni (C : gC p s m args meth c D cI cJ ad A cc nL own) {idx n : Nat} {host : String} {y : MethodName} {yb : ByteArray} {yn : Nat} {yret : Option FieldType} {rm : Room} {As : List Value} {F : gSt → Option (Int32 × gSt)} {K : Int32 → gSt → Option ρ} {stk : List Value}
    (hM : gMi l D cI cJ ad y yb yn yret rm As F) (hrm : rm.cells = 0 ∧ rm.slots = 0) (hw : gWn own idx host y yb yn yret n) (hR : rm.frames + 1 ≤ R.frames ∧ 8 + (yn + 11) + rm.locals ≤ R.locals) (hn : As.length = n) (hstk : stk = As.reverse ++ st) (hcat : (st.map fun v => v.category).sum ≤ 8) (hdg : decode cc pc = .ok (.invokestatic idx, 3)) (hf : cells ≤ R.cells ∧ slots ≤ R.slots)
    (k : ∀ (r : Int32) (σ' : gSt), gX (K r σ') res (gG p l e R s m args below meth c D cI cJ ad A nL cells slots Q σ' (pc + 3) L (.int r :: st))) : gX (gbi (F σ) K) res (gG p l e R s m args below meth c D cI cJ ad A nL cells slots Q σ pc L stk) := by
  intro hX
  cases hF : F σ with
  | none => rw [hF] at hX; cases hX
  | some q =>
    rw [hF] at hX
    obtain ⟨r, σ'⟩ := q
    intro H locs ls hl hP hS
    exact gConI C hl hS (gRunN C (hM _ _ _ _ hF) hrm hw hR hn hl hP hS hstk hcat hdg hf) (k r σ' hX)
theorem g_callnv (C : gC p s m args meth c D cI cJ ad A cc nL own) {idx n : Nat} {host : String} {y : MethodName} {yb : ByteArray} {yn : Nat} {yret : Option FieldType} {rm : Room} {As : List Value} {F : gSt → Option gSt} {K : gSt → Option ρ} {stk : List Value}
    (hM : gMv l D cI cJ ad y yb yn yret rm As F) (hrm : rm.cells = 0 ∧ rm.slots = 0) (hw : gWn own idx host y yb yn yret n) (hR : rm.frames + 1 ≤ R.frames ∧ 8 + (yn + 11) + rm.locals ≤ R.locals) (hn : As.length = n) (hstk : stk = As.reverse ++ st) (hcat : (st.map fun v => v.category).sum ≤ 8) (hdg : decode cc pc = .ok (.invokestatic idx, 3)) (hf : cells ≤ R.cells ∧ slots ≤ R.slots)
    (k : ∀ σ' : gSt, gX (K σ') res (gG p l e R s m args below meth c D cI cJ ad A nL cells slots Q σ' (pc + 3) L (st))) : gX (gbv (F σ) K) res (gG p l e R s m args below meth c D cI cJ ad A nL cells slots Q σ pc L stk) := by
  intro hX
  cases hF : F σ with
  | none => rw [hF] at hX; cases hX
  | some σ' =>
    rw [hF] at hX
    intro H locs ls hl hP hS
    exact gConV C hl hS (gRunN C (hM _ _ _ hF) hrm hw hR hn hl hP hS hstk hcat hdg hf) (k σ' hX)
theorem g_ireti (C : gC p s m args meth c D cI cJ ad A cc nL own) {v r : Int32} {σ' : gSt} (hr : meth.sig.returnType = some .int) (hdg : decode cc pc = .ok (.ireturn, 1)) : gX (some (v, σ)) (r, σ') (gG p l e R s m args below meth c D cI cJ ad A nL 0 0 (MQ below (va_Qi (fun r1 (_ : Unit) => r1 = r) (fun _ t => va_P D vwCl (gw cI cJ ad σ') t.heap) A) args s 0 0 A) σ pc L [.int v]) := by
  intro hX H locs ls hl hP hS
  cases hX
  have hlk : meth.locks = false := C.2.2.2.2.2.2.2.2.2.2.2
  exact W.iret C.1 C.2.1 hr (fun t ht hW => ⟨⟨v, (), rfl, rfl, by show va_P D vwCl _ t.heap; rw [ht]; exact hP⟩, hS.F ht⟩) hS.2.2 hdg hlk
theorem g_iretz (C : gC p s m args meth c D cI cJ ad A cc nL own) {v r : Int32} {σ' : gSt} (hv : v = 0 ∨ v = 1) (hr : meth.sig.returnType = some .boolean) (hdg : decode cc pc = .ok (.ireturn, 1)) : gX (some (v, σ)) (r, σ') (gG p l e R s m args below meth c D cI cJ ad A nL 0 0 (MQ below (va_Qi (fun r1 (_ : Unit) => r1 = r) (fun _ t => va_P D vwCl (gw cI cJ ad σ') t.heap) A) args s 0 0 A) σ pc L [.int v]) := by
  intro hX H locs ls hl hP hS
  cases hX
  have hlk : meth.locks = false := C.2.2.2.2.2.2.2.2.2.2.2
  exact W.zret C.1 C.2.1 hr (gz_n hv) (fun t ht hW => ⟨⟨v, (), rfl, rfl, by show va_P D vwCl _ t.heap; rw [ht]; exact hP⟩, hS.F ht⟩) hS.2.2 hdg hlk
theorem g_retv (C : gC p s m args meth c D cI cJ ad A cc nL own) {σ' : gSt} (hr : meth.sig.returnType = none) (hdg : decode cc pc = .ok (.return_, 1)) : gX (some σ) σ' (gG p l e R s m args below meth c D cI cJ ad A nL 0 0 (MQ below (va_Qv (fun (_ : Unit) => True) (fun _ t => va_P D vwCl (gw cI cJ ad σ') t.heap) A) args s 0 0 A) σ pc L []) := by
  intro hX H locs ls hl hP hS
  cases hX
  have hlk : meth.locks = false := C.2.2.2.2.2.2.2.2.2.2.2
  exact W.vret C.1 C.2.1 hr (fun t ht hW => ⟨⟨(), rfl, trivial, by show va_P D vwCl _ t.heap; rw [ht]; exact hP⟩, hS.F ht⟩) hS.2.2 hdg hlk
theorem g_areto (C : gC p s m args meth c D cI cJ ad A cc nL own) {o r : Nat} {σ' : gSt} {rt : FieldType} (hr : meth.sig.returnType = some rt) (hrt : (∃ n, rt = .object n) ∨ ∃ t, rt = .array t) (hdg : decode cc pc = .ok (.areturn, 1)) : gX (some (o, σ)) (r, σ') (gG p l e R s m args below meth c D cI cJ ad A nL 0 0 (MQ below (va_Qr (fun (_ : Unit) => True) (fun _ a t => a = ad r ∧ va_P D vwCl (gw cI cJ ad σ') t.heap) A) args s 0 0 A) σ pc L [.ref (ad o)]) := by
  intro hX H locs ls hl hP hS
  cases hX
  have hlk : meth.locks = false := C.2.2.2.2.2.2.2.2.2.2.2
  exact W.aret C.1 C.2.1 hr hrt (Or.inr ⟨_, rfl⟩) (fun t ht hW => ⟨⟨(), _, rfl, trivial, rfl, by show va_P D vwCl _ t.heap; rw [ht]; exact hP⟩, hS.F ht⟩) hS.2.2 hdg hlk
theorem gStartI {y : MethodName} {yb : ByteArray} {yn : Nat} {yret : Option FieldType} {rm : Room} {av : List Value} {F : gSt → Option (Int32 × gSt)} {L0 : List (Nat × Value)} (own : String) (hy : plainName y.cls = true) (hyc : y.cls = own) (hL0 : lv_args 0 av = L0) (hlen : (lg_sl av).length ≤ yn)
    (body : ∀ (p : Program) (e : Env) (s : State) (m : MethodId) (args : Array Value) (below : List Frame) (meth : Method) (c : Code) (sz : Nat) (σ : gSt) (r : Int32) (σ' : gSt), gC p s m args meth c D cI cJ ad (gA ad sz) yb yn own → meth.sig.returnType = yret →
      gX (F σ) (r, σ') (gG p l e rm s m args below meth c D cI cJ ad (gA ad sz) yn 0 0 (MQ below (va_Qi (fun r1 (_ : Unit) => r1 = r) (fun _ t => va_P D vwCl (gw cI cJ ad σ') t.heap) (gA ad sz)) args s 0 0 (gA ad sz)) σ 0 L0 [])) : gMi l D cI cJ ad y yb yn yret rm av F := by
  intro σ r σ' sz hF
  refine Met.ofW (cc := yb) (maxL := yn) (ret := yret) hy rfl ?_
  intro p e s m args below meth c s₁ B hml hv
  obtain ⟨rfl, hsz, hP, hK, hi, hB, hZ⟩ := hv
  have hts := atoms_spec (ws := .code y yb yn yret :: gT) B.pre
  have hown : s.vm.findClass own = some m.cls := by rw [← hyc]; exact findClass_of_methodNamed B.named
  have hl := lv_entry av (n := yn) hlen
  rw [lg_entry_eq]
  rw [hL0] at hl
  subst hsz
  exact body p e s m _ below meth c s.heap.size σ r σ' ⟨B.exec, B.bytes, hml, hown, fun w hw => hts w (List.mem_cons_of_mem _ hw), hK, fun q h => Or.inr h, fun k hk => Or.inl ⟨k, hk, rfl⟩, hi, hB, hZ, B.notSynchronized⟩ B.returns hF s.heap [] _ hl hP va_S.rf
theorem gStartV {y : MethodName} {yb : ByteArray} {yn : Nat} {yret : Option FieldType} {rm : Room} {av : List Value} {F : gSt → Option gSt} {L0 : List (Nat × Value)} (own : String) (hy : plainName y.cls = true) (hyc : y.cls = own) (hL0 : lv_args 0 av = L0) (hlen : (lg_sl av).length ≤ yn)
    (body : ∀ (p : Program) (e : Env) (s : State) (m : MethodId) (args : Array Value) (below : List Frame) (meth : Method) (c : Code) (sz : Nat) (σ : gSt) (σ' : gSt), gC p s m args meth c D cI cJ ad (gA ad sz) yb yn own → meth.sig.returnType = yret →
      gX (F σ) σ' (gG p l e rm s m args below meth c D cI cJ ad (gA ad sz) yn 0 0 (MQ below (va_Qv (fun (_ : Unit) => True) (fun _ t => va_P D vwCl (gw cI cJ ad σ') t.heap) (gA ad sz)) args s 0 0 (gA ad sz)) σ 0 L0 [])) : gMv l D cI cJ ad y yb yn yret rm av F := by
  intro σ σ' sz hF
  refine Met.ofW (cc := yb) (maxL := yn) (ret := yret) hy rfl ?_
  intro p e s m args below meth c s₁ B hml hv
  obtain ⟨rfl, hsz, hP, hK, hi, hB, hZ⟩ := hv
  have hts := atoms_spec (ws := .code y yb yn yret :: gT) B.pre
  have hown : s.vm.findClass own = some m.cls := by rw [← hyc]; exact findClass_of_methodNamed B.named
  have hl := lv_entry av (n := yn) hlen
  rw [lg_entry_eq]
  rw [hL0] at hl
  subst hsz
  exact body p e s m _ below meth c s.heap.size σ σ' ⟨B.exec, B.bytes, hml, hown, fun w hw => hts w (List.mem_cons_of_mem _ hw), hK, fun q h => Or.inr h, fun k hk => Or.inl ⟨k, hk, rfl⟩, hi, hB, hZ, B.notSynchronized⟩ B.returns hF s.heap [] _ hl hP va_S.rf
theorem gStartR {y : MethodName} {yb : ByteArray} {yn : Nat} {yret : Option FieldType} {rm : Room} {av : List Value} {F : gSt → Option (Nat × gSt)} {L0 : List (Nat × Value)} (own : String) (hy : plainName y.cls = true) (hyc : y.cls = own) (hL0 : lv_args 0 av = L0) (hlen : (lg_sl av).length ≤ yn)
    (body : ∀ (p : Program) (e : Env) (s : State) (m : MethodId) (args : Array Value) (below : List Frame) (meth : Method) (c : Code) (sz : Nat) (σ : gSt) (r : Nat) (σ' : gSt), gC p s m args meth c D cI cJ ad (gA ad sz) yb yn own → meth.sig.returnType = yret →
      gX (F σ) (r, σ') (gG p l e rm s m args below meth c D cI cJ ad (gA ad sz) yn 0 0 (MQ below (va_Qr (fun (_ : Unit) => True) (fun _ a t => a = ad r ∧ va_P D vwCl (gw cI cJ ad σ') t.heap) (gA ad sz)) args s 0 0 (gA ad sz)) σ 0 L0 [])) : gMr l D cI cJ ad y yb yn yret rm av F := by
  intro σ r σ' sz hF
  refine Met.ofW (cc := yb) (maxL := yn) (ret := yret) hy rfl ?_
  intro p e s m args below meth c s₁ B hml hv
  obtain ⟨rfl, hsz, hP, hK, hi, hB, hZ⟩ := hv
  have hts := atoms_spec (ws := .code y yb yn yret :: gT) B.pre
  have hown : s.vm.findClass own = some m.cls := by rw [← hyc]; exact findClass_of_methodNamed B.named
  have hl := lv_entry av (n := yn) hlen
  rw [lg_entry_eq]
  rw [hL0] at hl
  subst hsz
  exact body p e s m _ below meth c s.heap.size σ r σ' ⟨B.exec, B.bytes, hml, hown, fun w hw => hts w (List.mem_cons_of_mem _ hw), hK, fun q h => Or.inr h, fun k hk => Or.inl ⟨k, hk, rfl⟩, hi, hB, hZ, B.notSynchronized⟩ B.returns hF s.heap [] _ hl hP va_S.rf
end GK
end
section
theorem dX0_init_0 : decode cX0_init 0 = .ok (.aload_n 0, 1) := by decide +kernel
theorem dX0_init_1 : decode cX0_init 1 = .ok (.invokespecial 3, 3) := by decide +kernel
theorem dX0_init_4 : decode cX0_init 4 = .ok (.aload_n 0, 1) := by decide +kernel
theorem dX0_init_5 : decode cX0_init 5 = .ok (.new 9, 3) := by decide +kernel
theorem dX0_init_8 : decode cX0_init 8 = .ok (.dup, 1) := by decide +kernel
theorem dX0_init_9 : decode cX0_init 9 = .ok (.invokespecial 11, 3) := by decide +kernel
theorem dX0_init_12 : decode cX0_init 12 = .ok (.putfield 12, 3) := by decide +kernel
theorem dX0_init_15 : decode cX0_init 15 = .ok (.aload_n 0, 1) := by decide +kernel
theorem dX0_init_16 : decode cX0_init 16 = .ok (.new 9, 3) := by decide +kernel
theorem dX0_init_19 : decode cX0_init 19 = .ok (.dup, 1) := by decide +kernel
theorem dX0_init_20 : decode cX0_init 20 = .ok (.invokespecial 11, 3) := by decide +kernel
theorem dX0_init_23 : decode cX0_init 23 = .ok (.putfield 18, 3) := by decide +kernel
theorem dX0_init_26 : decode cX0_init 26 = .ok (.aload_n 0, 1) := by decide +kernel
theorem dX0_init_27 : decode cX0_init 27 = .ok (.iconst (-1), 1) := by decide +kernel
theorem dX0_init_28 : decode cX0_init 28 = .ok (.putfield 21, 3) := by decide +kernel
theorem dX0_init_31 : decode cX0_init 31 = .ok (.aload_n 0, 1) := by decide +kernel
theorem dX0_init_32 : decode cX0_init 32 = .ok (.iconst (-1), 1) := by decide +kernel
theorem dX0_init_33 : decode cX0_init 33 = .ok (.putfield 25, 3) := by decide +kernel
theorem dX0_init_36 : decode cX0_init 36 = .ok (.return_, 1) := by decide +kernel
theorem dX0_sideOf_0 : decode cX0_sideOf 0 = .ok (.iload_n 1, 1) := by decide +kernel
theorem dX0_sideOf_1 : decode cX0_sideOf 1 = .ok (.iconst 1, 1) := by decide +kernel
theorem dX0_sideOf_2 : decode cX0_sideOf 2 = .ok (.if_icmp .ne 10, 3) := by decide +kernel
theorem dX0_sideOf_5 : decode cX0_sideOf 5 = .ok (.aload_n 0, 1) := by decide +kernel
theorem dX0_sideOf_6 : decode cX0_sideOf 6 = .ok (.getfield 18, 3) := by decide +kernel
theorem dX0_sideOf_9 : decode cX0_sideOf 9 = .ok (.goto 7, 3) := by decide +kernel
theorem dX0_sideOf_12 : decode cX0_sideOf 12 = .ok (.aload_n 0, 1) := by decide +kernel
theorem dX0_sideOf_13 : decode cX0_sideOf 13 = .ok (.getfield 12, 3) := by decide +kernel
theorem dX0_sideOf_16 : decode cX0_sideOf 16 = .ok (.areturn, 1) := by decide +kernel
theorem dX0_isSetOn_0 : decode cX0_isSetOn 0 = .ok (.aload_n 0, 1) := by decide +kernel
theorem dX0_isSetOn_1 : decode cX0_isSetOn 1 = .ok (.getfield 21, 3) := by decide +kernel
theorem dX0_isSetOn_4 : decode cX0_isSetOn 4 = .ok (.iconst (-1), 1) := by decide +kernel
theorem dX0_isSetOn_5 : decode cX0_isSetOn 5 = .ok (.if_icmp .eq 7, 3) := by decide +kernel
theorem dX0_isSetOn_8 : decode cX0_isSetOn 8 = .ok (.iconst 1, 1) := by decide +kernel
theorem dX0_isSetOn_9 : decode cX0_isSetOn 9 = .ok (.goto 4, 3) := by decide +kernel
theorem dX0_isSetOn_12 : decode cX0_isSetOn 12 = .ok (.iconst 0, 1) := by decide +kernel
theorem dX0_isSetOn_13 : decode cX0_isSetOn 13 = .ok (.ireturn, 1) := by decide +kernel
theorem dX0_isMatchOver_0 : decode cX0_isMatchOver 0 = .ok (.aload_n 0, 1) := by decide +kernel
theorem dX0_isMatchOver_1 : decode cX0_isMatchOver 1 = .ok (.getfield 12, 3) := by decide +kernel
theorem dX0_isMatchOver_4 : decode cX0_isMatchOver 4 = .ok (.getfield 28, 3) := by decide +kernel
theorem dX0_isMatchOver_7 : decode cX0_isMatchOver 7 = .ok (.iconst 3, 1) := by decide +kernel
theorem dX0_isMatchOver_8 : decode cX0_isMatchOver 8 = .ok (.if_icmp .eq 14, 3) := by decide +kernel
theorem dX0_isMatchOver_11 : decode cX0_isMatchOver 11 = .ok (.aload_n 0, 1) := by decide +kernel
theorem dX0_isMatchOver_12 : decode cX0_isMatchOver 12 = .ok (.getfield 18, 3) := by decide +kernel
theorem dX0_isMatchOver_15 : decode cX0_isMatchOver 15 = .ok (.getfield 28, 3) := by decide +kernel
theorem dX0_isMatchOver_18 : decode cX0_isMatchOver 18 = .ok (.iconst 3, 1) := by decide +kernel
theorem dX0_isMatchOver_19 : decode cX0_isMatchOver 19 = .ok (.if_icmp .ne 7, 3) := by decide +kernel
theorem dX0_isMatchOver_22 : decode cX0_isMatchOver 22 = .ok (.iconst 1, 1) := by decide +kernel
theorem dX0_isMatchOver_23 : decode cX0_isMatchOver 23 = .ok (.goto 4, 3) := by decide +kernel
theorem dX0_isMatchOver_26 : decode cX0_isMatchOver 26 = .ok (.iconst 0, 1) := by decide +kernel
theorem dX0_isMatchOver_27 : decode cX0_isMatchOver 27 = .ok (.ireturn, 1) := by decide +kernel
theorem dX0_setsPlayed_0 : decode cX0_setsPlayed 0 = .ok (.aload_n 0, 1) := by decide +kernel
theorem dX0_setsPlayed_1 : decode cX0_setsPlayed 1 = .ok (.getfield 12, 3) := by decide +kernel
theorem dX0_setsPlayed_4 : decode cX0_setsPlayed 4 = .ok (.getfield 28, 3) := by decide +kernel
theorem dX0_setsPlayed_7 : decode cX0_setsPlayed 7 = .ok (.aload_n 0, 1) := by decide +kernel
theorem dX0_setsPlayed_8 : decode cX0_setsPlayed 8 = .ok (.getfield 18, 3) := by decide +kernel
theorem dX0_setsPlayed_11 : decode cX0_setsPlayed 11 = .ok (.getfield 28, 3) := by decide +kernel
theorem dX0_setsPlayed_14 : decode cX0_setsPlayed 14 = .ok (.iadd, 1) := by decide +kernel
theorem dX0_setsPlayed_15 : decode cX0_setsPlayed 15 = .ok (.ireturn, 1) := by decide +kernel
theorem dX0_startSet_0 : decode cX0_startSet 0 = .ok (.aload_n 0, 1) := by decide +kernel
theorem dX0_startSet_1 : decode cX0_startSet 1 = .ok (.getfield 12, 3) := by decide +kernel
theorem dX0_startSet_4 : decode cX0_startSet 4 = .ok (.invokevirtual 31, 3) := by decide +kernel
theorem dX0_startSet_7 : decode cX0_startSet 7 = .ok (.aload_n 0, 1) := by decide +kernel
theorem dX0_startSet_8 : decode cX0_startSet 8 = .ok (.getfield 18, 3) := by decide +kernel
theorem dX0_startSet_11 : decode cX0_startSet 11 = .ok (.invokevirtual 31, 3) := by decide +kernel
theorem dX0_startSet_14 : decode cX0_startSet 14 = .ok (.aload_n 0, 1) := by decide +kernel
theorem dX0_startSet_15 : decode cX0_startSet 15 = .ok (.iload_n 1, 1) := by decide +kernel
theorem dX0_startSet_16 : decode cX0_startSet 16 = .ok (.putfield 21, 3) := by decide +kernel
theorem dX0_startSet_19 : decode cX0_startSet 19 = .ok (.aload_n 0, 1) := by decide +kernel
theorem dX0_startSet_20 : decode cX0_startSet 20 = .ok (.iconst (-1), 1) := by decide +kernel
theorem dX0_startSet_21 : decode cX0_startSet 21 = .ok (.putfield 25, 3) := by decide +kernel
theorem dX0_startSet_24 : decode cX0_startSet 24 = .ok (.return_, 1) := by decide +kernel
theorem dX0_takeService_0 : decode cX0_takeService 0 = .ok (.aload_n 0, 1) := by decide +kernel
theorem dX0_takeService_1 : decode cX0_takeService 1 = .ok (.aload_n 0, 1) := by decide +kernel
theorem dX0_takeService_2 : decode cX0_takeService 2 = .ok (.getfield 21, 3) := by decide +kernel
theorem dX0_takeService_5 : decode cX0_takeService 5 = .ok (.invokevirtual 34, 3) := by decide +kernel
theorem dX0_takeService_8 : decode cX0_takeService 8 = .ok (.astore_n 2, 1) := by decide +kernel
theorem dX0_takeService_9 : decode cX0_takeService 9 = .ok (.aload_n 2, 1) := by decide +kernel
theorem dX0_takeService_10 : decode cX0_takeService 10 = .ok (.iconst 1, 1) := by decide +kernel
theorem dX0_takeService_11 : decode cX0_takeService 11 = .ok (.invokevirtual 38, 3) := by decide +kernel
theorem dX0_takeService_14 : decode cX0_takeService 14 = .ok (.iload_n 1, 1) := by decide +kernel
theorem dX0_takeService_15 : decode cX0_takeService 15 = .ok (.if_icmp .ne 7, 3) := by decide +kernel
theorem dX0_takeService_18 : decode cX0_takeService 18 = .ok (.iconst 1, 1) := by decide +kernel
theorem dX0_takeService_19 : decode cX0_takeService 19 = .ok (.goto 4, 3) := by decide +kernel
theorem dX0_takeService_22 : decode cX0_takeService 22 = .ok (.iconst 0, 1) := by decide +kernel
theorem dX0_takeService_23 : decode cX0_takeService 23 = .ok (.istore_n 3, 1) := by decide +kernel
theorem dX0_takeService_24 : decode cX0_takeService 24 = .ok (.iload_n 3, 1) := by decide +kernel
theorem dX0_takeService_25 : decode cX0_takeService 25 = .ok (.ifCond .ne 19, 3) := by decide +kernel
theorem dX0_takeService_28 : decode cX0_takeService 28 = .ok (.aload_n 0, 1) := by decide +kernel
theorem dX0_takeService_29 : decode cX0_takeService 29 = .ok (.getfield 25, 3) := by decide +kernel
theorem dX0_takeService_32 : decode cX0_takeService 32 = .ok (.iconst (-1), 1) := by decide +kernel
theorem dX0_takeService_33 : decode cX0_takeService 33 = .ok (.if_icmp .ne 11, 3) := by decide +kernel
theorem dX0_takeService_36 : decode cX0_takeService 36 = .ok (.aload_n 0, 1) := by decide +kernel
theorem dX0_takeService_37 : decode cX0_takeService 37 = .ok (.aload_n 2, 1) := by decide +kernel
theorem dX0_takeService_38 : decode cX0_takeService 38 = .ok (.getfield 42, 3) := by decide +kernel
theorem dX0_takeService_41 : decode cX0_takeService 41 = .ok (.putfield 25, 3) := by decide +kernel
theorem dX0_takeService_44 : decode cX0_takeService 44 = .ok (.aload_n 0, 1) := by decide +kernel
theorem dX0_takeService_45 : decode cX0_takeService 45 = .ok (.getfield 12, 3) := by decide +kernel
theorem dX0_takeService_48 : decode cX0_takeService 48 = .ok (.iconst 0, 1) := by decide +kernel
theorem dX0_takeService_49 : decode cX0_takeService 49 = .ok (.putfield 45, 3) := by decide +kernel
theorem dX0_takeService_52 : decode cX0_takeService 52 = .ok (.aload_n 0, 1) := by decide +kernel
theorem dX0_takeService_53 : decode cX0_takeService 53 = .ok (.getfield 18, 3) := by decide +kernel
theorem dX0_takeService_56 : decode cX0_takeService 56 = .ok (.iconst 0, 1) := by decide +kernel
theorem dX0_takeService_57 : decode cX0_takeService 57 = .ok (.putfield 45, 3) := by decide +kernel
theorem dX0_takeService_60 : decode cX0_takeService 60 = .ok (.iload_n 3, 1) := by decide +kernel
theorem dX0_takeService_61 : decode cX0_takeService 61 = .ok (.ireturn, 1) := by decide +kernel
theorem dX0_givePoint_0 : decode cX0_givePoint 0 = .ok (.aload_n 0, 1) := by decide +kernel
theorem dX0_givePoint_1 : decode cX0_givePoint 1 = .ok (.iload_n 1, 1) := by decide +kernel
theorem dX0_givePoint_2 : decode cX0_givePoint 2 = .ok (.invokevirtual 34, 3) := by decide +kernel
theorem dX0_givePoint_5 : decode cX0_givePoint 5 = .ok (.astore_n 2, 1) := by decide +kernel
theorem dX0_givePoint_6 : decode cX0_givePoint 6 = .ok (.aload_n 2, 1) := by decide +kernel
theorem dX0_givePoint_7 : decode cX0_givePoint 7 = .ok (.dup, 1) := by decide +kernel
theorem dX0_givePoint_8 : decode cX0_givePoint 8 = .ok (.getfield 42, 3) := by decide +kernel
theorem dX0_givePoint_11 : decode cX0_givePoint 11 = .ok (.iconst 1, 1) := by decide +kernel
theorem dX0_givePoint_12 : decode cX0_givePoint 12 = .ok (.iadd, 1) := by decide +kernel
theorem dX0_givePoint_13 : decode cX0_givePoint 13 = .ok (.putfield 42, 3) := by decide +kernel
theorem dX0_givePoint_16 : decode cX0_givePoint 16 = .ok (.aload_n 0, 1) := by decide +kernel
theorem dX0_givePoint_17 : decode cX0_givePoint 17 = .ok (.getfield 21, 3) := by decide +kernel
theorem dX0_givePoint_20 : decode cX0_givePoint 20 = .ok (.iload_n 1, 1) := by decide +kernel
theorem dX0_givePoint_21 : decode cX0_givePoint 21 = .ok (.if_icmp .eq 17, 3) := by decide +kernel
theorem dX0_givePoint_24 : decode cX0_givePoint 24 = .ok (.aload_n 0, 1) := by decide +kernel
theorem dX0_givePoint_25 : decode cX0_givePoint 25 = .ok (.iload_n 1, 1) := by decide +kernel
theorem dX0_givePoint_26 : decode cX0_givePoint 26 = .ok (.putfield 21, 3) := by decide +kernel
theorem dX0_givePoint_29 : decode cX0_givePoint 29 = .ok (.aload_n 0, 1) := by decide +kernel
theorem dX0_givePoint_30 : decode cX0_givePoint 30 = .ok (.iconst (-1), 1) := by decide +kernel
theorem dX0_givePoint_31 : decode cX0_givePoint 31 = .ok (.putfield 25, 3) := by decide +kernel
theorem dX0_givePoint_34 : decode cX0_givePoint 34 = .ok (.aload_n 2, 1) := by decide +kernel
theorem dX0_givePoint_35 : decode cX0_givePoint 35 = .ok (.invokevirtual 49, 3) := by decide +kernel
theorem dX0_givePoint_38 : decode cX0_givePoint 38 = .ok (.return_, 1) := by decide +kernel
theorem dX0_takeBack_0 : decode cX0_takeBack 0 = .ok (.aload_n 0, 1) := by decide +kernel
theorem dX0_takeBack_1 : decode cX0_takeBack 1 = .ok (.aload_n 0, 1) := by decide +kernel
theorem dX0_takeBack_2 : decode cX0_takeBack 2 = .ok (.getfield 21, 3) := by decide +kernel
theorem dX0_takeBack_5 : decode cX0_takeBack 5 = .ok (.invokevirtual 34, 3) := by decide +kernel
theorem dX0_takeBack_8 : decode cX0_takeBack 8 = .ok (.astore_n 1, 1) := by decide +kernel
theorem dX0_takeBack_9 : decode cX0_takeBack 9 = .ok (.aload_n 1, 1) := by decide +kernel
theorem dX0_takeBack_10 : decode cX0_takeBack 10 = .ok (.getfield 42, 3) := by decide +kernel
theorem dX0_takeBack_13 : decode cX0_takeBack 13 = .ok (.aload_n 0, 1) := by decide +kernel
theorem dX0_takeBack_14 : decode cX0_takeBack 14 = .ok (.getfield 25, 3) := by decide +kernel
theorem dX0_takeBack_17 : decode cX0_takeBack 17 = .ok (.isub, 1) := by decide +kernel
theorem dX0_takeBack_18 : decode cX0_takeBack 18 = .ok (.istore_n 2, 1) := by decide +kernel
theorem dX0_takeBack_19 : decode cX0_takeBack 19 = .ok (.aload_n 1, 1) := by decide +kernel
theorem dX0_takeBack_20 : decode cX0_takeBack 20 = .ok (.aload_n 0, 1) := by decide +kernel
theorem dX0_takeBack_21 : decode cX0_takeBack 21 = .ok (.getfield 25, 3) := by decide +kernel
theorem dX0_takeBack_24 : decode cX0_takeBack 24 = .ok (.putfield 42, 3) := by decide +kernel
theorem dX0_takeBack_27 : decode cX0_takeBack 27 = .ok (.aload_n 0, 1) := by decide +kernel
theorem dX0_takeBack_28 : decode cX0_takeBack 28 = .ok (.iconst 1, 1) := by decide +kernel
theorem dX0_takeBack_29 : decode cX0_takeBack 29 = .ok (.aload_n 0, 1) := by decide +kernel
theorem dX0_takeBack_30 : decode cX0_takeBack 30 = .ok (.getfield 21, 3) := by decide +kernel
theorem dX0_takeBack_33 : decode cX0_takeBack 33 = .ok (.isub, 1) := by decide +kernel
theorem dX0_takeBack_34 : decode cX0_takeBack 34 = .ok (.invokevirtual 52, 3) := by decide +kernel
theorem dX0_takeBack_37 : decode cX0_takeBack 37 = .ok (.iload_n 2, 1) := by decide +kernel
theorem dX0_takeBack_38 : decode cX0_takeBack 38 = .ok (.ireturn, 1) := by decide +kernel
theorem dX0_hasWonSet_0 : decode cX0_hasWonSet 0 = .ok (.aload_n 0, 1) := by decide +kernel
theorem dX0_hasWonSet_1 : decode cX0_hasWonSet 1 = .ok (.invokevirtual 56, 3) := by decide +kernel
theorem dX0_hasWonSet_4 : decode cX0_hasWonSet 4 = .ok (.iconst 4, 1) := by decide +kernel
theorem dX0_hasWonSet_5 : decode cX0_hasWonSet 5 = .ok (.if_icmp .ne 8, 3) := by decide +kernel
theorem dX0_hasWonSet_8 : decode cX0_hasWonSet 8 = .ok (.bipush 15, 2) := by decide +kernel
theorem dX0_hasWonSet_10 : decode cX0_hasWonSet 10 = .ok (.goto 5, 3) := by decide +kernel
theorem dX0_hasWonSet_13 : decode cX0_hasWonSet 13 = .ok (.bipush 25, 2) := by decide +kernel
theorem dX0_hasWonSet_15 : decode cX0_hasWonSet 15 = .ok (.istore_n 2, 1) := by decide +kernel
theorem dX0_hasWonSet_16 : decode cX0_hasWonSet 16 = .ok (.aload_n 0, 1) := by decide +kernel
theorem dX0_hasWonSet_17 : decode cX0_hasWonSet 17 = .ok (.iload_n 1, 1) := by decide +kernel
theorem dX0_hasWonSet_18 : decode cX0_hasWonSet 18 = .ok (.invokevirtual 34, 3) := by decide +kernel
theorem dX0_hasWonSet_21 : decode cX0_hasWonSet 21 = .ok (.getfield 42, 3) := by decide +kernel
theorem dX0_hasWonSet_24 : decode cX0_hasWonSet 24 = .ok (.istore_n 3, 1) := by decide +kernel
theorem dX0_hasWonSet_25 : decode cX0_hasWonSet 25 = .ok (.iload_n 3, 1) := by decide +kernel
theorem dX0_hasWonSet_26 : decode cX0_hasWonSet 26 = .ok (.iload_n 2, 1) := by decide +kernel
theorem dX0_hasWonSet_27 : decode cX0_hasWonSet 27 = .ok (.if_icmp .lt 23, 3) := by decide +kernel
theorem dX0_hasWonSet_30 : decode cX0_hasWonSet 30 = .ok (.iload_n 3, 1) := by decide +kernel
theorem dX0_hasWonSet_31 : decode cX0_hasWonSet 31 = .ok (.aload_n 0, 1) := by decide +kernel
theorem dX0_hasWonSet_32 : decode cX0_hasWonSet 32 = .ok (.iconst 1, 1) := by decide +kernel
theorem dX0_hasWonSet_33 : decode cX0_hasWonSet 33 = .ok (.iload_n 1, 1) := by decide +kernel
theorem dX0_hasWonSet_34 : decode cX0_hasWonSet 34 = .ok (.isub, 1) := by decide +kernel
theorem dX0_hasWonSet_35 : decode cX0_hasWonSet 35 = .ok (.invokevirtual 34, 3) := by decide +kernel
theorem dX0_hasWonSet_38 : decode cX0_hasWonSet 38 = .ok (.getfield 42, 3) := by decide +kernel
theorem dX0_hasWonSet_41 : decode cX0_hasWonSet 41 = .ok (.iconst 2, 1) := by decide +kernel
theorem dX0_hasWonSet_42 : decode cX0_hasWonSet 42 = .ok (.iadd, 1) := by decide +kernel
theorem dX0_hasWonSet_43 : decode cX0_hasWonSet 43 = .ok (.if_icmp .lt 7, 3) := by decide +kernel
theorem dX0_hasWonSet_46 : decode cX0_hasWonSet 46 = .ok (.iconst 1, 1) := by decide +kernel
theorem dX0_hasWonSet_47 : decode cX0_hasWonSet 47 = .ok (.goto 4, 3) := by decide +kernel
theorem dX0_hasWonSet_50 : decode cX0_hasWonSet 50 = .ok (.iconst 0, 1) := by decide +kernel
theorem dX0_hasWonSet_51 : decode cX0_hasWonSet 51 = .ok (.ireturn, 1) := by decide +kernel
theorem dX0_endSet_0 : decode cX0_endSet 0 = .ok (.aload_n 0, 1) := by decide +kernel
theorem dX0_endSet_1 : decode cX0_endSet 1 = .ok (.iload_n 1, 1) := by decide +kernel
theorem dX0_endSet_2 : decode cX0_endSet 2 = .ok (.invokevirtual 34, 3) := by decide +kernel
theorem dX0_endSet_5 : decode cX0_endSet 5 = .ok (.dup, 1) := by decide +kernel
theorem dX0_endSet_6 : decode cX0_endSet 6 = .ok (.getfield 28, 3) := by decide +kernel
theorem dX0_endSet_9 : decode cX0_endSet 9 = .ok (.iconst 1, 1) := by decide +kernel
theorem dX0_endSet_10 : decode cX0_endSet 10 = .ok (.iadd, 1) := by decide +kernel
theorem dX0_endSet_11 : decode cX0_endSet 11 = .ok (.putfield 28, 3) := by decide +kernel
theorem dX0_endSet_14 : decode cX0_endSet 14 = .ok (.aload_n 0, 1) := by decide +kernel
theorem dX0_endSet_15 : decode cX0_endSet 15 = .ok (.getfield 12, 3) := by decide +kernel
theorem dX0_endSet_18 : decode cX0_endSet 18 = .ok (.invokevirtual 60, 3) := by decide +kernel
theorem dX0_endSet_21 : decode cX0_endSet 21 = .ok (.aload_n 0, 1) := by decide +kernel
theorem dX0_endSet_22 : decode cX0_endSet 22 = .ok (.getfield 18, 3) := by decide +kernel
theorem dX0_endSet_25 : decode cX0_endSet 25 = .ok (.invokevirtual 60, 3) := by decide +kernel
theorem dX0_endSet_28 : decode cX0_endSet 28 = .ok (.aload_n 0, 1) := by decide +kernel
theorem dX0_endSet_29 : decode cX0_endSet 29 = .ok (.iconst (-1), 1) := by decide +kernel
theorem dX0_endSet_30 : decode cX0_endSet 30 = .ok (.putfield 21, 3) := by decide +kernel
theorem dX0_endSet_33 : decode cX0_endSet 33 = .ok (.aload_n 0, 1) := by decide +kernel
theorem dX0_endSet_34 : decode cX0_endSet 34 = .ok (.iconst (-1), 1) := by decide +kernel
theorem dX0_endSet_35 : decode cX0_endSet 35 = .ok (.putfield 25, 3) := by decide +kernel
theorem dX0_endSet_38 : decode cX0_endSet 38 = .ok (.return_, 1) := by decide +kernel
theorem dX0_copyFrom_0 : decode cX0_copyFrom 0 = .ok (.aload_n 0, 1) := by decide +kernel
theorem dX0_copyFrom_1 : decode cX0_copyFrom 1 = .ok (.getfield 12, 3) := by decide +kernel
theorem dX0_copyFrom_4 : decode cX0_copyFrom 4 = .ok (.aload_n 1, 1) := by decide +kernel
theorem dX0_copyFrom_5 : decode cX0_copyFrom 5 = .ok (.getfield 12, 3) := by decide +kernel
theorem dX0_copyFrom_8 : decode cX0_copyFrom 8 = .ok (.invokevirtual 63, 3) := by decide +kernel
theorem dX0_copyFrom_11 : decode cX0_copyFrom 11 = .ok (.aload_n 0, 1) := by decide +kernel
theorem dX0_copyFrom_12 : decode cX0_copyFrom 12 = .ok (.getfield 18, 3) := by decide +kernel
theorem dX0_copyFrom_15 : decode cX0_copyFrom 15 = .ok (.aload_n 1, 1) := by decide +kernel
theorem dX0_copyFrom_16 : decode cX0_copyFrom 16 = .ok (.getfield 18, 3) := by decide +kernel
theorem dX0_copyFrom_19 : decode cX0_copyFrom 19 = .ok (.invokevirtual 63, 3) := by decide +kernel
theorem dX0_copyFrom_22 : decode cX0_copyFrom 22 = .ok (.aload_n 0, 1) := by decide +kernel
theorem dX0_copyFrom_23 : decode cX0_copyFrom 23 = .ok (.aload_n 1, 1) := by decide +kernel
theorem dX0_copyFrom_24 : decode cX0_copyFrom 24 = .ok (.getfield 21, 3) := by decide +kernel
theorem dX0_copyFrom_27 : decode cX0_copyFrom 27 = .ok (.putfield 21, 3) := by decide +kernel
theorem dX0_copyFrom_30 : decode cX0_copyFrom 30 = .ok (.aload_n 0, 1) := by decide +kernel
theorem dX0_copyFrom_31 : decode cX0_copyFrom 31 = .ok (.aload_n 1, 1) := by decide +kernel
theorem dX0_copyFrom_32 : decode cX0_copyFrom 32 = .ok (.getfield 25, 3) := by decide +kernel
theorem dX0_copyFrom_35 : decode cX0_copyFrom 35 = .ok (.putfield 25, 3) := by decide +kernel
theorem dX0_copyFrom_38 : decode cX0_copyFrom 38 = .ok (.return_, 1) := by decide +kernel
theorem dX1_init_0 : decode cX1_init 0 = .ok (.aload_n 0, 1) := by decide +kernel
theorem dX1_init_1 : decode cX1_init 1 = .ok (.invokespecial 3, 3) := by decide +kernel
theorem dX1_init_4 : decode cX1_init 4 = .ok (.return_, 1) := by decide +kernel
theorem dX1_start_0 : decode cX1_start 0 = .ok (.aload_n 0, 1) := by decide +kernel
theorem dX1_start_1 : decode cX1_start 1 = .ok (.iconst 1, 1) := by decide +kernel
theorem dX1_start_2 : decode cX1_start 2 = .ok (.putfield 9, 3) := by decide +kernel
theorem dX1_start_5 : decode cX1_start 5 = .ok (.aload_n 0, 1) := by decide +kernel
theorem dX1_start_6 : decode cX1_start 6 = .ok (.iload_n 1, 1) := by decide +kernel
theorem dX1_start_7 : decode cX1_start 7 = .ok (.putfield 15, 3) := by decide +kernel
theorem dX1_start_10 : decode cX1_start 10 = .ok (.aload_n 0, 1) := by decide +kernel
theorem dX1_start_11 : decode cX1_start 11 = .ok (.iload_n 2, 1) := by decide +kernel
theorem dX1_start_12 : decode cX1_start 12 = .ok (.putfield 19, 3) := by decide +kernel
theorem dX1_start_15 : decode cX1_start 15 = .ok (.aload_n 0, 1) := by decide +kernel
theorem dX1_start_16 : decode cX1_start 16 = .ok (.iconst (-1), 1) := by decide +kernel
theorem dX1_start_17 : decode cX1_start 17 = .ok (.putfield 22, 3) := by decide +kernel
theorem dX1_start_20 : decode cX1_start 20 = .ok (.aload_n 0, 1) := by decide +kernel
theorem dX1_start_21 : decode cX1_start 21 = .ok (.iconst 0, 1) := by decide +kernel
theorem dX1_start_22 : decode cX1_start 22 = .ok (.putfield 25, 3) := by decide +kernel
theorem dX1_start_25 : decode cX1_start 25 = .ok (.aload_n 0, 1) := by decide +kernel
theorem dX1_start_26 : decode cX1_start 26 = .ok (.iconst 0, 1) := by decide +kernel
theorem dX1_start_27 : decode cX1_start 27 = .ok (.putfield 28, 3) := by decide +kernel
theorem dX1_start_30 : decode cX1_start 30 = .ok (.aload_n 0, 1) := by decide +kernel
theorem dX1_start_31 : decode cX1_start 31 = .ok (.iconst 0, 1) := by decide +kernel
theorem dX1_start_32 : decode cX1_start 32 = .ok (.putfield 31, 3) := by decide +kernel
theorem dX1_start_35 : decode cX1_start 35 = .ok (.return_, 1) := by decide +kernel
theorem dX1_faultOf_0 : decode cX1_faultOf 0 = .ok (.aload_n 0, 1) := by decide +kernel
theorem dX1_faultOf_1 : decode cX1_faultOf 1 = .ok (.getfield 15, 3) := by decide +kernel
theorem dX1_faultOf_4 : decode cX1_faultOf 4 = .ok (.iload_n 1, 1) := by decide +kernel
theorem dX1_faultOf_5 : decode cX1_faultOf 5 = .ok (.if_icmp .eq 5, 3) := by decide +kernel
theorem dX1_faultOf_8 : decode cX1_faultOf 8 = .ok (.iconst 0, 1) := by decide +kernel
theorem dX1_faultOf_9 : decode cX1_faultOf 9 = .ok (.ireturn, 1) := by decide +kernel
theorem dX1_faultOf_10 : decode cX1_faultOf 10 = .ok (.aload_n 0, 1) := by decide +kernel
theorem dX1_faultOf_11 : decode cX1_faultOf 11 = .ok (.getfield 22, 3) := by decide +kernel
theorem dX1_faultOf_14 : decode cX1_faultOf 14 = .ok (.iconst (-1), 1) := by decide +kernel
theorem dX1_faultOf_15 : decode cX1_faultOf 15 = .ok (.if_icmp .ne 5, 3) := by decide +kernel
theorem dX1_faultOf_18 : decode cX1_faultOf 18 = .ok (.iconst 1, 1) := by decide +kernel
theorem dX1_faultOf_19 : decode cX1_faultOf 19 = .ok (.ireturn, 1) := by decide +kernel
theorem dX1_faultOf_20 : decode cX1_faultOf 20 = .ok (.aload_n 0, 1) := by decide +kernel
theorem dX1_faultOf_21 : decode cX1_faultOf 21 = .ok (.getfield 19, 3) := by decide +kernel
theorem dX1_faultOf_24 : decode cX1_faultOf 24 = .ok (.iload_n 2, 1) := by decide +kernel
theorem dX1_faultOf_25 : decode cX1_faultOf 25 = .ok (.if_icmp .ne 13, 3) := by decide +kernel
theorem dX1_faultOf_28 : decode cX1_faultOf 28 = .ok (.aload_n 0, 1) := by decide +kernel
theorem dX1_faultOf_29 : decode cX1_faultOf 29 = .ok (.getfield 22, 3) := by decide +kernel
theorem dX1_faultOf_32 : decode cX1_faultOf 32 = .ok (.iconst 2, 1) := by decide +kernel
theorem dX1_faultOf_33 : decode cX1_faultOf 33 = .ok (.if_icmp .eq 5, 3) := by decide +kernel
theorem dX1_faultOf_36 : decode cX1_faultOf 36 = .ok (.iconst 2, 1) := by decide +kernel
theorem dX1_faultOf_37 : decode cX1_faultOf 37 = .ok (.ireturn, 1) := by decide +kernel
theorem dX1_faultOf_38 : decode cX1_faultOf 38 = .ok (.aload_n 0, 1) := by decide +kernel
theorem dX1_faultOf_39 : decode cX1_faultOf 39 = .ok (.getfield 25, 3) := by decide +kernel
theorem dX1_faultOf_42 : decode cX1_faultOf 42 = .ok (.iconst 3, 1) := by decide +kernel
theorem dX1_faultOf_43 : decode cX1_faultOf 43 = .ok (.if_icmp .ne 12, 3) := by decide +kernel
theorem dX1_faultOf_46 : decode cX1_faultOf 46 = .ok (.iload_n 3, 1) := by decide +kernel
theorem dX1_faultOf_47 : decode cX1_faultOf 47 = .ok (.iconst 2, 1) := by decide +kernel
theorem dX1_faultOf_48 : decode cX1_faultOf 48 = .ok (.if_icmp .eq 7, 3) := by decide +kernel
theorem dX1_faultOf_51 : decode cX1_faultOf 51 = .ok (.iconst 3, 1) := by decide +kernel
theorem dX1_faultOf_52 : decode cX1_faultOf 52 = .ok (.goto 4, 3) := by decide +kernel
theorem dX1_faultOf_55 : decode cX1_faultOf 55 = .ok (.iconst 0, 1) := by decide +kernel
theorem dX1_faultOf_56 : decode cX1_faultOf 56 = .ok (.ireturn, 1) := by decide +kernel
theorem dX1_note_0 : decode cX1_note 0 = .ok (.aload_n 0, 1) := by decide +kernel
theorem dX1_note_1 : decode cX1_note 1 = .ok (.getfield 15, 3) := by decide +kernel
theorem dX1_note_4 : decode cX1_note 4 = .ok (.iload_n 1, 1) := by decide +kernel
theorem dX1_note_5 : decode cX1_note 5 = .ok (.if_icmp .ne 10, 3) := by decide +kernel
theorem dX1_note_8 : decode cX1_note 8 = .ok (.aload_n 0, 1) := by decide +kernel
theorem dX1_note_9 : decode cX1_note 9 = .ok (.getfield 25, 3) := by decide +kernel
theorem dX1_note_12 : decode cX1_note 12 = .ok (.goto 4, 3) := by decide +kernel
theorem dX1_note_15 : decode cX1_note 15 = .ok (.iconst 0, 1) := by decide +kernel
theorem dX1_note_16 : decode cX1_note 16 = .ok (.istore 4, 2) := by decide +kernel
theorem dX1_note_18 : decode cX1_note 18 = .ok (.aload_n 0, 1) := by decide +kernel
theorem dX1_note_19 : decode cX1_note 19 = .ok (.iload_n 3, 1) := by decide +kernel
theorem dX1_note_20 : decode cX1_note 20 = .ok (.iconst 2, 1) := by decide +kernel
theorem dX1_note_21 : decode cX1_note 21 = .ok (.if_icmp .ne 7, 3) := by decide +kernel
theorem dX1_note_24 : decode cX1_note 24 = .ok (.iconst 0, 1) := by decide +kernel
theorem dX1_note_25 : decode cX1_note 25 = .ok (.goto 7, 3) := by decide +kernel
theorem dX1_note_28 : decode cX1_note 28 = .ok (.iload 4, 2) := by decide +kernel
theorem dX1_note_30 : decode cX1_note 30 = .ok (.iconst 1, 1) := by decide +kernel
theorem dX1_note_31 : decode cX1_note 31 = .ok (.iadd, 1) := by decide +kernel
theorem dX1_note_32 : decode cX1_note 32 = .ok (.putfield 25, 3) := by decide +kernel
theorem dX1_note_35 : decode cX1_note 35 = .ok (.aload_n 0, 1) := by decide +kernel
theorem dX1_note_36 : decode cX1_note 36 = .ok (.iload_n 1, 1) := by decide +kernel
theorem dX1_note_37 : decode cX1_note 37 = .ok (.putfield 15, 3) := by decide +kernel
theorem dX1_note_40 : decode cX1_note 40 = .ok (.aload_n 0, 1) := by decide +kernel
theorem dX1_note_41 : decode cX1_note 41 = .ok (.iload_n 2, 1) := by decide +kernel
theorem dX1_note_42 : decode cX1_note 42 = .ok (.putfield 19, 3) := by decide +kernel
theorem dX1_note_45 : decode cX1_note 45 = .ok (.aload_n 0, 1) := by decide +kernel
theorem dX1_note_46 : decode cX1_note 46 = .ok (.iload_n 3, 1) := by decide +kernel
theorem dX1_note_47 : decode cX1_note 47 = .ok (.putfield 22, 3) := by decide +kernel
theorem dX1_note_50 : decode cX1_note 50 = .ok (.return_, 1) := by decide +kernel
theorem dX1_noteNet_0 : decode cX1_noteNet 0 = .ok (.iload_n 1, 1) := by decide +kernel
theorem dX1_noteNet_1 : decode cX1_noteNet 1 = .ok (.iconst 1, 1) := by decide +kernel
theorem dX1_noteNet_2 : decode cX1_noteNet 2 = .ok (.if_icmp .ne 11, 3) := by decide +kernel
theorem dX1_noteNet_5 : decode cX1_noteNet 5 = .ok (.aload_n 0, 1) := by decide +kernel
theorem dX1_noteNet_6 : decode cX1_noteNet 6 = .ok (.iconst 1, 1) := by decide +kernel
theorem dX1_noteNet_7 : decode cX1_noteNet 7 = .ok (.putfield 31, 3) := by decide +kernel
theorem dX1_noteNet_10 : decode cX1_noteNet 10 = .ok (.goto 8, 3) := by decide +kernel
theorem dX1_noteNet_13 : decode cX1_noteNet 13 = .ok (.aload_n 0, 1) := by decide +kernel
theorem dX1_noteNet_14 : decode cX1_noteNet 14 = .ok (.iconst 1, 1) := by decide +kernel
theorem dX1_noteNet_15 : decode cX1_noteNet 15 = .ok (.putfield 28, 3) := by decide +kernel
theorem dX1_noteNet_18 : decode cX1_noteNet 18 = .ok (.return_, 1) := by decide +kernel
theorem dX1_isNetNotedOf_0 : decode cX1_isNetNotedOf 0 = .ok (.iload_n 1, 1) := by decide +kernel
theorem dX1_isNetNotedOf_1 : decode cX1_isNetNotedOf 1 = .ok (.iconst 1, 1) := by decide +kernel
theorem dX1_isNetNotedOf_2 : decode cX1_isNetNotedOf 2 = .ok (.if_icmp .ne 10, 3) := by decide +kernel
theorem dX1_isNetNotedOf_5 : decode cX1_isNetNotedOf 5 = .ok (.aload_n 0, 1) := by decide +kernel
theorem dX1_isNetNotedOf_6 : decode cX1_isNetNotedOf 6 = .ok (.getfield 31, 3) := by decide +kernel
theorem dX1_isNetNotedOf_9 : decode cX1_isNetNotedOf 9 = .ok (.goto 7, 3) := by decide +kernel
theorem dX1_isNetNotedOf_12 : decode cX1_isNetNotedOf 12 = .ok (.aload_n 0, 1) := by decide +kernel
theorem dX1_isNetNotedOf_13 : decode cX1_isNetNotedOf 13 = .ok (.getfield 28, 3) := by decide +kernel
theorem dX1_isNetNotedOf_16 : decode cX1_isNetNotedOf 16 = .ok (.ireturn, 1) := by decide +kernel
theorem dX2_init_0 : decode cX2_init 0 = .ok (.aload_n 0, 1) := by decide +kernel
theorem dX2_init_1 : decode cX2_init 1 = .ok (.invokespecial 3, 3) := by decide +kernel
theorem dX2_init_4 : decode cX2_init 4 = .ok (.aload_n 0, 1) := by decide +kernel
theorem dX2_init_5 : decode cX2_init 5 = .ok (.new 9, 3) := by decide +kernel
theorem dX2_init_8 : decode cX2_init 8 = .ok (.dup, 1) := by decide +kernel
theorem dX2_init_9 : decode cX2_init 9 = .ok (.invokespecial 11, 3) := by decide +kernel
theorem dX2_init_12 : decode cX2_init 12 = .ok (.putfield 12, 3) := by decide +kernel
theorem dX2_init_15 : decode cX2_init 15 = .ok (.aload_n 0, 1) := by decide +kernel
theorem dX2_init_16 : decode cX2_init 16 = .ok (.bipush 6, 2) := by decide +kernel
theorem dX2_init_18 : decode cX2_init 18 = .ok (.newarray .int, 2) := by decide +kernel
theorem dX2_init_20 : decode cX2_init 20 = .ok (.putfield 18, 3) := by decide +kernel
theorem dX2_init_23 : decode cX2_init 23 = .ok (.aload_n 0, 1) := by decide +kernel
theorem dX2_init_24 : decode cX2_init 24 = .ok (.bipush 6, 2) := by decide +kernel
theorem dX2_init_26 : decode cX2_init 26 = .ok (.newarray .int, 2) := by decide +kernel
theorem dX2_init_28 : decode cX2_init 28 = .ok (.putfield 22, 3) := by decide +kernel
theorem dX2_init_31 : decode cX2_init 31 = .ok (.return_, 1) := by decide +kernel
theorem dX2_read_0 : decode cX2_read 0 = .ok (.aload_n 0, 1) := by decide +kernel
theorem dX2_read_1 : decode cX2_read 1 = .ok (.invokevirtual 25, 3) := by decide +kernel
theorem dX2_read_4 : decode cX2_read 4 = .ok (.iconst 0, 1) := by decide +kernel
theorem dX2_read_5 : decode cX2_read 5 = .ok (.istore_n 2, 1) := by decide +kernel
theorem dX2_read_6 : decode cX2_read 6 = .ok (.iload_n 2, 1) := by decide +kernel
theorem dX2_read_7 : decode cX2_read 7 = .ok (.aload_n 1, 1) := by decide +kernel
theorem dX2_read_8 : decode cX2_read 8 = .ok (.getfield 28, 3) := by decide +kernel
theorem dX2_read_11 : decode cX2_read 11 = .ok (.if_icmp .ge 35, 3) := by decide +kernel
theorem dX2_read_14 : decode cX2_read 14 = .ok (.aload_n 1, 1) := by decide +kernel
theorem dX2_read_15 : decode cX2_read 15 = .ok (.iload_n 2, 1) := by decide +kernel
theorem dX2_read_16 : decode cX2_read 16 = .ok (.invokevirtual 34, 3) := by decide +kernel
theorem dX2_read_19 : decode cX2_read 19 = .ok (.istore_n 3, 1) := by decide +kernel
theorem dX2_read_20 : decode cX2_read 20 = .ok (.aload_n 0, 1) := by decide +kernel
theorem dX2_read_21 : decode cX2_read 21 = .ok (.iload_n 3, 1) := by decide +kernel
theorem dX2_read_22 : decode cX2_read 22 = .ok (.invokestatic 38, 3) := by decide +kernel
theorem dX2_read_25 : decode cX2_read 25 = .ok (.iload_n 3, 1) := by decide +kernel
theorem dX2_read_26 : decode cX2_read 26 = .ok (.invokestatic 41, 3) := by decide +kernel
theorem dX2_read_29 : decode cX2_read 29 = .ok (.iload_n 3, 1) := by decide +kernel
theorem dX2_read_30 : decode cX2_read 30 = .ok (.invokestatic 44, 3) := by decide +kernel
theorem dX2_read_33 : decode cX2_read 33 = .ok (.iload_n 3, 1) := by decide +kernel
theorem dX2_read_34 : decode cX2_read 34 = .ok (.invokestatic 47, 3) := by decide +kernel
theorem dX2_read_37 : decode cX2_read 37 = .ok (.invokevirtual 50, 3) := by decide +kernel
theorem dX2_read_40 : decode cX2_read 40 = .ok (.iinc 2 1, 3) := by decide +kernel
theorem dX2_read_43 : decode cX2_read 43 = .ok (.goto (-37), 3) := by decide +kernel
theorem dX2_read_46 : decode cX2_read 46 = .ok (.return_, 1) := by decide +kernel
theorem dX2_lostBy_0 : decode cX2_lostBy 0 = .ok (.aload_n 0, 1) := by decide +kernel
theorem dX2_lostBy_1 : decode cX2_lostBy 1 = .ok (.iload_n 1, 1) := by decide +kernel
theorem dX2_lostBy_2 : decode cX2_lostBy 2 = .ok (.invokevirtual 54, 3) := by decide +kernel
theorem dX2_lostBy_5 : decode cX2_lostBy 5 = .ok (.iload_n 2, 1) := by decide +kernel
theorem dX2_lostBy_6 : decode cX2_lostBy 6 = .ok (.invokestatic 58, 3) := by decide +kernel
theorem dX2_lostBy_9 : decode cX2_lostBy 9 = .ok (.ireturn, 1) := by decide +kernel
theorem dX2_rowOf_0 : decode cX2_rowOf 0 = .ok (.iload_n 1, 1) := by decide +kernel
theorem dX2_rowOf_1 : decode cX2_rowOf 1 = .ok (.iconst 1, 1) := by decide +kernel
theorem dX2_rowOf_2 : decode cX2_rowOf 2 = .ok (.if_icmp .ne 10, 3) := by decide +kernel
theorem dX2_rowOf_5 : decode cX2_rowOf 5 = .ok (.aload_n 0, 1) := by decide +kernel
theorem dX2_rowOf_6 : decode cX2_rowOf 6 = .ok (.getfield 22, 3) := by decide +kernel
theorem dX2_rowOf_9 : decode cX2_rowOf 9 = .ok (.goto 7, 3) := by decide +kernel
theorem dX2_rowOf_12 : decode cX2_rowOf 12 = .ok (.aload_n 0, 1) := by decide +kernel
theorem dX2_rowOf_13 : decode cX2_rowOf 13 = .ok (.getfield 18, 3) := by decide +kernel
theorem dX2_rowOf_16 : decode cX2_rowOf 16 = .ok (.areturn, 1) := by decide +kernel
theorem dX2_clear_0 : decode cX2_clear 0 = .ok (.aload_n 0, 1) := by decide +kernel
theorem dX2_clear_1 : decode cX2_clear 1 = .ok (.getfield 12, 3) := by decide +kernel
theorem dX2_clear_4 : decode cX2_clear 4 = .ok (.getfield 62, 3) := by decide +kernel
theorem dX2_clear_7 : decode cX2_clear 7 = .ok (.invokevirtual 66, 3) := by decide +kernel
theorem dX2_clear_10 : decode cX2_clear 10 = .ok (.aload_n 0, 1) := by decide +kernel
theorem dX2_clear_11 : decode cX2_clear 11 = .ok (.getfield 12, 3) := by decide +kernel
theorem dX2_clear_14 : decode cX2_clear 14 = .ok (.getfield 71, 3) := by decide +kernel
theorem dX2_clear_17 : decode cX2_clear 17 = .ok (.invokevirtual 66, 3) := by decide +kernel
theorem dX2_clear_20 : decode cX2_clear 20 = .ok (.iconst 0, 1) := by decide +kernel
theorem dX2_clear_21 : decode cX2_clear 21 = .ok (.istore_n 1, 1) := by decide +kernel
theorem dX2_clear_22 : decode cX2_clear 22 = .ok (.iload_n 1, 1) := by decide +kernel
theorem dX2_clear_23 : decode cX2_clear 23 = .ok (.bipush 6, 2) := by decide +kernel
theorem dX2_clear_25 : decode cX2_clear 25 = .ok (.if_icmp .ge 27, 3) := by decide +kernel
theorem dX2_clear_28 : decode cX2_clear 28 = .ok (.aload_n 0, 1) := by decide +kernel
theorem dX2_clear_29 : decode cX2_clear 29 = .ok (.getfield 18, 3) := by decide +kernel
theorem dX2_clear_32 : decode cX2_clear 32 = .ok (.iload_n 1, 1) := by decide +kernel
theorem dX2_clear_33 : decode cX2_clear 33 = .ok (.iconst 0, 1) := by decide +kernel
theorem dX2_clear_34 : decode cX2_clear 34 = .ok (.invokestatic 74, 3) := by decide +kernel
theorem dX2_clear_37 : decode cX2_clear 37 = .ok (.aload_n 0, 1) := by decide +kernel
theorem dX2_clear_38 : decode cX2_clear 38 = .ok (.getfield 22, 3) := by decide +kernel
theorem dX2_clear_41 : decode cX2_clear 41 = .ok (.iload_n 1, 1) := by decide +kernel
theorem dX2_clear_42 : decode cX2_clear 42 = .ok (.iconst 0, 1) := by decide +kernel
theorem dX2_clear_43 : decode cX2_clear 43 = .ok (.invokestatic 74, 3) := by decide +kernel
theorem dX2_clear_46 : decode cX2_clear 46 = .ok (.iinc 1 1, 3) := by decide +kernel
theorem dX2_clear_49 : decode cX2_clear 49 = .ok (.goto (-27), 3) := by decide +kernel
theorem dX2_clear_52 : decode cX2_clear 52 = .ok (.return_, 1) := by decide +kernel
theorem dX2_follow_0 : decode cX2_follow 0 = .ok (.aload_n 0, 1) := by decide +kernel
theorem dX2_follow_1 : decode cX2_follow 1 = .ok (.getfield 12, 3) := by decide +kernel
theorem dX2_follow_4 : decode cX2_follow 4 = .ok (.iload_n 2, 1) := by decide +kernel
theorem dX2_follow_5 : decode cX2_follow 5 = .ok (.invokevirtual 78, 3) := by decide +kernel
theorem dX2_follow_8 : decode cX2_follow 8 = .ok (.astore 5, 2) := by decide +kernel
theorem dX2_follow_10 : decode cX2_follow 10 = .ok (.iload_n 1, 1) := by decide +kernel
theorem dX2_follow_11 : decode cX2_follow 11 = .ok (.tableswitch 137 0 7 #[45, 56, 65, 76, 88, 106, 117, 126], 45) := by decide +kernel
theorem dX2_follow_56 : decode cX2_follow 56 = .ok (.aload 5, 2) := by decide +kernel
theorem dX2_follow_58 : decode cX2_follow 58 = .ok (.iload_n 3, 1) := by decide +kernel
theorem dX2_follow_59 : decode cX2_follow 59 = .ok (.iload 4, 2) := by decide +kernel
theorem dX2_follow_61 : decode cX2_follow 61 = .ok (.invokevirtual 82, 3) := by decide +kernel
theorem dX2_follow_64 : decode cX2_follow 64 = .ok (.goto 84, 3) := by decide +kernel
theorem dX2_follow_67 : decode cX2_follow 67 = .ok (.aload 5, 2) := by decide +kernel
theorem dX2_follow_69 : decode cX2_follow 69 = .ok (.iload_n 3, 1) := by decide +kernel
theorem dX2_follow_70 : decode cX2_follow 70 = .ok (.putfield 86, 3) := by decide +kernel
theorem dX2_follow_73 : decode cX2_follow 73 = .ok (.goto 75, 3) := by decide +kernel
theorem dX2_follow_76 : decode cX2_follow 76 = .ok (.aload_n 0, 1) := by decide +kernel
theorem dX2_follow_77 : decode cX2_follow 77 = .ok (.getfield 12, 3) := by decide +kernel
theorem dX2_follow_80 : decode cX2_follow 80 = .ok (.iload_n 2, 1) := by decide +kernel
theorem dX2_follow_81 : decode cX2_follow 81 = .ok (.invokevirtual 89, 3) := by decide +kernel
theorem dX2_follow_84 : decode cX2_follow 84 = .ok (.goto 64, 3) := by decide +kernel
theorem dX2_follow_87 : decode cX2_follow 87 = .ok (.aload_n 0, 1) := by decide +kernel
theorem dX2_follow_88 : decode cX2_follow 88 = .ok (.getfield 12, 3) := by decide +kernel
theorem dX2_follow_91 : decode cX2_follow 91 = .ok (.iload_n 3, 1) := by decide +kernel
theorem dX2_follow_92 : decode cX2_follow 92 = .ok (.invokevirtual 93, 3) := by decide +kernel
theorem dX2_follow_95 : decode cX2_follow 95 = .ok (.pop, 1) := by decide +kernel
theorem dX2_follow_96 : decode cX2_follow 96 = .ok (.goto 52, 3) := by decide +kernel
theorem dX2_follow_99 : decode cX2_follow 99 = .ok (.aload_n 0, 1) := by decide +kernel
theorem dX2_follow_100 : decode cX2_follow 100 = .ok (.iconst 1, 1) := by decide +kernel
theorem dX2_follow_101 : decode cX2_follow 101 = .ok (.iload_n 2, 1) := by decide +kernel
theorem dX2_follow_102 : decode cX2_follow 102 = .ok (.isub, 1) := by decide +kernel
theorem dX2_follow_103 : decode cX2_follow 103 = .ok (.invokevirtual 97, 3) := by decide +kernel
theorem dX2_follow_106 : decode cX2_follow 106 = .ok (.aload_n 0, 1) := by decide +kernel
theorem dX2_follow_107 : decode cX2_follow 107 = .ok (.getfield 12, 3) := by decide +kernel
theorem dX2_follow_110 : decode cX2_follow 110 = .ok (.iload_n 2, 1) := by decide +kernel
theorem dX2_follow_111 : decode cX2_follow 111 = .ok (.invokevirtual 100, 3) := by decide +kernel
theorem dX2_follow_114 : decode cX2_follow 114 = .ok (.goto 34, 3) := by decide +kernel
theorem dX2_follow_117 : decode cX2_follow 117 = .ok (.aload_n 0, 1) := by decide +kernel
theorem dX2_follow_118 : decode cX2_follow 118 = .ok (.getfield 12, 3) := by decide +kernel
theorem dX2_follow_121 : decode cX2_follow 121 = .ok (.invokevirtual 103, 3) := by decide +kernel
theorem dX2_follow_124 : decode cX2_follow 124 = .ok (.pop, 1) := by decide +kernel
theorem dX2_follow_125 : decode cX2_follow 125 = .ok (.goto 23, 3) := by decide +kernel
theorem dX2_follow_128 : decode cX2_follow 128 = .ok (.aload 5, 2) := by decide +kernel
theorem dX2_follow_130 : decode cX2_follow 130 = .ok (.iload_n 3, 1) := by decide +kernel
theorem dX2_follow_131 : decode cX2_follow 131 = .ok (.invokevirtual 107, 3) := by decide +kernel
theorem dX2_follow_134 : decode cX2_follow 134 = .ok (.goto 14, 3) := by decide +kernel
theorem dX2_follow_137 : decode cX2_follow 137 = .ok (.aload 5, 2) := by decide +kernel
theorem dX2_follow_139 : decode cX2_follow 139 = .ok (.iload_n 3, 1) := by decide +kernel
theorem dX2_follow_140 : decode cX2_follow 140 = .ok (.iload 4, 2) := by decide +kernel
theorem dX2_follow_142 : decode cX2_follow 142 = .ok (.invokevirtual 110, 3) := by decide +kernel
theorem dX2_follow_145 : decode cX2_follow 145 = .ok (.goto 3, 3) := by decide +kernel
theorem dX2_follow_148 : decode cX2_follow 148 = .ok (.return_, 1) := by decide +kernel
theorem dX2_countLost_0 : decode cX2_countLost 0 = .ok (.aload_n 0, 1) := by decide +kernel
theorem dX2_countLost_1 : decode cX2_countLost 1 = .ok (.getfield 12, 3) := by decide +kernel
theorem dX2_countLost_4 : decode cX2_countLost 4 = .ok (.iload_n 1, 1) := by decide +kernel
theorem dX2_countLost_5 : decode cX2_countLost 5 = .ok (.invokevirtual 78, 3) := by decide +kernel
theorem dX2_countLost_8 : decode cX2_countLost 8 = .ok (.getfield 113, 3) := by decide +kernel
theorem dX2_countLost_11 : decode cX2_countLost 11 = .ok (.bipush 6, 2) := by decide +kernel
theorem dX2_countLost_13 : decode cX2_countLost 13 = .ok (.irem, 1) := by decide +kernel
theorem dX2_countLost_14 : decode cX2_countLost 14 = .ok (.istore_n 2, 1) := by decide +kernel
theorem dX2_countLost_15 : decode cX2_countLost 15 = .ok (.aload_n 0, 1) := by decide +kernel
theorem dX2_countLost_16 : decode cX2_countLost 16 = .ok (.iload_n 1, 1) := by decide +kernel
theorem dX2_countLost_17 : decode cX2_countLost 17 = .ok (.invokevirtual 54, 3) := by decide +kernel
theorem dX2_countLost_20 : decode cX2_countLost 20 = .ok (.iload_n 2, 1) := by decide +kernel
theorem dX2_countLost_21 : decode cX2_countLost 21 = .ok (.aload_n 0, 1) := by decide +kernel
theorem dX2_countLost_22 : decode cX2_countLost 22 = .ok (.iload_n 1, 1) := by decide +kernel
theorem dX2_countLost_23 : decode cX2_countLost 23 = .ok (.iload_n 2, 1) := by decide +kernel
theorem dX2_countLost_24 : decode cX2_countLost 24 = .ok (.invokevirtual 116, 3) := by decide +kernel
theorem dX2_countLost_27 : decode cX2_countLost 27 = .ok (.iconst 1, 1) := by decide +kernel
theorem dX2_countLost_28 : decode cX2_countLost 28 = .ok (.iadd, 1) := by decide +kernel
theorem dX2_countLost_29 : decode cX2_countLost 29 = .ok (.invokestatic 74, 3) := by decide +kernel
theorem dX2_countLost_32 : decode cX2_countLost 32 = .ok (.return_, 1) := by decide +kernel
theorem dX3_init_0 : decode cX3_init 0 = .ok (.aload_n 0, 1) := by decide +kernel
theorem dX3_init_1 : decode cX3_init 1 = .ok (.invokespecial 1, 3) := by decide +kernel
theorem dX3_init_4 : decode cX3_init 4 = .ok (.aload_n 0, 1) := by decide +kernel
theorem dX3_init_5 : decode cX3_init 5 = .ok (.sipush 640, 3) := by decide +kernel
theorem dX3_init_8 : decode cX3_init 8 = .ok (.newarray .int, 2) := by decide +kernel
theorem dX3_init_10 : decode cX3_init 10 = .ok (.putfield 9, 3) := by decide +kernel
theorem dX3_init_13 : decode cX3_init 13 = .ok (.return_, 1) := by decide +kernel
theorem dX3_write_0 : decode cX3_write 0 = .ok (.aload_n 0, 1) := by decide +kernel
theorem dX3_write_1 : decode cX3_write 1 = .ok (.getfield 13, 3) := by decide +kernel
theorem dX3_write_4 : decode cX3_write 4 = .ok (.sipush 640, 3) := by decide +kernel
theorem dX3_write_7 : decode cX3_write 7 = .ok (.if_icmp .ge 40, 3) := by decide +kernel
theorem dX3_write_10 : decode cX3_write 10 = .ok (.aload_n 0, 1) := by decide +kernel
theorem dX3_write_11 : decode cX3_write 11 = .ok (.getfield 9, 3) := by decide +kernel
theorem dX3_write_14 : decode cX3_write 14 = .ok (.aload_n 0, 1) := by decide +kernel
theorem dX3_write_15 : decode cX3_write 15 = .ok (.getfield 13, 3) := by decide +kernel
theorem dX3_write_18 : decode cX3_write 18 = .ok (.iload_n 1, 1) := by decide +kernel
theorem dX3_write_19 : decode cX3_write 19 = .ok (.bipush 11, 2) := by decide +kernel
theorem dX3_write_21 : decode cX3_write 21 = .ok (.ishl, 1) := by decide +kernel
theorem dX3_write_22 : decode cX3_write 22 = .ok (.iload_n 2, 1) := by decide +kernel
theorem dX3_write_23 : decode cX3_write 23 = .ok (.bipush 10, 2) := by decide +kernel
theorem dX3_write_25 : decode cX3_write 25 = .ok (.ishl, 1) := by decide +kernel
theorem dX3_write_26 : decode cX3_write 26 = .ok (.ior, 1) := by decide +kernel
theorem dX3_write_27 : decode cX3_write 27 = .ok (.iload_n 3, 1) := by decide +kernel
theorem dX3_write_28 : decode cX3_write 28 = .ok (.iconst 5, 1) := by decide +kernel
theorem dX3_write_29 : decode cX3_write 29 = .ok (.ishl, 1) := by decide +kernel
theorem dX3_write_30 : decode cX3_write 30 = .ok (.ior, 1) := by decide +kernel
theorem dX3_write_31 : decode cX3_write 31 = .ok (.iload 4, 2) := by decide +kernel
theorem dX3_write_33 : decode cX3_write 33 = .ok (.ior, 1) := by decide +kernel
theorem dX3_write_34 : decode cX3_write 34 = .ok (.invokestatic 17, 3) := by decide +kernel
theorem dX3_write_37 : decode cX3_write 37 = .ok (.aload_n 0, 1) := by decide +kernel
theorem dX3_write_38 : decode cX3_write 38 = .ok (.dup, 1) := by decide +kernel
theorem dX3_write_39 : decode cX3_write 39 = .ok (.getfield 13, 3) := by decide +kernel
theorem dX3_write_42 : decode cX3_write 42 = .ok (.iconst 1, 1) := by decide +kernel
theorem dX3_write_43 : decode cX3_write 43 = .ok (.iadd, 1) := by decide +kernel
theorem dX3_write_44 : decode cX3_write 44 = .ok (.putfield 13, 3) := by decide +kernel
theorem dX3_write_47 : decode cX3_write 47 = .ok (.return_, 1) := by decide +kernel
theorem dX3_cutTo_0 : decode cX3_cutTo 0 = .ok (.aload_n 0, 1) := by decide +kernel
theorem dX3_cutTo_1 : decode cX3_cutTo 1 = .ok (.iload_n 1, 1) := by decide +kernel
theorem dX3_cutTo_2 : decode cX3_cutTo 2 = .ok (.putfield 13, 3) := by decide +kernel
theorem dX3_cutTo_5 : decode cX3_cutTo 5 = .ok (.return_, 1) := by decide +kernel
theorem dX3_signAt_0 : decode cX3_signAt 0 = .ok (.aload_n 0, 1) := by decide +kernel
theorem dX3_signAt_1 : decode cX3_signAt 1 = .ok (.getfield 9, 3) := by decide +kernel
theorem dX3_signAt_4 : decode cX3_signAt 4 = .ok (.iload_n 1, 1) := by decide +kernel
theorem dX3_signAt_5 : decode cX3_signAt 5 = .ok (.invokestatic 23, 3) := by decide +kernel
theorem dX3_signAt_8 : decode cX3_signAt 8 = .ok (.ireturn, 1) := by decide +kernel
theorem dX3_kindOf_0 : decode cX3_kindOf 0 = .ok (.iload_n 0, 1) := by decide +kernel
theorem dX3_kindOf_1 : decode cX3_kindOf 1 = .ok (.bipush 11, 2) := by decide +kernel
theorem dX3_kindOf_3 : decode cX3_kindOf 3 = .ok (.ishr, 1) := by decide +kernel
theorem dX3_kindOf_4 : decode cX3_kindOf 4 = .ok (.ireturn, 1) := by decide +kernel
theorem dX3_teamOf_0 : decode cX3_teamOf 0 = .ok (.iload_n 0, 1) := by decide +kernel
theorem dX3_teamOf_1 : decode cX3_teamOf 1 = .ok (.bipush 10, 2) := by decide +kernel
theorem dX3_teamOf_3 : decode cX3_teamOf 3 = .ok (.ishr, 1) := by decide +kernel
theorem dX3_teamOf_4 : decode cX3_teamOf 4 = .ok (.iconst 1, 1) := by decide +kernel
theorem dX3_teamOf_5 : decode cX3_teamOf 5 = .ok (.iand, 1) := by decide +kernel
theorem dX3_teamOf_6 : decode cX3_teamOf 6 = .ok (.ireturn, 1) := by decide +kernel
theorem dX3_oneOf_0 : decode cX3_oneOf 0 = .ok (.iload_n 0, 1) := by decide +kernel
theorem dX3_oneOf_1 : decode cX3_oneOf 1 = .ok (.iconst 5, 1) := by decide +kernel
theorem dX3_oneOf_2 : decode cX3_oneOf 2 = .ok (.ishr, 1) := by decide +kernel
theorem dX3_oneOf_3 : decode cX3_oneOf 3 = .ok (.bipush 31, 2) := by decide +kernel
theorem dX3_oneOf_5 : decode cX3_oneOf 5 = .ok (.iand, 1) := by decide +kernel
theorem dX3_oneOf_6 : decode cX3_oneOf 6 = .ok (.ireturn, 1) := by decide +kernel
theorem dX3_twoOf_0 : decode cX3_twoOf 0 = .ok (.iload_n 0, 1) := by decide +kernel
theorem dX3_twoOf_1 : decode cX3_twoOf 1 = .ok (.bipush 31, 2) := by decide +kernel
theorem dX3_twoOf_3 : decode cX3_twoOf 3 = .ok (.iand, 1) := by decide +kernel
theorem dX3_twoOf_4 : decode cX3_twoOf 4 = .ok (.ireturn, 1) := by decide +kernel
theorem dX4_init_0 : decode cX4_init 0 = .ok (.aload_n 0, 1) := by decide +kernel
theorem dX4_init_1 : decode cX4_init 1 = .ok (.invokespecial 3, 3) := by decide +kernel
theorem dX4_init_4 : decode cX4_init 4 = .ok (.aload_n 0, 1) := by decide +kernel
theorem dX4_init_5 : decode cX4_init 5 = .ok (.bipush 7, 2) := by decide +kernel
theorem dX4_init_7 : decode cX4_init 7 = .ok (.newarray .int, 2) := by decide +kernel
theorem dX4_init_9 : decode cX4_init 9 = .ok (.putfield 9, 3) := by decide +kernel
theorem dX4_init_12 : decode cX4_init 12 = .ok (.aload_n 0, 1) := by decide +kernel
theorem dX4_init_13 : decode cX4_init 13 = .ok (.bipush 21, 2) := by decide +kernel
theorem dX4_init_15 : decode cX4_init 15 = .ok (.newarray .int, 2) := by decide +kernel
theorem dX4_init_17 : decode cX4_init 17 = .ok (.putfield 15, 3) := by decide +kernel
theorem dX4_init_20 : decode cX4_init 20 = .ok (.aload_n 0, 1) := by decide +kernel
theorem dX4_init_21 : decode cX4_init 21 = .ok (.iconst (-1), 1) := by decide +kernel
theorem dX4_init_22 : decode cX4_init 22 = .ok (.putfield 18, 3) := by decide +kernel
theorem dX4_init_25 : decode cX4_init 25 = .ok (.aload_n 0, 1) := by decide +kernel
theorem dX4_init_26 : decode cX4_init 26 = .ok (.iconst (-1), 1) := by decide +kernel
theorem dX4_init_27 : decode cX4_init 27 = .ok (.putfield 22, 3) := by decide +kernel
theorem dX4_init_30 : decode cX4_init 30 = .ok (.aload_n 0, 1) := by decide +kernel
theorem dX4_init_31 : decode cX4_init 31 = .ok (.iconst 2, 1) := by decide +kernel
theorem dX4_init_32 : decode cX4_init 32 = .ok (.putfield 25, 3) := by decide +kernel
theorem dX4_init_35 : decode cX4_init 35 = .ok (.iconst 1, 1) := by decide +kernel
theorem dX4_init_36 : decode cX4_init 36 = .ok (.istore_n 1, 1) := by decide +kernel
theorem dX4_init_37 : decode cX4_init 37 = .ok (.iload_n 1, 1) := by decide +kernel
theorem dX4_init_38 : decode cX4_init 38 = .ok (.bipush 6, 2) := by decide +kernel
theorem dX4_init_40 : decode cX4_init 40 = .ok (.if_icmp .gt 18, 3) := by decide +kernel
theorem dX4_init_43 : decode cX4_init 43 = .ok (.aload_n 0, 1) := by decide +kernel
theorem dX4_init_44 : decode cX4_init 44 = .ok (.getfield 9, 3) := by decide +kernel
theorem dX4_init_47 : decode cX4_init 47 = .ok (.iload_n 1, 1) := by decide +kernel
theorem dX4_init_48 : decode cX4_init 48 = .ok (.iconst (-1), 1) := by decide +kernel
theorem dX4_init_49 : decode cX4_init 49 = .ok (.invokestatic 28, 3) := by decide +kernel
theorem dX4_init_52 : decode cX4_init 52 = .ok (.iinc 1 1, 3) := by decide +kernel
theorem dX4_init_55 : decode cX4_init 55 = .ok (.goto (-18), 3) := by decide +kernel
theorem dX4_init_58 : decode cX4_init 58 = .ok (.return_, 1) := by decide +kernel
theorem dX4_shirtIn_0 : decode cX4_shirtIn 0 = .ok (.aload_n 0, 1) := by decide +kernel
theorem dX4_shirtIn_1 : decode cX4_shirtIn 1 = .ok (.getfield 9, 3) := by decide +kernel
theorem dX4_shirtIn_4 : decode cX4_shirtIn 4 = .ok (.iload_n 1, 1) := by decide +kernel
theorem dX4_shirtIn_5 : decode cX4_shirtIn 5 = .ok (.invokestatic 32, 3) := by decide +kernel
theorem dX4_shirtIn_8 : decode cX4_shirtIn 8 = .ok (.ireturn, 1) := by decide +kernel
theorem dX4_put_0 : decode cX4_put 0 = .ok (.aload_n 0, 1) := by decide +kernel
theorem dX4_put_1 : decode cX4_put 1 = .ok (.getfield 9, 3) := by decide +kernel
theorem dX4_put_4 : decode cX4_put 4 = .ok (.iload_n 1, 1) := by decide +kernel
theorem dX4_put_5 : decode cX4_put 5 = .ok (.iload_n 2, 1) := by decide +kernel
theorem dX4_put_6 : decode cX4_put 6 = .ok (.invokestatic 28, 3) := by decide +kernel
theorem dX4_put_9 : decode cX4_put 9 = .ok (.return_, 1) := by decide +kernel
theorem dX4_placeOf_0 : decode cX4_placeOf 0 = .ok (.iconst 1, 1) := by decide +kernel
theorem dX4_placeOf_1 : decode cX4_placeOf 1 = .ok (.istore_n 2, 1) := by decide +kernel
theorem dX4_placeOf_2 : decode cX4_placeOf 2 = .ok (.iload_n 2, 1) := by decide +kernel
theorem dX4_placeOf_3 : decode cX4_placeOf 3 = .ok (.bipush 6, 2) := by decide +kernel
theorem dX4_placeOf_5 : decode cX4_placeOf 5 = .ok (.if_icmp .gt 20, 3) := by decide +kernel
theorem dX4_placeOf_8 : decode cX4_placeOf 8 = .ok (.aload_n 0, 1) := by decide +kernel
theorem dX4_placeOf_9 : decode cX4_placeOf 9 = .ok (.iload_n 2, 1) := by decide +kernel
theorem dX4_placeOf_10 : decode cX4_placeOf 10 = .ok (.invokevirtual 36, 3) := by decide +kernel
theorem dX4_placeOf_13 : decode cX4_placeOf 13 = .ok (.iload_n 1, 1) := by decide +kernel
theorem dX4_placeOf_14 : decode cX4_placeOf 14 = .ok (.if_icmp .ne 5, 3) := by decide +kernel
theorem dX4_placeOf_17 : decode cX4_placeOf 17 = .ok (.iload_n 2, 1) := by decide +kernel
theorem dX4_placeOf_18 : decode cX4_placeOf 18 = .ok (.ireturn, 1) := by decide +kernel
theorem dX4_placeOf_19 : decode cX4_placeOf 19 = .ok (.iinc 2 1, 3) := by decide +kernel
theorem dX4_placeOf_22 : decode cX4_placeOf 22 = .ok (.goto (-20), 3) := by decide +kernel
theorem dX4_placeOf_25 : decode cX4_placeOf 25 = .ok (.iconst (-1), 1) := by decide +kernel
theorem dX4_placeOf_26 : decode cX4_placeOf 26 = .ok (.ireturn, 1) := by decide +kernel
theorem dX4_isBehind_0 : decode cX4_isBehind 0 = .ok (.aload_n 0, 1) := by decide +kernel
theorem dX4_isBehind_1 : decode cX4_isBehind 1 = .ok (.iload_n 1, 1) := by decide +kernel
theorem dX4_isBehind_2 : decode cX4_isBehind 2 = .ok (.invokevirtual 40, 3) := by decide +kernel
theorem dX4_isBehind_5 : decode cX4_isBehind 5 = .ok (.istore_n 2, 1) := by decide +kernel
theorem dX4_isBehind_6 : decode cX4_isBehind 6 = .ok (.iload_n 2, 1) := by decide +kernel
theorem dX4_isBehind_7 : decode cX4_isBehind 7 = .ok (.iconst 1, 1) := by decide +kernel
theorem dX4_isBehind_8 : decode cX4_isBehind 8 = .ok (.if_icmp .eq 8, 3) := by decide +kernel
theorem dX4_isBehind_11 : decode cX4_isBehind 11 = .ok (.iload_n 2, 1) := by decide +kernel
theorem dX4_isBehind_12 : decode cX4_isBehind 12 = .ok (.iconst 4, 1) := by decide +kernel
theorem dX4_isBehind_13 : decode cX4_isBehind 13 = .ok (.if_icmp .le 7, 3) := by decide +kernel
theorem dX4_isBehind_16 : decode cX4_isBehind 16 = .ok (.iconst 1, 1) := by decide +kernel
theorem dX4_isBehind_17 : decode cX4_isBehind 17 = .ok (.goto 4, 3) := by decide +kernel
theorem dX4_isBehind_20 : decode cX4_isBehind 20 = .ok (.iconst 0, 1) := by decide +kernel
theorem dX4_isBehind_21 : decode cX4_isBehind 21 = .ok (.ireturn, 1) := by decide +kernel
theorem dX4_isLiberoIn_0 : decode cX4_isLiberoIn 0 = .ok (.aload_n 0, 1) := by decide +kernel
theorem dX4_isLiberoIn_1 : decode cX4_isLiberoIn 1 = .ok (.getfield 22, 3) := by decide +kernel
theorem dX4_isLiberoIn_4 : decode cX4_isLiberoIn 4 = .ok (.iconst (-1), 1) := by decide +kernel
theorem dX4_isLiberoIn_5 : decode cX4_isLiberoIn 5 = .ok (.if_icmp .eq 7, 3) := by decide +kernel
theorem dX4_isLiberoIn_8 : decode cX4_isLiberoIn 8 = .ok (.iconst 1, 1) := by decide +kernel
theorem dX4_isLiberoIn_9 : decode cX4_isLiberoIn 9 = .ok (.goto 4, 3) := by decide +kernel
theorem dX4_isLiberoIn_12 : decode cX4_isLiberoIn 12 = .ok (.iconst 0, 1) := by decide +kernel
theorem dX4_isLiberoIn_13 : decode cX4_isLiberoIn 13 = .ok (.ireturn, 1) := by decide +kernel
theorem dX4_isReady_0 : decode cX4_isReady 0 = .ok (.iconst 1, 1) := by decide +kernel
theorem dX4_isReady_1 : decode cX4_isReady 1 = .ok (.istore_n 1, 1) := by decide +kernel
theorem dX4_isReady_2 : decode cX4_isReady 2 = .ok (.iload_n 1, 1) := by decide +kernel
theorem dX4_isReady_3 : decode cX4_isReady 3 = .ok (.bipush 6, 2) := by decide +kernel
theorem dX4_isReady_5 : decode cX4_isReady 5 = .ok (.if_icmp .gt 39, 3) := by decide +kernel
theorem dX4_isReady_8 : decode cX4_isReady 8 = .ok (.aload_n 0, 1) := by decide +kernel
theorem dX4_isReady_9 : decode cX4_isReady 9 = .ok (.iload_n 1, 1) := by decide +kernel
theorem dX4_isReady_10 : decode cX4_isReady 10 = .ok (.invokevirtual 36, 3) := by decide +kernel
theorem dX4_isReady_13 : decode cX4_isReady 13 = .ok (.istore_n 2, 1) := by decide +kernel
theorem dX4_isReady_14 : decode cX4_isReady 14 = .ok (.iload_n 2, 1) := by decide +kernel
theorem dX4_isReady_15 : decode cX4_isReady 15 = .ok (.iconst (-1), 1) := by decide +kernel
theorem dX4_isReady_16 : decode cX4_isReady 16 = .ok (.if_icmp .eq 20, 3) := by decide +kernel
theorem dX4_isReady_19 : decode cX4_isReady 19 = .ok (.iload_n 2, 1) := by decide +kernel
theorem dX4_isReady_20 : decode cX4_isReady 20 = .ok (.aload_n 0, 1) := by decide +kernel
theorem dX4_isReady_21 : decode cX4_isReady 21 = .ok (.getfield 18, 3) := by decide +kernel
theorem dX4_isReady_24 : decode cX4_isReady 24 = .ok (.if_icmp .eq 12, 3) := by decide +kernel
theorem dX4_isReady_27 : decode cX4_isReady 27 = .ok (.aload_n 0, 1) := by decide +kernel
theorem dX4_isReady_28 : decode cX4_isReady 28 = .ok (.iload_n 2, 1) := by decide +kernel
theorem dX4_isReady_29 : decode cX4_isReady 29 = .ok (.invokevirtual 40, 3) := by decide +kernel
theorem dX4_isReady_32 : decode cX4_isReady 32 = .ok (.iload_n 1, 1) := by decide +kernel
theorem dX4_isReady_33 : decode cX4_isReady 33 = .ok (.if_icmp .eq 5, 3) := by decide +kernel
theorem dX4_isReady_36 : decode cX4_isReady 36 = .ok (.iconst 0, 1) := by decide +kernel
theorem dX4_isReady_37 : decode cX4_isReady 37 = .ok (.ireturn, 1) := by decide +kernel
theorem dX4_isReady_38 : decode cX4_isReady 38 = .ok (.iinc 1 1, 3) := by decide +kernel
theorem dX4_isReady_41 : decode cX4_isReady 41 = .ok (.goto (-39), 3) := by decide +kernel
theorem dX4_isReady_44 : decode cX4_isReady 44 = .ok (.iconst 1, 1) := by decide +kernel
theorem dX4_isReady_45 : decode cX4_isReady 45 = .ok (.ireturn, 1) := by decide +kernel
theorem dX4_startSet_0 : decode cX4_startSet 0 = .ok (.aload_n 0, 1) := by decide +kernel
theorem dX4_startSet_1 : decode cX4_startSet 1 = .ok (.iconst 0, 1) := by decide +kernel
theorem dX4_startSet_2 : decode cX4_startSet 2 = .ok (.putfield 43, 3) := by decide +kernel
theorem dX4_startSet_5 : decode cX4_startSet 5 = .ok (.aload_n 0, 1) := by decide +kernel
theorem dX4_startSet_6 : decode cX4_startSet 6 = .ok (.iconst 0, 1) := by decide +kernel
theorem dX4_startSet_7 : decode cX4_startSet 7 = .ok (.putfield 46, 3) := by decide +kernel
theorem dX4_startSet_10 : decode cX4_startSet 10 = .ok (.aload_n 0, 1) := by decide +kernel
theorem dX4_startSet_11 : decode cX4_startSet 11 = .ok (.iconst 0, 1) := by decide +kernel
theorem dX4_startSet_12 : decode cX4_startSet 12 = .ok (.putfield 49, 3) := by decide +kernel
theorem dX4_startSet_15 : decode cX4_startSet 15 = .ok (.aload_n 0, 1) := by decide +kernel
theorem dX4_startSet_16 : decode cX4_startSet 16 = .ok (.iconst 2, 1) := by decide +kernel
theorem dX4_startSet_17 : decode cX4_startSet 17 = .ok (.putfield 25, 3) := by decide +kernel
theorem dX4_startSet_20 : decode cX4_startSet 20 = .ok (.aload_n 0, 1) := by decide +kernel
theorem dX4_startSet_21 : decode cX4_startSet 21 = .ok (.iconst 0, 1) := by decide +kernel
theorem dX4_startSet_22 : decode cX4_startSet 22 = .ok (.putfield 52, 3) := by decide +kernel
theorem dX4_startSet_25 : decode cX4_startSet 25 = .ok (.iconst 1, 1) := by decide +kernel
theorem dX4_startSet_26 : decode cX4_startSet 26 = .ok (.istore_n 1, 1) := by decide +kernel
theorem dX4_startSet_27 : decode cX4_startSet 27 = .ok (.iload_n 1, 1) := by decide +kernel
theorem dX4_startSet_28 : decode cX4_startSet 28 = .ok (.bipush 20, 2) := by decide +kernel
theorem dX4_startSet_30 : decode cX4_startSet 30 = .ok (.if_icmp .gt 18, 3) := by decide +kernel
theorem dX4_startSet_33 : decode cX4_startSet 33 = .ok (.aload_n 0, 1) := by decide +kernel
theorem dX4_startSet_34 : decode cX4_startSet 34 = .ok (.getfield 15, 3) := by decide +kernel
theorem dX4_startSet_37 : decode cX4_startSet 37 = .ok (.iload_n 1, 1) := by decide +kernel
theorem dX4_startSet_38 : decode cX4_startSet 38 = .ok (.iconst 0, 1) := by decide +kernel
theorem dX4_startSet_39 : decode cX4_startSet 39 = .ok (.invokestatic 28, 3) := by decide +kernel
theorem dX4_startSet_42 : decode cX4_startSet 42 = .ok (.iinc 1 1, 3) := by decide +kernel
theorem dX4_startSet_45 : decode cX4_startSet 45 = .ok (.goto (-18), 3) := by decide +kernel
theorem dX4_startSet_48 : decode cX4_startSet 48 = .ok (.return_, 1) := by decide +kernel
theorem dX4_clearOrder_0 : decode cX4_clearOrder 0 = .ok (.iconst 1, 1) := by decide +kernel
theorem dX4_clearOrder_1 : decode cX4_clearOrder 1 = .ok (.istore_n 1, 1) := by decide +kernel
theorem dX4_clearOrder_2 : decode cX4_clearOrder 2 = .ok (.iload_n 1, 1) := by decide +kernel
theorem dX4_clearOrder_3 : decode cX4_clearOrder 3 = .ok (.bipush 6, 2) := by decide +kernel
theorem dX4_clearOrder_5 : decode cX4_clearOrder 5 = .ok (.if_icmp .gt 15, 3) := by decide +kernel
theorem dX4_clearOrder_8 : decode cX4_clearOrder 8 = .ok (.aload_n 0, 1) := by decide +kernel
theorem dX4_clearOrder_9 : decode cX4_clearOrder 9 = .ok (.iload_n 1, 1) := by decide +kernel
theorem dX4_clearOrder_10 : decode cX4_clearOrder 10 = .ok (.iconst (-1), 1) := by decide +kernel
theorem dX4_clearOrder_11 : decode cX4_clearOrder 11 = .ok (.invokevirtual 56, 3) := by decide +kernel
theorem dX4_clearOrder_14 : decode cX4_clearOrder 14 = .ok (.iinc 1 1, 3) := by decide +kernel
theorem dX4_clearOrder_17 : decode cX4_clearOrder 17 = .ok (.goto (-15), 3) := by decide +kernel
theorem dX4_clearOrder_20 : decode cX4_clearOrder 20 = .ok (.aload_n 0, 1) := by decide +kernel
theorem dX4_clearOrder_21 : decode cX4_clearOrder 21 = .ok (.iconst (-1), 1) := by decide +kernel
theorem dX4_clearOrder_22 : decode cX4_clearOrder 22 = .ok (.putfield 18, 3) := by decide +kernel
theorem dX4_clearOrder_25 : decode cX4_clearOrder 25 = .ok (.aload_n 0, 1) := by decide +kernel
theorem dX4_clearOrder_26 : decode cX4_clearOrder 26 = .ok (.iconst (-1), 1) := by decide +kernel
theorem dX4_clearOrder_27 : decode cX4_clearOrder 27 = .ok (.putfield 22, 3) := by decide +kernel
theorem dX4_clearOrder_30 : decode cX4_clearOrder 30 = .ok (.return_, 1) := by decide +kernel
theorem dX4_rotate_0 : decode cX4_rotate 0 = .ok (.aload_n 0, 1) := by decide +kernel
theorem dX4_rotate_1 : decode cX4_rotate 1 = .ok (.iconst 1, 1) := by decide +kernel
theorem dX4_rotate_2 : decode cX4_rotate 2 = .ok (.invokevirtual 36, 3) := by decide +kernel
theorem dX4_rotate_5 : decode cX4_rotate 5 = .ok (.istore_n 1, 1) := by decide +kernel
theorem dX4_rotate_6 : decode cX4_rotate 6 = .ok (.iconst 1, 1) := by decide +kernel
theorem dX4_rotate_7 : decode cX4_rotate 7 = .ok (.istore_n 2, 1) := by decide +kernel
theorem dX4_rotate_8 : decode cX4_rotate 8 = .ok (.iload_n 2, 1) := by decide +kernel
theorem dX4_rotate_9 : decode cX4_rotate 9 = .ok (.bipush 6, 2) := by decide +kernel
theorem dX4_rotate_11 : decode cX4_rotate 11 = .ok (.if_icmp .ge 21, 3) := by decide +kernel
theorem dX4_rotate_14 : decode cX4_rotate 14 = .ok (.aload_n 0, 1) := by decide +kernel
theorem dX4_rotate_15 : decode cX4_rotate 15 = .ok (.iload_n 2, 1) := by decide +kernel
theorem dX4_rotate_16 : decode cX4_rotate 16 = .ok (.aload_n 0, 1) := by decide +kernel
theorem dX4_rotate_17 : decode cX4_rotate 17 = .ok (.iload_n 2, 1) := by decide +kernel
theorem dX4_rotate_18 : decode cX4_rotate 18 = .ok (.iconst 1, 1) := by decide +kernel
theorem dX4_rotate_19 : decode cX4_rotate 19 = .ok (.iadd, 1) := by decide +kernel
theorem dX4_rotate_20 : decode cX4_rotate 20 = .ok (.invokevirtual 36, 3) := by decide +kernel
theorem dX4_rotate_23 : decode cX4_rotate 23 = .ok (.invokevirtual 56, 3) := by decide +kernel
theorem dX4_rotate_26 : decode cX4_rotate 26 = .ok (.iinc 2 1, 3) := by decide +kernel
theorem dX4_rotate_29 : decode cX4_rotate 29 = .ok (.goto (-21), 3) := by decide +kernel
theorem dX4_rotate_32 : decode cX4_rotate 32 = .ok (.aload_n 0, 1) := by decide +kernel
theorem dX4_rotate_33 : decode cX4_rotate 33 = .ok (.bipush 6, 2) := by decide +kernel
theorem dX4_rotate_35 : decode cX4_rotate 35 = .ok (.iload_n 1, 1) := by decide +kernel
theorem dX4_rotate_36 : decode cX4_rotate 36 = .ok (.invokevirtual 56, 3) := by decide +kernel
theorem dX4_rotate_39 : decode cX4_rotate 39 = .ok (.aload_n 0, 1) := by decide +kernel
theorem dX4_rotate_40 : decode cX4_rotate 40 = .ok (.dup, 1) := by decide +kernel
theorem dX4_rotate_41 : decode cX4_rotate 41 = .ok (.getfield 46, 3) := by decide +kernel
theorem dX4_rotate_44 : decode cX4_rotate 44 = .ok (.iconst 1, 1) := by decide +kernel
theorem dX4_rotate_45 : decode cX4_rotate 45 = .ok (.iadd, 1) := by decide +kernel
theorem dX4_rotate_46 : decode cX4_rotate 46 = .ok (.putfield 46, 3) := by decide +kernel
theorem dX4_rotate_49 : decode cX4_rotate 49 = .ok (.aload_n 0, 1) := by decide +kernel
theorem dX4_rotate_50 : decode cX4_rotate 50 = .ok (.invokevirtual 60, 3) := by decide +kernel
theorem dX4_rotate_53 : decode cX4_rotate 53 = .ok (.ifCond .eq 29, 3) := by decide +kernel
theorem dX4_rotate_56 : decode cX4_rotate 56 = .ok (.aload_n 0, 1) := by decide +kernel
theorem dX4_rotate_57 : decode cX4_rotate 57 = .ok (.iconst 4, 1) := by decide +kernel
theorem dX4_rotate_58 : decode cX4_rotate 58 = .ok (.invokevirtual 36, 3) := by decide +kernel
theorem dX4_rotate_61 : decode cX4_rotate 61 = .ok (.aload_n 0, 1) := by decide +kernel
theorem dX4_rotate_62 : decode cX4_rotate 62 = .ok (.getfield 18, 3) := by decide +kernel
theorem dX4_rotate_65 : decode cX4_rotate 65 = .ok (.if_icmp .ne 17, 3) := by decide +kernel
theorem dX4_rotate_68 : decode cX4_rotate 68 = .ok (.aload_n 0, 1) := by decide +kernel
theorem dX4_rotate_69 : decode cX4_rotate 69 = .ok (.iconst 4, 1) := by decide +kernel
theorem dX4_rotate_70 : decode cX4_rotate 70 = .ok (.aload_n 0, 1) := by decide +kernel
theorem dX4_rotate_71 : decode cX4_rotate 71 = .ok (.getfield 22, 3) := by decide +kernel
theorem dX4_rotate_74 : decode cX4_rotate 74 = .ok (.invokevirtual 56, 3) := by decide +kernel
theorem dX4_rotate_77 : decode cX4_rotate 77 = .ok (.aload_n 0, 1) := by decide +kernel
theorem dX4_rotate_78 : decode cX4_rotate 78 = .ok (.iconst (-1), 1) := by decide +kernel
theorem dX4_rotate_79 : decode cX4_rotate 79 = .ok (.putfield 22, 3) := by decide +kernel
theorem dX4_rotate_82 : decode cX4_rotate 82 = .ok (.return_, 1) := by decide +kernel
theorem dX4_faultOf_0 : decode cX4_faultOf 0 = .ok (.iload_n 2, 1) := by decide +kernel
theorem dX4_faultOf_1 : decode cX4_faultOf 1 = .ok (.iconst 2, 1) := by decide +kernel
theorem dX4_faultOf_2 : decode cX4_faultOf 2 = .ok (.if_icmp .eq 12, 3) := by decide +kernel
theorem dX4_faultOf_5 : decode cX4_faultOf 5 = .ok (.iload_n 2, 1) := by decide +kernel
theorem dX4_faultOf_6 : decode cX4_faultOf 6 = .ok (.iconst 1, 1) := by decide +kernel
theorem dX4_faultOf_7 : decode cX4_faultOf 7 = .ok (.if_icmp .ne 11, 3) := by decide +kernel
theorem dX4_faultOf_10 : decode cX4_faultOf 10 = .ok (.iload_n 3, 1) := by decide +kernel
theorem dX4_faultOf_11 : decode cX4_faultOf 11 = .ok (.ifCond .eq 7, 3) := by decide +kernel
theorem dX4_faultOf_14 : decode cX4_faultOf 14 = .ok (.iconst 1, 1) := by decide +kernel
theorem dX4_faultOf_15 : decode cX4_faultOf 15 = .ok (.goto 4, 3) := by decide +kernel
theorem dX4_faultOf_18 : decode cX4_faultOf 18 = .ok (.iconst 0, 1) := by decide +kernel
theorem dX4_faultOf_19 : decode cX4_faultOf 19 = .ok (.istore 4, 2) := by decide +kernel
theorem dX4_faultOf_21 : decode cX4_faultOf 21 = .ok (.iload 4, 2) := by decide +kernel
theorem dX4_faultOf_23 : decode cX4_faultOf 23 = .ok (.ifCond .eq 13, 3) := by decide +kernel
theorem dX4_faultOf_26 : decode cX4_faultOf 26 = .ok (.aload_n 0, 1) := by decide +kernel
theorem dX4_faultOf_27 : decode cX4_faultOf 27 = .ok (.iload_n 1, 1) := by decide +kernel
theorem dX4_faultOf_28 : decode cX4_faultOf 28 = .ok (.invokevirtual 64, 3) := by decide +kernel
theorem dX4_faultOf_31 : decode cX4_faultOf 31 = .ok (.ifCond .eq 5, 3) := by decide +kernel
theorem dX4_faultOf_34 : decode cX4_faultOf 34 = .ok (.iconst 4, 1) := by decide +kernel
theorem dX4_faultOf_35 : decode cX4_faultOf 35 = .ok (.ireturn, 1) := by decide +kernel
theorem dX4_faultOf_36 : decode cX4_faultOf 36 = .ok (.iload_n 2, 1) := by decide +kernel
theorem dX4_faultOf_37 : decode cX4_faultOf 37 = .ok (.iconst 1, 1) := by decide +kernel
theorem dX4_faultOf_38 : decode cX4_faultOf 38 = .ok (.if_icmp .ne 15, 3) := by decide +kernel
theorem dX4_faultOf_41 : decode cX4_faultOf 41 = .ok (.iload_n 1, 1) := by decide +kernel
theorem dX4_faultOf_42 : decode cX4_faultOf 42 = .ok (.aload_n 0, 1) := by decide +kernel
theorem dX4_faultOf_43 : decode cX4_faultOf 43 = .ok (.getfield 18, 3) := by decide +kernel
theorem dX4_faultOf_46 : decode cX4_faultOf 46 = .ok (.if_icmp .ne 7, 3) := by decide +kernel
theorem dX4_faultOf_49 : decode cX4_faultOf 49 = .ok (.iconst 5, 1) := by decide +kernel
theorem dX4_faultOf_50 : decode cX4_faultOf 50 = .ok (.goto 4, 3) := by decide +kernel
theorem dX4_faultOf_53 : decode cX4_faultOf 53 = .ok (.iconst 0, 1) := by decide +kernel
theorem dX4_faultOf_54 : decode cX4_faultOf 54 = .ok (.ireturn, 1) := by decide +kernel
theorem dX4_canExchange_0 : decode cX4_canExchange 0 = .ok (.aload_n 0, 1) := by decide +kernel
theorem dX4_canExchange_1 : decode cX4_canExchange 1 = .ok (.getfield 18, 3) := by decide +kernel
theorem dX4_canExchange_4 : decode cX4_canExchange 4 = .ok (.iconst (-1), 1) := by decide +kernel
theorem dX4_canExchange_5 : decode cX4_canExchange 5 = .ok (.if_icmp .eq 10, 3) := by decide +kernel
theorem dX4_canExchange_8 : decode cX4_canExchange 8 = .ok (.aload_n 0, 1) := by decide +kernel
theorem dX4_canExchange_9 : decode cX4_canExchange 9 = .ok (.getfield 52, 3) := by decide +kernel
theorem dX4_canExchange_12 : decode cX4_canExchange 12 = .ok (.ifCond .eq 5, 3) := by decide +kernel
theorem dX4_canExchange_15 : decode cX4_canExchange 15 = .ok (.iconst 0, 1) := by decide +kernel
theorem dX4_canExchange_16 : decode cX4_canExchange 16 = .ok (.ireturn, 1) := by decide +kernel
theorem dX4_canExchange_17 : decode cX4_canExchange 17 = .ok (.aload_n 0, 1) := by decide +kernel
theorem dX4_canExchange_18 : decode cX4_canExchange 18 = .ok (.invokevirtual 60, 3) := by decide +kernel
theorem dX4_canExchange_21 : decode cX4_canExchange 21 = .ok (.ifCond .eq 19, 3) := by decide +kernel
theorem dX4_canExchange_24 : decode cX4_canExchange 24 = .ok (.iload_n 1, 1) := by decide +kernel
theorem dX4_canExchange_25 : decode cX4_canExchange 25 = .ok (.aload_n 0, 1) := by decide +kernel
theorem dX4_canExchange_26 : decode cX4_canExchange 26 = .ok (.getfield 22, 3) := by decide +kernel
theorem dX4_canExchange_29 : decode cX4_canExchange 29 = .ok (.if_icmp .ne 7, 3) := by decide +kernel
theorem dX4_canExchange_32 : decode cX4_canExchange 32 = .ok (.iconst 1, 1) := by decide +kernel
theorem dX4_canExchange_33 : decode cX4_canExchange 33 = .ok (.goto 12, 3) := by decide +kernel
theorem dX4_canExchange_36 : decode cX4_canExchange 36 = .ok (.iconst 0, 1) := by decide +kernel
theorem dX4_canExchange_37 : decode cX4_canExchange 37 = .ok (.goto 8, 3) := by decide +kernel
theorem dX4_canExchange_40 : decode cX4_canExchange 40 = .ok (.aload_n 0, 1) := by decide +kernel
theorem dX4_canExchange_41 : decode cX4_canExchange 41 = .ok (.iload_n 1, 1) := by decide +kernel
theorem dX4_canExchange_42 : decode cX4_canExchange 42 = .ok (.invokevirtual 64, 3) := by decide +kernel
theorem dX4_canExchange_45 : decode cX4_canExchange 45 = .ok (.ireturn, 1) := by decide +kernel
theorem dX4_swapLibero_0 : decode cX4_swapLibero 0 = .ok (.aload_n 0, 1) := by decide +kernel
theorem dX4_swapLibero_1 : decode cX4_swapLibero 1 = .ok (.invokevirtual 60, 3) := by decide +kernel
theorem dX4_swapLibero_4 : decode cX4_swapLibero 4 = .ok (.ifCond .eq 24, 3) := by decide +kernel
theorem dX4_swapLibero_7 : decode cX4_swapLibero 7 = .ok (.aload_n 0, 1) := by decide +kernel
theorem dX4_swapLibero_8 : decode cX4_swapLibero 8 = .ok (.aload_n 0, 1) := by decide +kernel
theorem dX4_swapLibero_9 : decode cX4_swapLibero 9 = .ok (.aload_n 0, 1) := by decide +kernel
theorem dX4_swapLibero_10 : decode cX4_swapLibero 10 = .ok (.getfield 18, 3) := by decide +kernel
theorem dX4_swapLibero_13 : decode cX4_swapLibero 13 = .ok (.invokevirtual 40, 3) := by decide +kernel
theorem dX4_swapLibero_16 : decode cX4_swapLibero 16 = .ok (.iload_n 1, 1) := by decide +kernel
theorem dX4_swapLibero_17 : decode cX4_swapLibero 17 = .ok (.invokevirtual 56, 3) := by decide +kernel
theorem dX4_swapLibero_20 : decode cX4_swapLibero 20 = .ok (.aload_n 0, 1) := by decide +kernel
theorem dX4_swapLibero_21 : decode cX4_swapLibero 21 = .ok (.iconst (-1), 1) := by decide +kernel
theorem dX4_swapLibero_22 : decode cX4_swapLibero 22 = .ok (.putfield 22, 3) := by decide +kernel
theorem dX4_swapLibero_25 : decode cX4_swapLibero 25 = .ok (.goto 21, 3) := by decide +kernel
theorem dX4_swapLibero_28 : decode cX4_swapLibero 28 = .ok (.aload_n 0, 1) := by decide +kernel
theorem dX4_swapLibero_29 : decode cX4_swapLibero 29 = .ok (.aload_n 0, 1) := by decide +kernel
theorem dX4_swapLibero_30 : decode cX4_swapLibero 30 = .ok (.iload_n 1, 1) := by decide +kernel
theorem dX4_swapLibero_31 : decode cX4_swapLibero 31 = .ok (.invokevirtual 40, 3) := by decide +kernel
theorem dX4_swapLibero_34 : decode cX4_swapLibero 34 = .ok (.aload_n 0, 1) := by decide +kernel
theorem dX4_swapLibero_35 : decode cX4_swapLibero 35 = .ok (.getfield 18, 3) := by decide +kernel
theorem dX4_swapLibero_38 : decode cX4_swapLibero 38 = .ok (.invokevirtual 56, 3) := by decide +kernel
theorem dX4_swapLibero_41 : decode cX4_swapLibero 41 = .ok (.aload_n 0, 1) := by decide +kernel
theorem dX4_swapLibero_42 : decode cX4_swapLibero 42 = .ok (.iload_n 1, 1) := by decide +kernel
theorem dX4_swapLibero_43 : decode cX4_swapLibero 43 = .ok (.putfield 22, 3) := by decide +kernel
theorem dX4_swapLibero_46 : decode cX4_swapLibero 46 = .ok (.aload_n 0, 1) := by decide +kernel
theorem dX4_swapLibero_47 : decode cX4_swapLibero 47 = .ok (.iconst 1, 1) := by decide +kernel
theorem dX4_swapLibero_48 : decode cX4_swapLibero 48 = .ok (.putfield 52, 3) := by decide +kernel
theorem dX4_swapLibero_51 : decode cX4_swapLibero 51 = .ok (.return_, 1) := by decide +kernel
theorem dX4_canSubstitute_0 : decode cX4_canSubstitute 0 = .ok (.aload_n 0, 1) := by decide +kernel
theorem dX4_canSubstitute_1 : decode cX4_canSubstitute 1 = .ok (.getfield 49, 3) := by decide +kernel
theorem dX4_canSubstitute_4 : decode cX4_canSubstitute 4 = .ok (.bipush 6, 2) := by decide +kernel
theorem dX4_canSubstitute_6 : decode cX4_canSubstitute 6 = .ok (.if_icmp .ge 27, 3) := by decide +kernel
theorem dX4_canSubstitute_9 : decode cX4_canSubstitute 9 = .ok (.iload_n 1, 1) := by decide +kernel
theorem dX4_canSubstitute_10 : decode cX4_canSubstitute 10 = .ok (.aload_n 0, 1) := by decide +kernel
theorem dX4_canSubstitute_11 : decode cX4_canSubstitute 11 = .ok (.getfield 18, 3) := by decide +kernel
theorem dX4_canSubstitute_14 : decode cX4_canSubstitute 14 = .ok (.if_icmp .eq 19, 3) := by decide +kernel
theorem dX4_canSubstitute_17 : decode cX4_canSubstitute 17 = .ok (.iload_n 2, 1) := by decide +kernel
theorem dX4_canSubstitute_18 : decode cX4_canSubstitute 18 = .ok (.aload_n 0, 1) := by decide +kernel
theorem dX4_canSubstitute_19 : decode cX4_canSubstitute 19 = .ok (.getfield 18, 3) := by decide +kernel
theorem dX4_canSubstitute_22 : decode cX4_canSubstitute 22 = .ok (.if_icmp .eq 11, 3) := by decide +kernel
theorem dX4_canSubstitute_25 : decode cX4_canSubstitute 25 = .ok (.iload_n 2, 1) := by decide +kernel
theorem dX4_canSubstitute_26 : decode cX4_canSubstitute 26 = .ok (.aload_n 0, 1) := by decide +kernel
theorem dX4_canSubstitute_27 : decode cX4_canSubstitute 27 = .ok (.getfield 22, 3) := by decide +kernel
theorem dX4_canSubstitute_30 : decode cX4_canSubstitute 30 = .ok (.if_icmp .ne 5, 3) := by decide +kernel
theorem dX4_canSubstitute_33 : decode cX4_canSubstitute 33 = .ok (.iconst 0, 1) := by decide +kernel
theorem dX4_canSubstitute_34 : decode cX4_canSubstitute 34 = .ok (.ireturn, 1) := by decide +kernel
theorem dX4_canSubstitute_35 : decode cX4_canSubstitute 35 = .ok (.aload_n 0, 1) := by decide +kernel
theorem dX4_canSubstitute_36 : decode cX4_canSubstitute 36 = .ok (.iload_n 1, 1) := by decide +kernel
theorem dX4_canSubstitute_37 : decode cX4_canSubstitute 37 = .ok (.invokevirtual 40, 3) := by decide +kernel
theorem dX4_canSubstitute_40 : decode cX4_canSubstitute 40 = .ok (.iconst (-1), 1) := by decide +kernel
theorem dX4_canSubstitute_41 : decode cX4_canSubstitute 41 = .ok (.if_icmp .eq 12, 3) := by decide +kernel
theorem dX4_canSubstitute_44 : decode cX4_canSubstitute 44 = .ok (.aload_n 0, 1) := by decide +kernel
theorem dX4_canSubstitute_45 : decode cX4_canSubstitute 45 = .ok (.iload_n 2, 1) := by decide +kernel
theorem dX4_canSubstitute_46 : decode cX4_canSubstitute 46 = .ok (.invokevirtual 40, 3) := by decide +kernel
theorem dX4_canSubstitute_49 : decode cX4_canSubstitute 49 = .ok (.iconst (-1), 1) := by decide +kernel
theorem dX4_canSubstitute_50 : decode cX4_canSubstitute 50 = .ok (.if_icmp .eq 5, 3) := by decide +kernel
theorem dX4_canSubstitute_53 : decode cX4_canSubstitute 53 = .ok (.iconst 0, 1) := by decide +kernel
theorem dX4_canSubstitute_54 : decode cX4_canSubstitute 54 = .ok (.ireturn, 1) := by decide +kernel
theorem dX4_canSubstitute_55 : decode cX4_canSubstitute 55 = .ok (.aload_n 0, 1) := by decide +kernel
theorem dX4_canSubstitute_56 : decode cX4_canSubstitute 56 = .ok (.getfield 15, 3) := by decide +kernel
theorem dX4_canSubstitute_59 : decode cX4_canSubstitute 59 = .ok (.iload_n 1, 1) := by decide +kernel
theorem dX4_canSubstitute_60 : decode cX4_canSubstitute 60 = .ok (.invokestatic 32, 3) := by decide +kernel
theorem dX4_canSubstitute_63 : decode cX4_canSubstitute 63 = .ok (.ifCond .ne 18, 3) := by decide +kernel
theorem dX4_canSubstitute_66 : decode cX4_canSubstitute 66 = .ok (.aload_n 0, 1) := by decide +kernel
theorem dX4_canSubstitute_67 : decode cX4_canSubstitute 67 = .ok (.getfield 15, 3) := by decide +kernel
theorem dX4_canSubstitute_70 : decode cX4_canSubstitute 70 = .ok (.iload_n 2, 1) := by decide +kernel
theorem dX4_canSubstitute_71 : decode cX4_canSubstitute 71 = .ok (.invokestatic 32, 3) := by decide +kernel
theorem dX4_canSubstitute_74 : decode cX4_canSubstitute 74 = .ok (.ifCond .ne 7, 3) := by decide +kernel
theorem dX4_canSubstitute_77 : decode cX4_canSubstitute 77 = .ok (.iconst 1, 1) := by decide +kernel
theorem dX4_canSubstitute_78 : decode cX4_canSubstitute 78 = .ok (.goto 4, 3) := by decide +kernel
theorem dX4_canSubstitute_81 : decode cX4_canSubstitute 81 = .ok (.iconst 0, 1) := by decide +kernel
theorem dX4_canSubstitute_82 : decode cX4_canSubstitute 82 = .ok (.istore_n 3, 1) := by decide +kernel
theorem dX4_canSubstitute_83 : decode cX4_canSubstitute 83 = .ok (.iload_n 3, 1) := by decide +kernel
theorem dX4_canSubstitute_84 : decode cX4_canSubstitute 84 = .ok (.ifCond .ne 15, 3) := by decide +kernel
theorem dX4_canSubstitute_87 : decode cX4_canSubstitute 87 = .ok (.aload_n 0, 1) := by decide +kernel
theorem dX4_canSubstitute_88 : decode cX4_canSubstitute 88 = .ok (.getfield 15, 3) := by decide +kernel
theorem dX4_canSubstitute_91 : decode cX4_canSubstitute 91 = .ok (.iload_n 1, 1) := by decide +kernel
theorem dX4_canSubstitute_92 : decode cX4_canSubstitute 92 = .ok (.invokestatic 32, 3) := by decide +kernel
theorem dX4_canSubstitute_95 : decode cX4_canSubstitute 95 = .ok (.iload_n 2, 1) := by decide +kernel
theorem dX4_canSubstitute_96 : decode cX4_canSubstitute 96 = .ok (.if_icmp .ne 7, 3) := by decide +kernel
theorem dX4_canSubstitute_99 : decode cX4_canSubstitute 99 = .ok (.iconst 1, 1) := by decide +kernel
theorem dX4_canSubstitute_100 : decode cX4_canSubstitute 100 = .ok (.goto 4, 3) := by decide +kernel
theorem dX4_canSubstitute_103 : decode cX4_canSubstitute 103 = .ok (.iconst 0, 1) := by decide +kernel
theorem dX4_canSubstitute_104 : decode cX4_canSubstitute 104 = .ok (.ireturn, 1) := by decide +kernel
theorem dX4_swapByPair_0 : decode cX4_swapByPair 0 = .ok (.aload_n 0, 1) := by decide +kernel
theorem dX4_swapByPair_1 : decode cX4_swapByPair 1 = .ok (.getfield 15, 3) := by decide +kernel
theorem dX4_swapByPair_4 : decode cX4_swapByPair 4 = .ok (.iload_n 1, 1) := by decide +kernel
theorem dX4_swapByPair_5 : decode cX4_swapByPair 5 = .ok (.invokestatic 32, 3) := by decide +kernel
theorem dX4_swapByPair_8 : decode cX4_swapByPair 8 = .ok (.iload_n 2, 1) := by decide +kernel
theorem dX4_swapByPair_9 : decode cX4_swapByPair 9 = .ok (.if_icmp .ne 7, 3) := by decide +kernel
theorem dX4_swapByPair_12 : decode cX4_swapByPair 12 = .ok (.iconst 1, 1) := by decide +kernel
theorem dX4_swapByPair_13 : decode cX4_swapByPair 13 = .ok (.goto 4, 3) := by decide +kernel
theorem dX4_swapByPair_16 : decode cX4_swapByPair 16 = .ok (.iconst 0, 1) := by decide +kernel
theorem dX4_swapByPair_17 : decode cX4_swapByPair 17 = .ok (.istore_n 3, 1) := by decide +kernel
theorem dX4_swapByPair_18 : decode cX4_swapByPair 18 = .ok (.aload_n 0, 1) := by decide +kernel
theorem dX4_swapByPair_19 : decode cX4_swapByPair 19 = .ok (.getfield 15, 3) := by decide +kernel
theorem dX4_swapByPair_22 : decode cX4_swapByPair 22 = .ok (.iload_n 1, 1) := by decide +kernel
theorem dX4_swapByPair_23 : decode cX4_swapByPair 23 = .ok (.iconst (-1), 1) := by decide +kernel
theorem dX4_swapByPair_24 : decode cX4_swapByPair 24 = .ok (.invokestatic 28, 3) := by decide +kernel
theorem dX4_swapByPair_27 : decode cX4_swapByPair 27 = .ok (.aload_n 0, 1) := by decide +kernel
theorem dX4_swapByPair_28 : decode cX4_swapByPair 28 = .ok (.getfield 15, 3) := by decide +kernel
theorem dX4_swapByPair_31 : decode cX4_swapByPair 31 = .ok (.iload_n 2, 1) := by decide +kernel
theorem dX4_swapByPair_32 : decode cX4_swapByPair 32 = .ok (.iload_n 3, 1) := by decide +kernel
theorem dX4_swapByPair_33 : decode cX4_swapByPair 33 = .ok (.ifCond .eq 7, 3) := by decide +kernel
theorem dX4_swapByPair_36 : decode cX4_swapByPair 36 = .ok (.iconst (-1), 1) := by decide +kernel
theorem dX4_swapByPair_37 : decode cX4_swapByPair 37 = .ok (.goto 4, 3) := by decide +kernel
theorem dX4_swapByPair_40 : decode cX4_swapByPair 40 = .ok (.iload_n 1, 1) := by decide +kernel
theorem dX4_swapByPair_41 : decode cX4_swapByPair 41 = .ok (.invokestatic 28, 3) := by decide +kernel
theorem dX4_swapByPair_44 : decode cX4_swapByPair 44 = .ok (.aload_n 0, 1) := by decide +kernel
theorem dX4_swapByPair_45 : decode cX4_swapByPair 45 = .ok (.aload_n 0, 1) := by decide +kernel
theorem dX4_swapByPair_46 : decode cX4_swapByPair 46 = .ok (.iload_n 1, 1) := by decide +kernel
theorem dX4_swapByPair_47 : decode cX4_swapByPair 47 = .ok (.invokevirtual 40, 3) := by decide +kernel
theorem dX4_swapByPair_50 : decode cX4_swapByPair 50 = .ok (.iload_n 2, 1) := by decide +kernel
theorem dX4_swapByPair_51 : decode cX4_swapByPair 51 = .ok (.invokevirtual 56, 3) := by decide +kernel
theorem dX4_swapByPair_54 : decode cX4_swapByPair 54 = .ok (.aload_n 0, 1) := by decide +kernel
theorem dX4_swapByPair_55 : decode cX4_swapByPair 55 = .ok (.dup, 1) := by decide +kernel
theorem dX4_swapByPair_56 : decode cX4_swapByPair 56 = .ok (.getfield 49, 3) := by decide +kernel
theorem dX4_swapByPair_59 : decode cX4_swapByPair 59 = .ok (.iconst 1, 1) := by decide +kernel
theorem dX4_swapByPair_60 : decode cX4_swapByPair 60 = .ok (.iadd, 1) := by decide +kernel
theorem dX4_swapByPair_61 : decode cX4_swapByPair 61 = .ok (.putfield 49, 3) := by decide +kernel
theorem dX4_swapByPair_64 : decode cX4_swapByPair 64 = .ok (.return_, 1) := by decide +kernel
theorem dX4_copyFrom_0 : decode cX4_copyFrom 0 = .ok (.iconst 1, 1) := by decide +kernel
theorem dX4_copyFrom_1 : decode cX4_copyFrom 1 = .ok (.istore_n 2, 1) := by decide +kernel
theorem dX4_copyFrom_2 : decode cX4_copyFrom 2 = .ok (.iload_n 2, 1) := by decide +kernel
theorem dX4_copyFrom_3 : decode cX4_copyFrom 3 = .ok (.bipush 6, 2) := by decide +kernel
theorem dX4_copyFrom_5 : decode cX4_copyFrom 5 = .ok (.if_icmp .gt 19, 3) := by decide +kernel
theorem dX4_copyFrom_8 : decode cX4_copyFrom 8 = .ok (.aload_n 0, 1) := by decide +kernel
theorem dX4_copyFrom_9 : decode cX4_copyFrom 9 = .ok (.iload_n 2, 1) := by decide +kernel
theorem dX4_copyFrom_10 : decode cX4_copyFrom 10 = .ok (.aload_n 1, 1) := by decide +kernel
theorem dX4_copyFrom_11 : decode cX4_copyFrom 11 = .ok (.iload_n 2, 1) := by decide +kernel
theorem dX4_copyFrom_12 : decode cX4_copyFrom 12 = .ok (.invokevirtual 36, 3) := by decide +kernel
theorem dX4_copyFrom_15 : decode cX4_copyFrom 15 = .ok (.invokevirtual 56, 3) := by decide +kernel
theorem dX4_copyFrom_18 : decode cX4_copyFrom 18 = .ok (.iinc 2 1, 3) := by decide +kernel
theorem dX4_copyFrom_21 : decode cX4_copyFrom 21 = .ok (.goto (-19), 3) := by decide +kernel
theorem dX4_copyFrom_24 : decode cX4_copyFrom 24 = .ok (.iconst 1, 1) := by decide +kernel
theorem dX4_copyFrom_25 : decode cX4_copyFrom 25 = .ok (.istore_n 2, 1) := by decide +kernel
theorem dX4_copyFrom_26 : decode cX4_copyFrom 26 = .ok (.iload_n 2, 1) := by decide +kernel
theorem dX4_copyFrom_27 : decode cX4_copyFrom 27 = .ok (.bipush 20, 2) := by decide +kernel
theorem dX4_copyFrom_29 : decode cX4_copyFrom 29 = .ok (.if_icmp .gt 25, 3) := by decide +kernel
theorem dX4_copyFrom_32 : decode cX4_copyFrom 32 = .ok (.aload_n 0, 1) := by decide +kernel
theorem dX4_copyFrom_33 : decode cX4_copyFrom 33 = .ok (.getfield 15, 3) := by decide +kernel
theorem dX4_copyFrom_36 : decode cX4_copyFrom 36 = .ok (.iload_n 2, 1) := by decide +kernel
theorem dX4_copyFrom_37 : decode cX4_copyFrom 37 = .ok (.aload_n 1, 1) := by decide +kernel
theorem dX4_copyFrom_38 : decode cX4_copyFrom 38 = .ok (.getfield 15, 3) := by decide +kernel
theorem dX4_copyFrom_41 : decode cX4_copyFrom 41 = .ok (.iload_n 2, 1) := by decide +kernel
theorem dX4_copyFrom_42 : decode cX4_copyFrom 42 = .ok (.invokestatic 32, 3) := by decide +kernel
theorem dX4_copyFrom_45 : decode cX4_copyFrom 45 = .ok (.invokestatic 28, 3) := by decide +kernel
theorem dX4_copyFrom_48 : decode cX4_copyFrom 48 = .ok (.iinc 2 1, 3) := by decide +kernel
theorem dX4_copyFrom_51 : decode cX4_copyFrom 51 = .ok (.goto (-25), 3) := by decide +kernel
theorem dX4_copyFrom_54 : decode cX4_copyFrom 54 = .ok (.aload_n 0, 1) := by decide +kernel
theorem dX4_copyFrom_55 : decode cX4_copyFrom 55 = .ok (.aload_n 1, 1) := by decide +kernel
theorem dX4_copyFrom_56 : decode cX4_copyFrom 56 = .ok (.getfield 18, 3) := by decide +kernel
theorem dX4_copyFrom_59 : decode cX4_copyFrom 59 = .ok (.putfield 18, 3) := by decide +kernel
theorem dX4_copyFrom_62 : decode cX4_copyFrom 62 = .ok (.aload_n 0, 1) := by decide +kernel
theorem dX4_copyFrom_63 : decode cX4_copyFrom 63 = .ok (.aload_n 1, 1) := by decide +kernel
theorem dX4_copyFrom_64 : decode cX4_copyFrom 64 = .ok (.getfield 22, 3) := by decide +kernel
theorem dX4_copyFrom_67 : decode cX4_copyFrom 67 = .ok (.putfield 22, 3) := by decide +kernel
theorem dX4_copyFrom_70 : decode cX4_copyFrom 70 = .ok (.aload_n 0, 1) := by decide +kernel
theorem dX4_copyFrom_71 : decode cX4_copyFrom 71 = .ok (.aload_n 1, 1) := by decide +kernel
theorem dX4_copyFrom_72 : decode cX4_copyFrom 72 = .ok (.getfield 43, 3) := by decide +kernel
theorem dX4_copyFrom_75 : decode cX4_copyFrom 75 = .ok (.putfield 43, 3) := by decide +kernel
theorem dX4_copyFrom_78 : decode cX4_copyFrom 78 = .ok (.aload_n 0, 1) := by decide +kernel
theorem dX4_copyFrom_79 : decode cX4_copyFrom 79 = .ok (.aload_n 1, 1) := by decide +kernel
theorem dX4_copyFrom_80 : decode cX4_copyFrom 80 = .ok (.getfield 68, 3) := by decide +kernel
theorem dX4_copyFrom_83 : decode cX4_copyFrom 83 = .ok (.putfield 68, 3) := by decide +kernel
theorem dX4_copyFrom_86 : decode cX4_copyFrom 86 = .ok (.aload_n 0, 1) := by decide +kernel
theorem dX4_copyFrom_87 : decode cX4_copyFrom 87 = .ok (.aload_n 1, 1) := by decide +kernel
theorem dX4_copyFrom_88 : decode cX4_copyFrom 88 = .ok (.getfield 46, 3) := by decide +kernel
theorem dX4_copyFrom_91 : decode cX4_copyFrom 91 = .ok (.putfield 46, 3) := by decide +kernel
theorem dX4_copyFrom_94 : decode cX4_copyFrom 94 = .ok (.aload_n 0, 1) := by decide +kernel
theorem dX4_copyFrom_95 : decode cX4_copyFrom 95 = .ok (.aload_n 1, 1) := by decide +kernel
theorem dX4_copyFrom_96 : decode cX4_copyFrom 96 = .ok (.getfield 49, 3) := by decide +kernel
theorem dX4_copyFrom_99 : decode cX4_copyFrom 99 = .ok (.putfield 49, 3) := by decide +kernel
theorem dX4_copyFrom_102 : decode cX4_copyFrom 102 = .ok (.aload_n 0, 1) := by decide +kernel
theorem dX4_copyFrom_103 : decode cX4_copyFrom 103 = .ok (.aload_n 1, 1) := by decide +kernel
theorem dX4_copyFrom_104 : decode cX4_copyFrom 104 = .ok (.getfield 25, 3) := by decide +kernel
theorem dX4_copyFrom_107 : decode cX4_copyFrom 107 = .ok (.putfield 25, 3) := by decide +kernel
theorem dX4_copyFrom_110 : decode cX4_copyFrom 110 = .ok (.aload_n 0, 1) := by decide +kernel
theorem dX4_copyFrom_111 : decode cX4_copyFrom 111 = .ok (.aload_n 1, 1) := by decide +kernel
theorem dX4_copyFrom_112 : decode cX4_copyFrom 112 = .ok (.getfield 52, 3) := by decide +kernel
theorem dX4_copyFrom_115 : decode cX4_copyFrom 115 = .ok (.putfield 52, 3) := by decide +kernel
theorem dX4_copyFrom_118 : decode cX4_copyFrom 118 = .ok (.return_, 1) := by decide +kernel
theorem dX5_init_0 : decode cX5_init 0 = .ok (.aload_n 0, 1) := by decide +kernel
theorem dX5_init_1 : decode cX5_init 1 = .ok (.invokespecial 1, 3) := by decide +kernel
theorem dX5_init_4 : decode cX5_init 4 = .ok (.aload_n 0, 1) := by decide +kernel
theorem dX5_init_5 : decode cX5_init 5 = .ok (.new 7, 3) := by decide +kernel
theorem dX5_init_8 : decode cX5_init 8 = .ok (.dup, 1) := by decide +kernel
theorem dX5_init_9 : decode cX5_init 9 = .ok (.invokespecial 9, 3) := by decide +kernel
theorem dX5_init_12 : decode cX5_init 12 = .ok (.putfield 10, 3) := by decide +kernel
theorem dX5_init_15 : decode cX5_init 15 = .ok (.aload_n 0, 1) := by decide +kernel
theorem dX5_init_16 : decode cX5_init 16 = .ok (.new 7, 3) := by decide +kernel
theorem dX5_init_19 : decode cX5_init 19 = .ok (.dup, 1) := by decide +kernel
theorem dX5_init_20 : decode cX5_init 20 = .ok (.invokespecial 9, 3) := by decide +kernel
theorem dX5_init_23 : decode cX5_init 23 = .ok (.putfield 16, 3) := by decide +kernel
theorem dX5_init_26 : decode cX5_init 26 = .ok (.aload_n 0, 1) := by decide +kernel
theorem dX5_init_27 : decode cX5_init 27 = .ok (.new 19, 3) := by decide +kernel
theorem dX5_init_30 : decode cX5_init 30 = .ok (.dup, 1) := by decide +kernel
theorem dX5_init_31 : decode cX5_init 31 = .ok (.invokespecial 21, 3) := by decide +kernel
theorem dX5_init_34 : decode cX5_init 34 = .ok (.putfield 22, 3) := by decide +kernel
theorem dX5_init_37 : decode cX5_init 37 = .ok (.aload_n 0, 1) := by decide +kernel
theorem dX5_init_38 : decode cX5_init 38 = .ok (.new 26, 3) := by decide +kernel
theorem dX5_init_41 : decode cX5_init 41 = .ok (.dup, 1) := by decide +kernel
theorem dX5_init_42 : decode cX5_init 42 = .ok (.invokespecial 28, 3) := by decide +kernel
theorem dX5_init_45 : decode cX5_init 45 = .ok (.putfield 29, 3) := by decide +kernel
theorem dX5_init_48 : decode cX5_init 48 = .ok (.aload_n 0, 1) := by decide +kernel
theorem dX5_init_49 : decode cX5_init 49 = .ok (.new 33, 3) := by decide +kernel
theorem dX5_init_52 : decode cX5_init 52 = .ok (.dup, 1) := by decide +kernel
theorem dX5_init_53 : decode cX5_init 53 = .ok (.invokespecial 35, 3) := by decide +kernel
theorem dX5_init_56 : decode cX5_init 56 = .ok (.putfield 36, 3) := by decide +kernel
theorem dX5_init_59 : decode cX5_init 59 = .ok (.aload_n 0, 1) := by decide +kernel
theorem dX5_init_60 : decode cX5_init 60 = .ok (.iconst (-1), 1) := by decide +kernel
theorem dX5_init_61 : decode cX5_init 61 = .ok (.putfield 40, 3) := by decide +kernel
theorem dX5_init_64 : decode cX5_init 64 = .ok (.return_, 1) := by decide +kernel
theorem dX5_line_0 : decode cX5_line 0 = .ok (.iload_n 1, 1) := by decide +kernel
theorem dX5_line_1 : decode cX5_line 1 = .ok (.invokestatic 44, 3) := by decide +kernel
theorem dX5_line_4 : decode cX5_line 4 = .ok (.iload_n 2, 1) := by decide +kernel
theorem dX5_line_5 : decode cX5_line 5 = .ok (.invokestatic 48, 3) := by decide +kernel
theorem dX5_line_8 : decode cX5_line 8 = .ok (.iload_n 3, 1) := by decide +kernel
theorem dX5_line_9 : decode cX5_line 9 = .ok (.invokestatic 51, 3) := by decide +kernel
theorem dX5_line_12 : decode cX5_line 12 = .ok (.aload_n 0, 1) := by decide +kernel
theorem dX5_line_13 : decode cX5_line 13 = .ok (.invokevirtual 54, 3) := by decide +kernel
theorem dX5_line_16 : decode cX5_line 16 = .ok (.aload_n 0, 1) := by decide +kernel
theorem dX5_line_17 : decode cX5_line 17 = .ok (.getfield 10, 3) := by decide +kernel
theorem dX5_line_20 : decode cX5_line 20 = .ok (.iload_n 1, 1) := by decide +kernel
theorem dX5_line_21 : decode cX5_line 21 = .ok (.invokevirtual 57, 3) := by decide +kernel
theorem dX5_line_24 : decode cX5_line 24 = .ok (.astore 4, 2) := by decide +kernel
theorem dX5_line_26 : decode cX5_line 26 = .ok (.aload 4, 2) := by decide +kernel
theorem dX5_line_28 : decode cX5_line 28 = .ok (.iload_n 2, 1) := by decide +kernel
theorem dX5_line_29 : decode cX5_line 29 = .ok (.invokevirtual 61, 3) := by decide +kernel
theorem dX5_line_32 : decode cX5_line 32 = .ok (.istore 5, 2) := by decide +kernel
theorem dX5_line_34 : decode cX5_line 34 = .ok (.aload 4, 2) := by decide +kernel
theorem dX5_line_36 : decode cX5_line 36 = .ok (.iload_n 2, 1) := by decide +kernel
theorem dX5_line_37 : decode cX5_line 37 = .ok (.iload_n 3, 1) := by decide +kernel
theorem dX5_line_38 : decode cX5_line 38 = .ok (.invokevirtual 67, 3) := by decide +kernel
theorem dX5_line_41 : decode cX5_line 41 = .ok (.aload_n 0, 1) := by decide +kernel
theorem dX5_line_42 : decode cX5_line 42 = .ok (.iconst (-1), 1) := by decide +kernel
theorem dX5_line_43 : decode cX5_line 43 = .ok (.putfield 40, 3) := by decide +kernel
theorem dX5_line_46 : decode cX5_line 46 = .ok (.iload 5, 2) := by decide +kernel
theorem dX5_line_48 : decode cX5_line 48 = .ok (.ireturn, 1) := by decide +kernel
theorem dX5_libero_0 : decode cX5_libero 0 = .ok (.iload_n 1, 1) := by decide +kernel
theorem dX5_libero_1 : decode cX5_libero 1 = .ok (.invokestatic 44, 3) := by decide +kernel
theorem dX5_libero_4 : decode cX5_libero 4 = .ok (.iload_n 2, 1) := by decide +kernel
theorem dX5_libero_5 : decode cX5_libero 5 = .ok (.invokestatic 51, 3) := by decide +kernel
theorem dX5_libero_8 : decode cX5_libero 8 = .ok (.aload_n 0, 1) := by decide +kernel
theorem dX5_libero_9 : decode cX5_libero 9 = .ok (.invokevirtual 54, 3) := by decide +kernel
theorem dX5_libero_12 : decode cX5_libero 12 = .ok (.aload_n 0, 1) := by decide +kernel
theorem dX5_libero_13 : decode cX5_libero 13 = .ok (.getfield 10, 3) := by decide +kernel
theorem dX5_libero_16 : decode cX5_libero 16 = .ok (.iload_n 1, 1) := by decide +kernel
theorem dX5_libero_17 : decode cX5_libero 17 = .ok (.invokevirtual 57, 3) := by decide +kernel
theorem dX5_libero_20 : decode cX5_libero 20 = .ok (.astore_n 3, 1) := by decide +kernel
theorem dX5_libero_21 : decode cX5_libero 21 = .ok (.aload_n 3, 1) := by decide +kernel
theorem dX5_libero_22 : decode cX5_libero 22 = .ok (.getfield 71, 3) := by decide +kernel
theorem dX5_libero_25 : decode cX5_libero 25 = .ok (.istore 4, 2) := by decide +kernel
theorem dX5_libero_27 : decode cX5_libero 27 = .ok (.aload_n 3, 1) := by decide +kernel
theorem dX5_libero_28 : decode cX5_libero 28 = .ok (.iload_n 2, 1) := by decide +kernel
theorem dX5_libero_29 : decode cX5_libero 29 = .ok (.putfield 71, 3) := by decide +kernel
theorem dX5_libero_32 : decode cX5_libero 32 = .ok (.aload_n 0, 1) := by decide +kernel
theorem dX5_libero_33 : decode cX5_libero 33 = .ok (.iconst (-1), 1) := by decide +kernel
theorem dX5_libero_34 : decode cX5_libero 34 = .ok (.putfield 40, 3) := by decide +kernel
theorem dX5_libero_37 : decode cX5_libero 37 = .ok (.iload 4, 2) := by decide +kernel
theorem dX5_libero_39 : decode cX5_libero 39 = .ok (.ireturn, 1) := by decide +kernel
theorem dX5_begin_0 : decode cX5_begin 0 = .ok (.iload_n 1, 1) := by decide +kernel
theorem dX5_begin_1 : decode cX5_begin 1 = .ok (.invokestatic 44, 3) := by decide +kernel
theorem dX5_begin_4 : decode cX5_begin 4 = .ok (.aload_n 0, 1) := by decide +kernel
theorem dX5_begin_5 : decode cX5_begin 5 = .ok (.invokevirtual 54, 3) := by decide +kernel
theorem dX5_begin_8 : decode cX5_begin 8 = .ok (.aload_n 0, 1) := by decide +kernel
theorem dX5_begin_9 : decode cX5_begin 9 = .ok (.getfield 10, 3) := by decide +kernel
theorem dX5_begin_12 : decode cX5_begin 12 = .ok (.getfield 74, 3) := by decide +kernel
theorem dX5_begin_15 : decode cX5_begin 15 = .ok (.invokevirtual 78, 3) := by decide +kernel
theorem dX5_begin_18 : decode cX5_begin 18 = .ok (.ifCond .eq 16, 3) := by decide +kernel
theorem dX5_begin_21 : decode cX5_begin 21 = .ok (.aload_n 0, 1) := by decide +kernel
theorem dX5_begin_22 : decode cX5_begin 22 = .ok (.getfield 10, 3) := by decide +kernel
theorem dX5_begin_25 : decode cX5_begin 25 = .ok (.getfield 82, 3) := by decide +kernel
theorem dX5_begin_28 : decode cX5_begin 28 = .ok (.invokevirtual 78, 3) := by decide +kernel
theorem dX5_begin_31 : decode cX5_begin 31 = .ok (.ifCond .ne 13, 3) := by decide +kernel
theorem dX5_begin_34 : decode cX5_begin 34 = .ok (.new 85, 3) := by decide +kernel
theorem dX5_begin_37 : decode cX5_begin 37 = .ok (.dup, 1) := by decide +kernel
theorem dX5_begin_38 : decode cX5_begin 38 = .ok (.ldc 87, 2) := by decide +kernel
theorem dX5_begin_40 : decode cX5_begin 40 = .ok (.invokespecial 89, 3) := by decide +kernel
theorem dX5_begin_43 : decode cX5_begin 43 = .ok (.athrow, 1) := by decide +kernel
theorem dX5_begin_44 : decode cX5_begin 44 = .ok (.aload_n 0, 1) := by decide +kernel
theorem dX5_begin_45 : decode cX5_begin 45 = .ok (.getfield 10, 3) := by decide +kernel
theorem dX5_begin_48 : decode cX5_begin 48 = .ok (.iload_n 1, 1) := by decide +kernel
theorem dX5_begin_49 : decode cX5_begin 49 = .ok (.invokevirtual 92, 3) := by decide +kernel
theorem dX5_begin_52 : decode cX5_begin 52 = .ok (.aload_n 0, 1) := by decide +kernel
theorem dX5_begin_53 : decode cX5_begin 53 = .ok (.getfield 29, 3) := by decide +kernel
theorem dX5_begin_56 : decode cX5_begin 56 = .ok (.iconst 0, 1) := by decide +kernel
theorem dX5_begin_57 : decode cX5_begin 57 = .ok (.invokevirtual 95, 3) := by decide +kernel
theorem dX5_begin_60 : decode cX5_begin 60 = .ok (.aload_n 0, 1) := by decide +kernel
theorem dX5_begin_61 : decode cX5_begin 61 = .ok (.iconst 0, 1) := by decide +kernel
theorem dX5_begin_62 : decode cX5_begin 62 = .ok (.invokevirtual 98, 3) := by decide +kernel
theorem dX5_begin_65 : decode cX5_begin 65 = .ok (.aload_n 0, 1) := by decide +kernel
theorem dX5_begin_66 : decode cX5_begin 66 = .ok (.iconst 1, 1) := by decide +kernel
theorem dX5_begin_67 : decode cX5_begin 67 = .ok (.invokevirtual 98, 3) := by decide +kernel
theorem dX5_begin_70 : decode cX5_begin 70 = .ok (.aload_n 0, 1) := by decide +kernel
theorem dX5_begin_71 : decode cX5_begin 71 = .ok (.getfield 29, 3) := by decide +kernel
theorem dX5_begin_74 : decode cX5_begin 74 = .ok (.iconst 2, 1) := by decide +kernel
theorem dX5_begin_75 : decode cX5_begin 75 = .ok (.iload_n 1, 1) := by decide +kernel
theorem dX5_begin_76 : decode cX5_begin 76 = .ok (.iconst 0, 1) := by decide +kernel
theorem dX5_begin_77 : decode cX5_begin 77 = .ok (.iconst 0, 1) := by decide +kernel
theorem dX5_begin_78 : decode cX5_begin 78 = .ok (.invokevirtual 101, 3) := by decide +kernel
theorem dX5_begin_81 : decode cX5_begin 81 = .ok (.aload_n 0, 1) := by decide +kernel
theorem dX5_begin_82 : decode cX5_begin 82 = .ok (.iconst (-1), 1) := by decide +kernel
theorem dX5_begin_83 : decode cX5_begin 83 = .ok (.putfield 40, 3) := by decide +kernel
theorem dX5_begin_86 : decode cX5_begin 86 = .ok (.aload_n 0, 1) := by decide +kernel
theorem dX5_begin_87 : decode cX5_begin 87 = .ok (.iconst 0, 1) := by decide +kernel
theorem dX5_begin_88 : decode cX5_begin 88 = .ok (.putfield 105, 3) := by decide +kernel
theorem dX5_begin_91 : decode cX5_begin 91 = .ok (.aload_n 0, 1) := by decide +kernel
theorem dX5_begin_92 : decode cX5_begin 92 = .ok (.getfield 10, 3) := by decide +kernel
theorem dX5_begin_95 : decode cX5_begin 95 = .ok (.invokevirtual 108, 3) := by decide +kernel
theorem dX5_begin_98 : decode cX5_begin 98 = .ok (.iconst 1, 1) := by decide +kernel
theorem dX5_begin_99 : decode cX5_begin 99 = .ok (.iadd, 1) := by decide +kernel
theorem dX5_begin_100 : decode cX5_begin 100 = .ok (.ireturn, 1) := by decide +kernel
theorem dX5_serve_0 : decode cX5_serve 0 = .ok (.iload_n 1, 1) := by decide +kernel
theorem dX5_serve_1 : decode cX5_serve 1 = .ok (.invokestatic 51, 3) := by decide +kernel
theorem dX5_serve_4 : decode cX5_serve 4 = .ok (.aload_n 0, 1) := by decide +kernel
theorem dX5_serve_5 : decode cX5_serve 5 = .ok (.invokevirtual 112, 3) := by decide +kernel
theorem dX5_serve_8 : decode cX5_serve 8 = .ok (.aload_n 0, 1) := by decide +kernel
theorem dX5_serve_9 : decode cX5_serve 9 = .ok (.getfield 10, 3) := by decide +kernel
theorem dX5_serve_12 : decode cX5_serve 12 = .ok (.getfield 115, 3) := by decide +kernel
theorem dX5_serve_15 : decode cX5_serve 15 = .ok (.istore_n 2, 1) := by decide +kernel
theorem dX5_serve_16 : decode cX5_serve 16 = .ok (.aload_n 0, 1) := by decide +kernel
theorem dX5_serve_17 : decode cX5_serve 17 = .ok (.getfield 10, 3) := by decide +kernel
theorem dX5_serve_20 : decode cX5_serve 20 = .ok (.iload_n 2, 1) := by decide +kernel
theorem dX5_serve_21 : decode cX5_serve 21 = .ok (.invokevirtual 57, 3) := by decide +kernel
theorem dX5_serve_24 : decode cX5_serve 24 = .ok (.iload_n 1, 1) := by decide +kernel
theorem dX5_serve_25 : decode cX5_serve 25 = .ok (.invokevirtual 118, 3) := by decide +kernel
theorem dX5_serve_28 : decode cX5_serve 28 = .ok (.iconst (-1), 1) := by decide +kernel
theorem dX5_serve_29 : decode cX5_serve 29 = .ok (.if_icmp .ne 13, 3) := by decide +kernel
theorem dX5_serve_32 : decode cX5_serve 32 = .ok (.new 85, 3) := by decide +kernel
theorem dX5_serve_35 : decode cX5_serve 35 = .ok (.dup, 1) := by decide +kernel
theorem dX5_serve_36 : decode cX5_serve 36 = .ok (.ldc 121, 2) := by decide +kernel
theorem dX5_serve_38 : decode cX5_serve 38 = .ok (.invokespecial 89, 3) := by decide +kernel
theorem dX5_serve_41 : decode cX5_serve 41 = .ok (.athrow, 1) := by decide +kernel
theorem dX5_serve_42 : decode cX5_serve 42 = .ok (.aload_n 0, 1) := by decide +kernel
theorem dX5_serve_43 : decode cX5_serve 43 = .ok (.getfield 29, 3) := by decide +kernel
theorem dX5_serve_46 : decode cX5_serve 46 = .ok (.iconst 3, 1) := by decide +kernel
theorem dX5_serve_47 : decode cX5_serve 47 = .ok (.iload_n 2, 1) := by decide +kernel
theorem dX5_serve_48 : decode cX5_serve 48 = .ok (.iload_n 1, 1) := by decide +kernel
theorem dX5_serve_49 : decode cX5_serve 49 = .ok (.iconst 0, 1) := by decide +kernel
theorem dX5_serve_50 : decode cX5_serve 50 = .ok (.invokevirtual 101, 3) := by decide +kernel
theorem dX5_serve_53 : decode cX5_serve 53 = .ok (.aload_n 0, 1) := by decide +kernel
theorem dX5_serve_54 : decode cX5_serve 54 = .ok (.getfield 22, 3) := by decide +kernel
theorem dX5_serve_57 : decode cX5_serve 57 = .ok (.iload_n 2, 1) := by decide +kernel
theorem dX5_serve_58 : decode cX5_serve 58 = .ok (.iload_n 1, 1) := by decide +kernel
theorem dX5_serve_59 : decode cX5_serve 59 = .ok (.invokevirtual 123, 3) := by decide +kernel
theorem dX5_serve_62 : decode cX5_serve 62 = .ok (.aload_n 0, 1) := by decide +kernel
theorem dX5_serve_63 : decode cX5_serve 63 = .ok (.iconst (-1), 1) := by decide +kernel
theorem dX5_serve_64 : decode cX5_serve 64 = .ok (.putfield 40, 3) := by decide +kernel
theorem dX5_serve_67 : decode cX5_serve 67 = .ok (.aload_n 0, 1) := by decide +kernel
theorem dX5_serve_68 : decode cX5_serve 68 = .ok (.getfield 10, 3) := by decide +kernel
theorem dX5_serve_71 : decode cX5_serve 71 = .ok (.iload_n 1, 1) := by decide +kernel
theorem dX5_serve_72 : decode cX5_serve 72 = .ok (.invokevirtual 126, 3) := by decide +kernel
theorem dX5_serve_75 : decode cX5_serve 75 = .ok (.ireturn, 1) := by decide +kernel
theorem dX5_touch_0 : decode cX5_touch 0 = .ok (.iload_n 1, 1) := by decide +kernel
theorem dX5_touch_1 : decode cX5_touch 1 = .ok (.invokestatic 44, 3) := by decide +kernel
theorem dX5_touch_4 : decode cX5_touch 4 = .ok (.iload_n 2, 1) := by decide +kernel
theorem dX5_touch_5 : decode cX5_touch 5 = .ok (.invokestatic 51, 3) := by decide +kernel
theorem dX5_touch_8 : decode cX5_touch 8 = .ok (.iload_n 3, 1) := by decide +kernel
theorem dX5_touch_9 : decode cX5_touch 9 = .ok (.ifCond .lt 8, 3) := by decide +kernel
theorem dX5_touch_12 : decode cX5_touch 12 = .ok (.iload_n 3, 1) := by decide +kernel
theorem dX5_touch_13 : decode cX5_touch 13 = .ok (.iconst 2, 1) := by decide +kernel
theorem dX5_touch_14 : decode cX5_touch 14 = .ok (.if_icmp .le 13, 3) := by decide +kernel
theorem dX5_touch_17 : decode cX5_touch 17 = .ok (.new 130, 3) := by decide +kernel
theorem dX5_touch_20 : decode cX5_touch 20 = .ok (.dup, 1) := by decide +kernel
theorem dX5_touch_21 : decode cX5_touch 21 = .ok (.ldc 132, 2) := by decide +kernel
theorem dX5_touch_23 : decode cX5_touch 23 = .ok (.invokespecial 134, 3) := by decide +kernel
theorem dX5_touch_26 : decode cX5_touch 26 = .ok (.athrow, 1) := by decide +kernel
theorem dX5_touch_27 : decode cX5_touch 27 = .ok (.aload_n 0, 1) := by decide +kernel
theorem dX5_touch_28 : decode cX5_touch 28 = .ok (.invokevirtual 135, 3) := by decide +kernel
theorem dX5_touch_31 : decode cX5_touch 31 = .ok (.aload_n 0, 1) := by decide +kernel
theorem dX5_touch_32 : decode cX5_touch 32 = .ok (.getfield 10, 3) := by decide +kernel
theorem dX5_touch_35 : decode cX5_touch 35 = .ok (.iload_n 1, 1) := by decide +kernel
theorem dX5_touch_36 : decode cX5_touch 36 = .ok (.invokevirtual 57, 3) := by decide +kernel
theorem dX5_touch_39 : decode cX5_touch 39 = .ok (.astore 5, 2) := by decide +kernel
theorem dX5_touch_41 : decode cX5_touch 41 = .ok (.aload 5, 2) := by decide +kernel
theorem dX5_touch_43 : decode cX5_touch 43 = .ok (.iload_n 2, 1) := by decide +kernel
theorem dX5_touch_44 : decode cX5_touch 44 = .ok (.invokevirtual 118, 3) := by decide +kernel
theorem dX5_touch_47 : decode cX5_touch 47 = .ok (.iconst (-1), 1) := by decide +kernel
theorem dX5_touch_48 : decode cX5_touch 48 = .ok (.if_icmp .ne 13, 3) := by decide +kernel
theorem dX5_touch_51 : decode cX5_touch 51 = .ok (.new 85, 3) := by decide +kernel
theorem dX5_touch_54 : decode cX5_touch 54 = .ok (.dup, 1) := by decide +kernel
theorem dX5_touch_55 : decode cX5_touch 55 = .ok (.ldc 121, 2) := by decide +kernel
theorem dX5_touch_57 : decode cX5_touch 57 = .ok (.invokespecial 89, 3) := by decide +kernel
theorem dX5_touch_60 : decode cX5_touch 60 = .ok (.athrow, 1) := by decide +kernel
theorem dX5_touch_61 : decode cX5_touch 61 = .ok (.aload_n 0, 1) := by decide +kernel
theorem dX5_touch_62 : decode cX5_touch 62 = .ok (.getfield 22, 3) := by decide +kernel
theorem dX5_touch_65 : decode cX5_touch 65 = .ok (.iload_n 1, 1) := by decide +kernel
theorem dX5_touch_66 : decode cX5_touch 66 = .ok (.iload_n 2, 1) := by decide +kernel
theorem dX5_touch_67 : decode cX5_touch 67 = .ok (.iload_n 3, 1) := by decide +kernel
theorem dX5_touch_68 : decode cX5_touch 68 = .ok (.invokevirtual 138, 3) := by decide +kernel
theorem dX5_touch_71 : decode cX5_touch 71 = .ok (.istore 6, 2) := by decide +kernel
theorem dX5_touch_73 : decode cX5_touch 73 = .ok (.iload 6, 2) := by decide +kernel
theorem dX5_touch_75 : decode cX5_touch 75 = .ok (.ifCond .ne 14, 3) := by decide +kernel
theorem dX5_touch_78 : decode cX5_touch 78 = .ok (.aload 5, 2) := by decide +kernel
theorem dX5_touch_80 : decode cX5_touch 80 = .ok (.iload_n 2, 1) := by decide +kernel
theorem dX5_touch_81 : decode cX5_touch 81 = .ok (.iload_n 3, 1) := by decide +kernel
theorem dX5_touch_82 : decode cX5_touch 82 = .ok (.iload 4, 2) := by decide +kernel
theorem dX5_touch_84 : decode cX5_touch 84 = .ok (.invokevirtual 142, 3) := by decide +kernel
theorem dX5_touch_87 : decode cX5_touch 87 = .ok (.istore 6, 2) := by decide +kernel
theorem dX5_touch_89 : decode cX5_touch 89 = .ok (.iload 6, 2) := by decide +kernel
theorem dX5_touch_91 : decode cX5_touch 91 = .ok (.ifCond .ne 16, 3) := by decide +kernel
theorem dX5_touch_94 : decode cX5_touch 94 = .ok (.aload_n 0, 1) := by decide +kernel
theorem dX5_touch_95 : decode cX5_touch 95 = .ok (.getfield 22, 3) := by decide +kernel
theorem dX5_touch_98 : decode cX5_touch 98 = .ok (.iload_n 1, 1) := by decide +kernel
theorem dX5_touch_99 : decode cX5_touch 99 = .ok (.iload_n 2, 1) := by decide +kernel
theorem dX5_touch_100 : decode cX5_touch 100 = .ok (.iload_n 3, 1) := by decide +kernel
theorem dX5_touch_101 : decode cX5_touch 101 = .ok (.invokevirtual 145, 3) := by decide +kernel
theorem dX5_touch_104 : decode cX5_touch 104 = .ok (.goto 12, 3) := by decide +kernel
theorem dX5_touch_107 : decode cX5_touch 107 = .ok (.aload_n 0, 1) := by decide +kernel
theorem dX5_touch_108 : decode cX5_touch 108 = .ok (.iconst 1, 1) := by decide +kernel
theorem dX5_touch_109 : decode cX5_touch 109 = .ok (.iload_n 1, 1) := by decide +kernel
theorem dX5_touch_110 : decode cX5_touch 110 = .ok (.isub, 1) := by decide +kernel
theorem dX5_touch_111 : decode cX5_touch 111 = .ok (.iload 6, 2) := by decide +kernel
theorem dX5_touch_113 : decode cX5_touch 113 = .ok (.invokevirtual 149, 3) := by decide +kernel
theorem dX5_touch_116 : decode cX5_touch 116 = .ok (.iload 6, 2) := by decide +kernel
theorem dX5_touch_118 : decode cX5_touch 118 = .ok (.ireturn, 1) := by decide +kernel
theorem dX5_fall_0 : decode cX5_fall 0 = .ok (.iload_n 1, 1) := by decide +kernel
theorem dX5_fall_1 : decode cX5_fall 1 = .ok (.iconst (-1), 1) := by decide +kernel
theorem dX5_fall_2 : decode cX5_fall 2 = .ok (.if_icmp .eq 7, 3) := by decide +kernel
theorem dX5_fall_5 : decode cX5_fall 5 = .ok (.iload_n 1, 1) := by decide +kernel
theorem dX5_fall_6 : decode cX5_fall 6 = .ok (.invokestatic 44, 3) := by decide +kernel
theorem dX5_fall_9 : decode cX5_fall 9 = .ok (.aload_n 0, 1) := by decide +kernel
theorem dX5_fall_10 : decode cX5_fall 10 = .ok (.invokevirtual 135, 3) := by decide +kernel
theorem dX5_fall_13 : decode cX5_fall 13 = .ok (.iload_n 1, 1) := by decide +kernel
theorem dX5_fall_14 : decode cX5_fall 14 = .ok (.iconst (-1), 1) := by decide +kernel
theorem dX5_fall_15 : decode cX5_fall 15 = .ok (.if_icmp .ne 13, 3) := by decide +kernel
theorem dX5_fall_18 : decode cX5_fall 18 = .ok (.aload_n 0, 1) := by decide +kernel
theorem dX5_fall_19 : decode cX5_fall 19 = .ok (.getfield 22, 3) := by decide +kernel
theorem dX5_fall_22 : decode cX5_fall 22 = .ok (.getfield 152, 3) := by decide +kernel
theorem dX5_fall_25 : decode cX5_fall 25 = .ok (.goto 4, 3) := by decide +kernel
theorem dX5_fall_28 : decode cX5_fall 28 = .ok (.iload_n 1, 1) := by decide +kernel
theorem dX5_fall_29 : decode cX5_fall 29 = .ok (.istore_n 2, 1) := by decide +kernel
theorem dX5_fall_30 : decode cX5_fall 30 = .ok (.aload_n 0, 1) := by decide +kernel
theorem dX5_fall_31 : decode cX5_fall 31 = .ok (.iconst 1, 1) := by decide +kernel
theorem dX5_fall_32 : decode cX5_fall 32 = .ok (.iload_n 2, 1) := by decide +kernel
theorem dX5_fall_33 : decode cX5_fall 33 = .ok (.isub, 1) := by decide +kernel
theorem dX5_fall_34 : decode cX5_fall 34 = .ok (.iload_n 1, 1) := by decide +kernel
theorem dX5_fall_35 : decode cX5_fall 35 = .ok (.iconst (-1), 1) := by decide +kernel
theorem dX5_fall_36 : decode cX5_fall 36 = .ok (.if_icmp .ne 8, 3) := by decide +kernel
theorem dX5_fall_39 : decode cX5_fall 39 = .ok (.bipush 7, 2) := by decide +kernel
theorem dX5_fall_41 : decode cX5_fall 41 = .ok (.goto 5, 3) := by decide +kernel
theorem dX5_fall_44 : decode cX5_fall 44 = .ok (.bipush 6, 2) := by decide +kernel
theorem dX5_fall_46 : decode cX5_fall 46 = .ok (.invokevirtual 149, 3) := by decide +kernel
theorem dX5_fall_49 : decode cX5_fall 49 = .ok (.iconst 1, 1) := by decide +kernel
theorem dX5_fall_50 : decode cX5_fall 50 = .ok (.iload_n 2, 1) := by decide +kernel
theorem dX5_fall_51 : decode cX5_fall 51 = .ok (.isub, 1) := by decide +kernel
theorem dX5_fall_52 : decode cX5_fall 52 = .ok (.ireturn, 1) := by decide +kernel
theorem dX5_net_0 : decode cX5_net 0 = .ok (.iload_n 1, 1) := by decide +kernel
theorem dX5_net_1 : decode cX5_net 1 = .ok (.invokestatic 44, 3) := by decide +kernel
theorem dX5_net_4 : decode cX5_net 4 = .ok (.aload_n 0, 1) := by decide +kernel
theorem dX5_net_5 : decode cX5_net 5 = .ok (.invokevirtual 135, 3) := by decide +kernel
theorem dX5_net_8 : decode cX5_net 8 = .ok (.iload_n 2, 1) := by decide +kernel
theorem dX5_net_9 : decode cX5_net 9 = .ok (.ifCond .eq 15, 3) := by decide +kernel
theorem dX5_net_12 : decode cX5_net 12 = .ok (.aload_n 0, 1) := by decide +kernel
theorem dX5_net_13 : decode cX5_net 13 = .ok (.iconst 1, 1) := by decide +kernel
theorem dX5_net_14 : decode cX5_net 14 = .ok (.iload_n 1, 1) := by decide +kernel
theorem dX5_net_15 : decode cX5_net 15 = .ok (.isub, 1) := by decide +kernel
theorem dX5_net_16 : decode cX5_net 16 = .ok (.bipush 8, 2) := by decide +kernel
theorem dX5_net_18 : decode cX5_net 18 = .ok (.invokevirtual 149, 3) := by decide +kernel
theorem dX5_net_21 : decode cX5_net 21 = .ok (.goto 11, 3) := by decide +kernel
theorem dX5_net_24 : decode cX5_net 24 = .ok (.aload_n 0, 1) := by decide +kernel
theorem dX5_net_25 : decode cX5_net 25 = .ok (.getfield 22, 3) := by decide +kernel
theorem dX5_net_28 : decode cX5_net 28 = .ok (.iload_n 1, 1) := by decide +kernel
theorem dX5_net_29 : decode cX5_net 29 = .ok (.invokevirtual 155, 3) := by decide +kernel
theorem dX5_net_32 : decode cX5_net 32 = .ok (.iload_n 2, 1) := by decide +kernel
theorem dX5_net_33 : decode cX5_net 33 = .ok (.ireturn, 1) := by decide +kernel
theorem dX5_find_0 : decode cX5_find 0 = .ok (.aload_n 0, 1) := by decide +kernel
theorem dX5_find_1 : decode cX5_find 1 = .ok (.getfield 22, 3) := by decide +kernel
theorem dX5_find_4 : decode cX5_find 4 = .ok (.getfield 158, 3) := by decide +kernel
theorem dX5_find_7 : decode cX5_find 7 = .ok (.ifCond .ne 14, 3) := by decide +kernel
theorem dX5_find_10 : decode cX5_find 10 = .ok (.aload_n 0, 1) := by decide +kernel
theorem dX5_find_11 : decode cX5_find 11 = .ok (.getfield 10, 3) := by decide +kernel
theorem dX5_find_14 : decode cX5_find 14 = .ok (.getfield 162, 3) := by decide +kernel
theorem dX5_find_17 : decode cX5_find 17 = .ok (.iconst (-1), 1) := by decide +kernel
theorem dX5_find_18 : decode cX5_find 18 = .ok (.if_icmp .ne 13, 3) := by decide +kernel
theorem dX5_find_21 : decode cX5_find 21 = .ok (.new 85, 3) := by decide +kernel
theorem dX5_find_24 : decode cX5_find 24 = .ok (.dup, 1) := by decide +kernel
theorem dX5_find_25 : decode cX5_find 25 = .ok (.ldc 165, 2) := by decide +kernel
theorem dX5_find_27 : decode cX5_find 27 = .ok (.invokespecial 89, 3) := by decide +kernel
theorem dX5_find_30 : decode cX5_find 30 = .ok (.athrow, 1) := by decide +kernel
theorem dX5_find_31 : decode cX5_find 31 = .ok (.aload_n 0, 1) := by decide +kernel
theorem dX5_find_32 : decode cX5_find 32 = .ok (.getfield 29, 3) := by decide +kernel
theorem dX5_find_35 : decode cX5_find 35 = .ok (.iconst 5, 1) := by decide +kernel
theorem dX5_find_36 : decode cX5_find 36 = .ok (.aload_n 0, 1) := by decide +kernel
theorem dX5_find_37 : decode cX5_find 37 = .ok (.getfield 10, 3) := by decide +kernel
theorem dX5_find_40 : decode cX5_find 40 = .ok (.getfield 115, 3) := by decide +kernel
theorem dX5_find_43 : decode cX5_find 43 = .ok (.iconst 0, 1) := by decide +kernel
theorem dX5_find_44 : decode cX5_find 44 = .ok (.iconst 0, 1) := by decide +kernel
theorem dX5_find_45 : decode cX5_find 45 = .ok (.invokevirtual 101, 3) := by decide +kernel
theorem dX5_find_48 : decode cX5_find 48 = .ok (.aload_n 0, 1) := by decide +kernel
theorem dX5_find_49 : decode cX5_find 49 = .ok (.getfield 10, 3) := by decide +kernel
theorem dX5_find_52 : decode cX5_find 52 = .ok (.invokevirtual 167, 3) := by decide +kernel
theorem dX5_find_55 : decode cX5_find 55 = .ok (.istore_n 1, 1) := by decide +kernel
theorem dX5_find_56 : decode cX5_find 56 = .ok (.aload_n 0, 1) := by decide +kernel
theorem dX5_find_57 : decode cX5_find 57 = .ok (.aload_n 0, 1) := by decide +kernel
theorem dX5_find_58 : decode cX5_find 58 = .ok (.getfield 10, 3) := by decide +kernel
theorem dX5_find_61 : decode cX5_find 61 = .ok (.getfield 115, 3) := by decide +kernel
theorem dX5_find_64 : decode cX5_find 64 = .ok (.invokevirtual 170, 3) := by decide +kernel
theorem dX5_find_67 : decode cX5_find 67 = .ok (.aload_n 0, 1) := by decide +kernel
theorem dX5_find_68 : decode cX5_find 68 = .ok (.iconst (-1), 1) := by decide +kernel
theorem dX5_find_69 : decode cX5_find 69 = .ok (.putfield 40, 3) := by decide +kernel
theorem dX5_find_72 : decode cX5_find 72 = .ok (.aload_n 0, 1) := by decide +kernel
theorem dX5_find_73 : decode cX5_find 73 = .ok (.bipush 9, 2) := by decide +kernel
theorem dX5_find_75 : decode cX5_find 75 = .ok (.putfield 105, 3) := by decide +kernel
theorem dX5_find_78 : decode cX5_find 78 = .ok (.iload_n 1, 1) := by decide +kernel
theorem dX5_find_79 : decode cX5_find 79 = .ok (.ireturn, 1) := by decide +kernel
theorem dX5_exchange_0 : decode cX5_exchange 0 = .ok (.iload_n 1, 1) := by decide +kernel
theorem dX5_exchange_1 : decode cX5_exchange 1 = .ok (.invokestatic 44, 3) := by decide +kernel
theorem dX5_exchange_4 : decode cX5_exchange 4 = .ok (.iload_n 2, 1) := by decide +kernel
theorem dX5_exchange_5 : decode cX5_exchange 5 = .ok (.invokestatic 51, 3) := by decide +kernel
theorem dX5_exchange_8 : decode cX5_exchange 8 = .ok (.aload_n 0, 1) := by decide +kernel
theorem dX5_exchange_9 : decode cX5_exchange 9 = .ok (.invokevirtual 112, 3) := by decide +kernel
theorem dX5_exchange_12 : decode cX5_exchange 12 = .ok (.aload_n 0, 1) := by decide +kernel
theorem dX5_exchange_13 : decode cX5_exchange 13 = .ok (.getfield 10, 3) := by decide +kernel
theorem dX5_exchange_16 : decode cX5_exchange 16 = .ok (.iload_n 1, 1) := by decide +kernel
theorem dX5_exchange_17 : decode cX5_exchange 17 = .ok (.invokevirtual 57, 3) := by decide +kernel
theorem dX5_exchange_20 : decode cX5_exchange 20 = .ok (.astore_n 3, 1) := by decide +kernel
theorem dX5_exchange_21 : decode cX5_exchange 21 = .ok (.aload_n 3, 1) := by decide +kernel
theorem dX5_exchange_22 : decode cX5_exchange 22 = .ok (.iload_n 2, 1) := by decide +kernel
theorem dX5_exchange_23 : decode cX5_exchange 23 = .ok (.invokevirtual 173, 3) := by decide +kernel
theorem dX5_exchange_26 : decode cX5_exchange 26 = .ok (.ifCond .ne 13, 3) := by decide +kernel
theorem dX5_exchange_29 : decode cX5_exchange 29 = .ok (.new 85, 3) := by decide +kernel
theorem dX5_exchange_32 : decode cX5_exchange 32 = .ok (.dup, 1) := by decide +kernel
theorem dX5_exchange_33 : decode cX5_exchange 33 = .ok (.ldc 176, 2) := by decide +kernel
theorem dX5_exchange_35 : decode cX5_exchange 35 = .ok (.invokespecial 89, 3) := by decide +kernel
theorem dX5_exchange_38 : decode cX5_exchange 38 = .ok (.athrow, 1) := by decide +kernel
theorem dX5_exchange_39 : decode cX5_exchange 39 = .ok (.aload_n 0, 1) := by decide +kernel
theorem dX5_exchange_40 : decode cX5_exchange 40 = .ok (.getfield 29, 3) := by decide +kernel
theorem dX5_exchange_43 : decode cX5_exchange 43 = .ok (.bipush 6, 2) := by decide +kernel
theorem dX5_exchange_45 : decode cX5_exchange 45 = .ok (.iload_n 1, 1) := by decide +kernel
theorem dX5_exchange_46 : decode cX5_exchange 46 = .ok (.iload_n 2, 1) := by decide +kernel
theorem dX5_exchange_47 : decode cX5_exchange 47 = .ok (.iconst 0, 1) := by decide +kernel
theorem dX5_exchange_48 : decode cX5_exchange 48 = .ok (.invokevirtual 101, 3) := by decide +kernel
theorem dX5_exchange_51 : decode cX5_exchange 51 = .ok (.aload_n 3, 1) := by decide +kernel
theorem dX5_exchange_52 : decode cX5_exchange 52 = .ok (.iload_n 2, 1) := by decide +kernel
theorem dX5_exchange_53 : decode cX5_exchange 53 = .ok (.invokevirtual 178, 3) := by decide +kernel
theorem dX5_exchange_56 : decode cX5_exchange 56 = .ok (.aload_n 0, 1) := by decide +kernel
theorem dX5_exchange_57 : decode cX5_exchange 57 = .ok (.iconst (-1), 1) := by decide +kernel
theorem dX5_exchange_58 : decode cX5_exchange 58 = .ok (.putfield 40, 3) := by decide +kernel
theorem dX5_exchange_61 : decode cX5_exchange 61 = .ok (.aload_n 3, 1) := by decide +kernel
theorem dX5_exchange_62 : decode cX5_exchange 62 = .ok (.invokevirtual 181, 3) := by decide +kernel
theorem dX5_exchange_65 : decode cX5_exchange 65 = .ok (.ireturn, 1) := by decide +kernel
theorem dX5_substitute_0 : decode cX5_substitute 0 = .ok (.iload_n 1, 1) := by decide +kernel
theorem dX5_substitute_1 : decode cX5_substitute 1 = .ok (.invokestatic 44, 3) := by decide +kernel
theorem dX5_substitute_4 : decode cX5_substitute 4 = .ok (.iload_n 2, 1) := by decide +kernel
theorem dX5_substitute_5 : decode cX5_substitute 5 = .ok (.invokestatic 51, 3) := by decide +kernel
theorem dX5_substitute_8 : decode cX5_substitute 8 = .ok (.iload_n 3, 1) := by decide +kernel
theorem dX5_substitute_9 : decode cX5_substitute 9 = .ok (.invokestatic 51, 3) := by decide +kernel
theorem dX5_substitute_12 : decode cX5_substitute 12 = .ok (.aload_n 0, 1) := by decide +kernel
theorem dX5_substitute_13 : decode cX5_substitute 13 = .ok (.invokevirtual 112, 3) := by decide +kernel
theorem dX5_substitute_16 : decode cX5_substitute 16 = .ok (.aload_n 0, 1) := by decide +kernel
theorem dX5_substitute_17 : decode cX5_substitute 17 = .ok (.getfield 10, 3) := by decide +kernel
theorem dX5_substitute_20 : decode cX5_substitute 20 = .ok (.iload_n 1, 1) := by decide +kernel
theorem dX5_substitute_21 : decode cX5_substitute 21 = .ok (.invokevirtual 57, 3) := by decide +kernel
theorem dX5_substitute_24 : decode cX5_substitute 24 = .ok (.astore 4, 2) := by decide +kernel
theorem dX5_substitute_26 : decode cX5_substitute 26 = .ok (.aload 4, 2) := by decide +kernel
theorem dX5_substitute_28 : decode cX5_substitute 28 = .ok (.iload_n 2, 1) := by decide +kernel
theorem dX5_substitute_29 : decode cX5_substitute 29 = .ok (.iload_n 3, 1) := by decide +kernel
theorem dX5_substitute_30 : decode cX5_substitute 30 = .ok (.invokevirtual 184, 3) := by decide +kernel
theorem dX5_substitute_33 : decode cX5_substitute 33 = .ok (.ifCond .ne 13, 3) := by decide +kernel
theorem dX5_substitute_36 : decode cX5_substitute 36 = .ok (.new 85, 3) := by decide +kernel
theorem dX5_substitute_39 : decode cX5_substitute 39 = .ok (.dup, 1) := by decide +kernel
theorem dX5_substitute_40 : decode cX5_substitute 40 = .ok (.ldc 188, 2) := by decide +kernel
theorem dX5_substitute_42 : decode cX5_substitute 42 = .ok (.invokespecial 89, 3) := by decide +kernel
theorem dX5_substitute_45 : decode cX5_substitute 45 = .ok (.athrow, 1) := by decide +kernel
theorem dX5_substitute_46 : decode cX5_substitute 46 = .ok (.aload_n 0, 1) := by decide +kernel
theorem dX5_substitute_47 : decode cX5_substitute 47 = .ok (.getfield 29, 3) := by decide +kernel
theorem dX5_substitute_50 : decode cX5_substitute 50 = .ok (.bipush 7, 2) := by decide +kernel
theorem dX5_substitute_52 : decode cX5_substitute 52 = .ok (.iload_n 1, 1) := by decide +kernel
theorem dX5_substitute_53 : decode cX5_substitute 53 = .ok (.iload_n 2, 1) := by decide +kernel
theorem dX5_substitute_54 : decode cX5_substitute 54 = .ok (.iload_n 3, 1) := by decide +kernel
theorem dX5_substitute_55 : decode cX5_substitute 55 = .ok (.invokevirtual 101, 3) := by decide +kernel
theorem dX5_substitute_58 : decode cX5_substitute 58 = .ok (.aload 4, 2) := by decide +kernel
theorem dX5_substitute_60 : decode cX5_substitute 60 = .ok (.iload_n 2, 1) := by decide +kernel
theorem dX5_substitute_61 : decode cX5_substitute 61 = .ok (.iload_n 3, 1) := by decide +kernel
theorem dX5_substitute_62 : decode cX5_substitute 62 = .ok (.invokevirtual 190, 3) := by decide +kernel
theorem dX5_substitute_65 : decode cX5_substitute 65 = .ok (.aload_n 0, 1) := by decide +kernel
theorem dX5_substitute_66 : decode cX5_substitute 66 = .ok (.iconst (-1), 1) := by decide +kernel
theorem dX5_substitute_67 : decode cX5_substitute 67 = .ok (.putfield 40, 3) := by decide +kernel
theorem dX5_substitute_70 : decode cX5_substitute 70 = .ok (.aload 4, 2) := by decide +kernel
theorem dX5_substitute_72 : decode cX5_substitute 72 = .ok (.getfield 193, 3) := by decide +kernel
theorem dX5_substitute_75 : decode cX5_substitute 75 = .ok (.ireturn, 1) := by decide +kernel
theorem dX5_challenge_0 : decode cX5_challenge 0 = .ok (.iload_n 1, 1) := by decide +kernel
theorem dX5_challenge_1 : decode cX5_challenge 1 = .ok (.invokestatic 44, 3) := by decide +kernel
theorem dX5_challenge_4 : decode cX5_challenge 4 = .ok (.aload_n 0, 1) := by decide +kernel
theorem dX5_challenge_5 : decode cX5_challenge 5 = .ok (.getfield 10, 3) := by decide +kernel
theorem dX5_challenge_8 : decode cX5_challenge 8 = .ok (.iload_n 1, 1) := by decide +kernel
theorem dX5_challenge_9 : decode cX5_challenge 9 = .ok (.invokevirtual 57, 3) := by decide +kernel
theorem dX5_challenge_12 : decode cX5_challenge 12 = .ok (.astore_n 2, 1) := by decide +kernel
theorem dX5_challenge_13 : decode cX5_challenge 13 = .ok (.aload_n 0, 1) := by decide +kernel
theorem dX5_challenge_14 : decode cX5_challenge 14 = .ok (.getfield 40, 3) := by decide +kernel
theorem dX5_challenge_17 : decode cX5_challenge 17 = .ok (.iload_n 1, 1) := by decide +kernel
theorem dX5_challenge_18 : decode cX5_challenge 18 = .ok (.if_icmp .ne 10, 3) := by decide +kernel
theorem dX5_challenge_21 : decode cX5_challenge 21 = .ok (.aload_n 2, 1) := by decide +kernel
theorem dX5_challenge_22 : decode cX5_challenge 22 = .ok (.getfield 196, 3) := by decide +kernel
theorem dX5_challenge_25 : decode cX5_challenge 25 = .ok (.ifCond .ne 13, 3) := by decide +kernel
theorem dX5_challenge_28 : decode cX5_challenge 28 = .ok (.new 85, 3) := by decide +kernel
theorem dX5_challenge_31 : decode cX5_challenge 31 = .ok (.dup, 1) := by decide +kernel
theorem dX5_challenge_32 : decode cX5_challenge 32 = .ok (.ldc 199, 2) := by decide +kernel
theorem dX5_challenge_34 : decode cX5_challenge 34 = .ok (.invokespecial 89, 3) := by decide +kernel
theorem dX5_challenge_37 : decode cX5_challenge 37 = .ok (.athrow, 1) := by decide +kernel
theorem dX5_challenge_38 : decode cX5_challenge 38 = .ok (.aload_n 0, 1) := by decide +kernel
theorem dX5_challenge_39 : decode cX5_challenge 39 = .ok (.getfield 22, 3) := by decide +kernel
theorem dX5_challenge_42 : decode cX5_challenge 42 = .ok (.iconst 1, 1) := by decide +kernel
theorem dX5_challenge_43 : decode cX5_challenge 43 = .ok (.iload_n 1, 1) := by decide +kernel
theorem dX5_challenge_44 : decode cX5_challenge 44 = .ok (.isub, 1) := by decide +kernel
theorem dX5_challenge_45 : decode cX5_challenge 45 = .ok (.invokevirtual 201, 3) := by decide +kernel
theorem dX5_challenge_48 : decode cX5_challenge 48 = .ok (.istore_n 3, 1) := by decide +kernel
theorem dX5_challenge_49 : decode cX5_challenge 49 = .ok (.iload_n 3, 1) := by decide +kernel
theorem dX5_challenge_50 : decode cX5_challenge 50 = .ok (.ifCond .eq 35, 3) := by decide +kernel
theorem dX5_challenge_53 : decode cX5_challenge 53 = .ok (.aload_n 0, 1) := by decide +kernel
theorem dX5_challenge_54 : decode cX5_challenge 54 = .ok (.getfield 10, 3) := by decide +kernel
theorem dX5_challenge_57 : decode cX5_challenge 57 = .ok (.aload_n 0, 1) := by decide +kernel
theorem dX5_challenge_58 : decode cX5_challenge 58 = .ok (.getfield 16, 3) := by decide +kernel
theorem dX5_challenge_61 : decode cX5_challenge 61 = .ok (.invokevirtual 204, 3) := by decide +kernel
theorem dX5_challenge_64 : decode cX5_challenge 64 = .ok (.aload_n 0, 1) := by decide +kernel
theorem dX5_challenge_65 : decode cX5_challenge 65 = .ok (.getfield 29, 3) := by decide +kernel
theorem dX5_challenge_68 : decode cX5_challenge 68 = .ok (.aload_n 0, 1) := by decide +kernel
theorem dX5_challenge_69 : decode cX5_challenge 69 = .ok (.getfield 208, 3) := by decide +kernel
theorem dX5_challenge_72 : decode cX5_challenge 72 = .ok (.invokevirtual 95, 3) := by decide +kernel
theorem dX5_challenge_75 : decode cX5_challenge 75 = .ok (.aload_n 0, 1) := by decide +kernel
theorem dX5_challenge_76 : decode cX5_challenge 76 = .ok (.iload_n 1, 1) := by decide +kernel
theorem dX5_challenge_77 : decode cX5_challenge 77 = .ok (.bipush 8, 2) := by decide +kernel
theorem dX5_challenge_79 : decode cX5_challenge 79 = .ok (.invokevirtual 149, 3) := by decide +kernel
theorem dX5_challenge_82 : decode cX5_challenge 82 = .ok (.goto 13, 3) := by decide +kernel
theorem dX5_challenge_85 : decode cX5_challenge 85 = .ok (.aload_n 2, 1) := by decide +kernel
theorem dX5_challenge_86 : decode cX5_challenge 86 = .ok (.dup, 1) := by decide +kernel
theorem dX5_challenge_87 : decode cX5_challenge 87 = .ok (.getfield 196, 3) := by decide +kernel
theorem dX5_challenge_90 : decode cX5_challenge 90 = .ok (.iconst 1, 1) := by decide +kernel
theorem dX5_challenge_91 : decode cX5_challenge 91 = .ok (.isub, 1) := by decide +kernel
theorem dX5_challenge_92 : decode cX5_challenge 92 = .ok (.putfield 196, 3) := by decide +kernel
theorem dX5_challenge_95 : decode cX5_challenge 95 = .ok (.aload_n 0, 1) := by decide +kernel
theorem dX5_challenge_96 : decode cX5_challenge 96 = .ok (.iconst (-1), 1) := by decide +kernel
theorem dX5_challenge_97 : decode cX5_challenge 97 = .ok (.putfield 40, 3) := by decide +kernel
theorem dX5_challenge_100 : decode cX5_challenge 100 = .ok (.iload_n 3, 1) := by decide +kernel
theorem dX5_challenge_101 : decode cX5_challenge 101 = .ok (.ireturn, 1) := by decide +kernel
theorem dX5_points_0 : decode cX5_points 0 = .ok (.iload_n 1, 1) := by decide +kernel
theorem dX5_points_1 : decode cX5_points 1 = .ok (.invokestatic 44, 3) := by decide +kernel
theorem dX5_points_4 : decode cX5_points 4 = .ok (.aload_n 0, 1) := by decide +kernel
theorem dX5_points_5 : decode cX5_points 5 = .ok (.getfield 10, 3) := by decide +kernel
theorem dX5_points_8 : decode cX5_points 8 = .ok (.iload_n 1, 1) := by decide +kernel
theorem dX5_points_9 : decode cX5_points 9 = .ok (.invokevirtual 57, 3) := by decide +kernel
theorem dX5_points_12 : decode cX5_points 12 = .ok (.getfield 211, 3) := by decide +kernel
theorem dX5_points_15 : decode cX5_points 15 = .ok (.ireturn, 1) := by decide +kernel
theorem dX5_pointsAnew_0 : decode cX5_pointsAnew 0 = .ok (.iload_n 1, 1) := by decide +kernel
theorem dX5_pointsAnew_1 : decode cX5_pointsAnew 1 = .ok (.invokestatic 44, 3) := by decide +kernel
theorem dX5_pointsAnew_4 : decode cX5_pointsAnew 4 = .ok (.aload_n 0, 1) := by decide +kernel
theorem dX5_pointsAnew_5 : decode cX5_pointsAnew 5 = .ok (.getfield 36, 3) := by decide +kernel
theorem dX5_pointsAnew_8 : decode cX5_pointsAnew 8 = .ok (.aload_n 0, 1) := by decide +kernel
theorem dX5_pointsAnew_9 : decode cX5_pointsAnew 9 = .ok (.getfield 29, 3) := by decide +kernel
theorem dX5_pointsAnew_12 : decode cX5_pointsAnew 12 = .ok (.invokevirtual 214, 3) := by decide +kernel
theorem dX5_pointsAnew_15 : decode cX5_pointsAnew 15 = .ok (.aload_n 0, 1) := by decide +kernel
theorem dX5_pointsAnew_16 : decode cX5_pointsAnew 16 = .ok (.getfield 36, 3) := by decide +kernel
theorem dX5_pointsAnew_19 : decode cX5_pointsAnew 19 = .ok (.getfield 218, 3) := by decide +kernel
theorem dX5_pointsAnew_22 : decode cX5_pointsAnew 22 = .ok (.iload_n 1, 1) := by decide +kernel
theorem dX5_pointsAnew_23 : decode cX5_pointsAnew 23 = .ok (.invokevirtual 57, 3) := by decide +kernel
theorem dX5_pointsAnew_26 : decode cX5_pointsAnew 26 = .ok (.getfield 211, 3) := by decide +kernel
theorem dX5_pointsAnew_29 : decode cX5_pointsAnew 29 = .ok (.ireturn, 1) := by decide +kernel
theorem dX5_sets_0 : decode cX5_sets 0 = .ok (.iload_n 1, 1) := by decide +kernel
theorem dX5_sets_1 : decode cX5_sets 1 = .ok (.invokestatic 44, 3) := by decide +kernel
theorem dX5_sets_4 : decode cX5_sets 4 = .ok (.aload_n 0, 1) := by decide +kernel
theorem dX5_sets_5 : decode cX5_sets 5 = .ok (.getfield 10, 3) := by decide +kernel
theorem dX5_sets_8 : decode cX5_sets 8 = .ok (.iload_n 1, 1) := by decide +kernel
theorem dX5_sets_9 : decode cX5_sets 9 = .ok (.invokevirtual 57, 3) := by decide +kernel
theorem dX5_sets_12 : decode cX5_sets 12 = .ok (.getfield 219, 3) := by decide +kernel
theorem dX5_sets_15 : decode cX5_sets 15 = .ok (.ireturn, 1) := by decide +kernel
theorem dX5_at_0 : decode cX5_at 0 = .ok (.iload_n 1, 1) := by decide +kernel
theorem dX5_at_1 : decode cX5_at 1 = .ok (.invokestatic 44, 3) := by decide +kernel
theorem dX5_at_4 : decode cX5_at 4 = .ok (.iload_n 2, 1) := by decide +kernel
theorem dX5_at_5 : decode cX5_at 5 = .ok (.invokestatic 48, 3) := by decide +kernel
theorem dX5_at_8 : decode cX5_at 8 = .ok (.aload_n 0, 1) := by decide +kernel
theorem dX5_at_9 : decode cX5_at 9 = .ok (.getfield 10, 3) := by decide +kernel
theorem dX5_at_12 : decode cX5_at 12 = .ok (.iload_n 1, 1) := by decide +kernel
theorem dX5_at_13 : decode cX5_at 13 = .ok (.invokevirtual 57, 3) := by decide +kernel
theorem dX5_at_16 : decode cX5_at 16 = .ok (.iload_n 2, 1) := by decide +kernel
theorem dX5_at_17 : decode cX5_at 17 = .ok (.invokevirtual 61, 3) := by decide +kernel
theorem dX5_at_20 : decode cX5_at 20 = .ok (.ireturn, 1) := by decide +kernel
theorem dX5_atAnew_0 : decode cX5_atAnew 0 = .ok (.iload_n 1, 1) := by decide +kernel
theorem dX5_atAnew_1 : decode cX5_atAnew 1 = .ok (.invokestatic 44, 3) := by decide +kernel
theorem dX5_atAnew_4 : decode cX5_atAnew 4 = .ok (.iload_n 2, 1) := by decide +kernel
theorem dX5_atAnew_5 : decode cX5_atAnew 5 = .ok (.invokestatic 48, 3) := by decide +kernel
theorem dX5_atAnew_8 : decode cX5_atAnew 8 = .ok (.aload_n 0, 1) := by decide +kernel
theorem dX5_atAnew_9 : decode cX5_atAnew 9 = .ok (.getfield 10, 3) := by decide +kernel
theorem dX5_atAnew_12 : decode cX5_atAnew 12 = .ok (.invokevirtual 222, 3) := by decide +kernel
theorem dX5_atAnew_15 : decode cX5_atAnew 15 = .ok (.ifCond .ne 5, 3) := by decide +kernel
theorem dX5_atAnew_18 : decode cX5_atAnew 18 = .ok (.iconst (-1), 1) := by decide +kernel
theorem dX5_atAnew_19 : decode cX5_atAnew 19 = .ok (.ireturn, 1) := by decide +kernel
theorem dX5_atAnew_20 : decode cX5_atAnew 20 = .ok (.aload_n 0, 1) := by decide +kernel
theorem dX5_atAnew_21 : decode cX5_atAnew 21 = .ok (.getfield 36, 3) := by decide +kernel
theorem dX5_atAnew_24 : decode cX5_atAnew 24 = .ok (.aload_n 0, 1) := by decide +kernel
theorem dX5_atAnew_25 : decode cX5_atAnew 25 = .ok (.getfield 29, 3) := by decide +kernel
theorem dX5_atAnew_28 : decode cX5_atAnew 28 = .ok (.invokevirtual 214, 3) := by decide +kernel
theorem dX5_atAnew_31 : decode cX5_atAnew 31 = .ok (.aload_n 0, 1) := by decide +kernel
theorem dX5_atAnew_32 : decode cX5_atAnew 32 = .ok (.getfield 36, 3) := by decide +kernel
theorem dX5_atAnew_35 : decode cX5_atAnew 35 = .ok (.getfield 218, 3) := by decide +kernel
theorem dX5_atAnew_38 : decode cX5_atAnew 38 = .ok (.iload_n 1, 1) := by decide +kernel
theorem dX5_atAnew_39 : decode cX5_atAnew 39 = .ok (.invokevirtual 57, 3) := by decide +kernel
theorem dX5_atAnew_42 : decode cX5_atAnew 42 = .ok (.iload_n 2, 1) := by decide +kernel
theorem dX5_atAnew_43 : decode cX5_atAnew 43 = .ok (.invokevirtual 61, 3) := by decide +kernel
theorem dX5_atAnew_46 : decode cX5_atAnew 46 = .ok (.ireturn, 1) := by decide +kernel
theorem dX5_about_0 : decode cX5_about 0 = .ok (.iload_n 1, 1) := by decide +kernel
theorem dX5_about_1 : decode cX5_about 1 = .ok (.tableswitch 102 0 4 #[35, 51, 67, 75, 80], 35) := by decide +kernel
theorem dX5_about_36 : decode cX5_about 36 = .ok (.aload_n 0, 1) := by decide +kernel
theorem dX5_about_37 : decode cX5_about 37 = .ok (.getfield 10, 3) := by decide +kernel
theorem dX5_about_40 : decode cX5_about 40 = .ok (.invokevirtual 222, 3) := by decide +kernel
theorem dX5_about_43 : decode cX5_about 43 = .ok (.ifCond .eq 7, 3) := by decide +kernel
theorem dX5_about_46 : decode cX5_about 46 = .ok (.iconst 1, 1) := by decide +kernel
theorem dX5_about_47 : decode cX5_about 47 = .ok (.goto 4, 3) := by decide +kernel
theorem dX5_about_50 : decode cX5_about 50 = .ok (.iconst 0, 1) := by decide +kernel
theorem dX5_about_51 : decode cX5_about 51 = .ok (.ireturn, 1) := by decide +kernel
theorem dX5_about_52 : decode cX5_about 52 = .ok (.aload_n 0, 1) := by decide +kernel
theorem dX5_about_53 : decode cX5_about 53 = .ok (.getfield 22, 3) := by decide +kernel
theorem dX5_about_56 : decode cX5_about 56 = .ok (.getfield 158, 3) := by decide +kernel
theorem dX5_about_59 : decode cX5_about 59 = .ok (.ifCond .eq 7, 3) := by decide +kernel
theorem dX5_about_62 : decode cX5_about 62 = .ok (.iconst 1, 1) := by decide +kernel
theorem dX5_about_63 : decode cX5_about 63 = .ok (.goto 4, 3) := by decide +kernel
theorem dX5_about_66 : decode cX5_about 66 = .ok (.iconst 0, 1) := by decide +kernel
theorem dX5_about_67 : decode cX5_about 67 = .ok (.ireturn, 1) := by decide +kernel
theorem dX5_about_68 : decode cX5_about 68 = .ok (.aload_n 0, 1) := by decide +kernel
theorem dX5_about_69 : decode cX5_about 69 = .ok (.getfield 10, 3) := by decide +kernel
theorem dX5_about_72 : decode cX5_about 72 = .ok (.getfield 115, 3) := by decide +kernel
theorem dX5_about_75 : decode cX5_about 75 = .ok (.ireturn, 1) := by decide +kernel
theorem dX5_about_76 : decode cX5_about 76 = .ok (.aload_n 0, 1) := by decide +kernel
theorem dX5_about_77 : decode cX5_about 77 = .ok (.getfield 105, 3) := by decide +kernel
theorem dX5_about_80 : decode cX5_about 80 = .ok (.ireturn, 1) := by decide +kernel
theorem dX5_about_81 : decode cX5_about 81 = .ok (.aload_n 0, 1) := by decide +kernel
theorem dX5_about_82 : decode cX5_about 82 = .ok (.getfield 22, 3) := by decide +kernel
theorem dX5_about_85 : decode cX5_about 85 = .ok (.getfield 158, 3) := by decide +kernel
theorem dX5_about_88 : decode cX5_about 88 = .ok (.ifCond .eq 13, 3) := by decide +kernel
theorem dX5_about_91 : decode cX5_about 91 = .ok (.aload_n 0, 1) := by decide +kernel
theorem dX5_about_92 : decode cX5_about 92 = .ok (.getfield 22, 3) := by decide +kernel
theorem dX5_about_95 : decode cX5_about 95 = .ok (.getfield 225, 3) := by decide +kernel
theorem dX5_about_98 : decode cX5_about 98 = .ok (.goto 4, 3) := by decide +kernel
theorem dX5_about_101 : decode cX5_about 101 = .ok (.iconst (-1), 1) := by decide +kernel
theorem dX5_about_102 : decode cX5_about 102 = .ok (.ireturn, 1) := by decide +kernel
theorem dX5_about_103 : decode cX5_about 103 = .ok (.new 130, 3) := by decide +kernel
theorem dX5_about_106 : decode cX5_about 106 = .ok (.dup, 1) := by decide +kernel
theorem dX5_about_107 : decode cX5_about 107 = .ok (.ldc 228, 2) := by decide +kernel
theorem dX5_about_109 : decode cX5_about 109 = .ok (.invokespecial 134, 3) := by decide +kernel
theorem dX5_about_112 : decode cX5_about 112 = .ok (.athrow, 1) := by decide +kernel
theorem dX5_of_0 : decode cX5_of 0 = .ok (.iload_n 1, 1) := by decide +kernel
theorem dX5_of_1 : decode cX5_of 1 = .ok (.invokestatic 44, 3) := by decide +kernel
theorem dX5_of_4 : decode cX5_of 4 = .ok (.iload_n 2, 1) := by decide +kernel
theorem dX5_of_5 : decode cX5_of 5 = .ok (.ifCond .lt 8, 3) := by decide +kernel
theorem dX5_of_8 : decode cX5_of 8 = .ok (.iload_n 2, 1) := by decide +kernel
theorem dX5_of_9 : decode cX5_of 9 = .ok (.iconst 1, 1) := by decide +kernel
theorem dX5_of_10 : decode cX5_of 10 = .ok (.if_icmp .le 13, 3) := by decide +kernel
theorem dX5_of_13 : decode cX5_of 13 = .ok (.new 130, 3) := by decide +kernel
theorem dX5_of_16 : decode cX5_of 16 = .ok (.dup, 1) := by decide +kernel
theorem dX5_of_17 : decode cX5_of 17 = .ok (.ldc 230, 2) := by decide +kernel
theorem dX5_of_19 : decode cX5_of 19 = .ok (.invokespecial 134, 3) := by decide +kernel
theorem dX5_of_22 : decode cX5_of 22 = .ok (.athrow, 1) := by decide +kernel
theorem dX5_of_23 : decode cX5_of 23 = .ok (.aload_n 0, 1) := by decide +kernel
theorem dX5_of_24 : decode cX5_of 24 = .ok (.getfield 10, 3) := by decide +kernel
theorem dX5_of_27 : decode cX5_of 27 = .ok (.iload_n 1, 1) := by decide +kernel
theorem dX5_of_28 : decode cX5_of 28 = .ok (.invokevirtual 57, 3) := by decide +kernel
theorem dX5_of_31 : decode cX5_of 31 = .ok (.astore_n 3, 1) := by decide +kernel
theorem dX5_of_32 : decode cX5_of 32 = .ok (.iload_n 2, 1) := by decide +kernel
theorem dX5_of_33 : decode cX5_of 33 = .ok (.ifCond .ne 10, 3) := by decide +kernel
theorem dX5_of_36 : decode cX5_of 36 = .ok (.aload_n 3, 1) := by decide +kernel
theorem dX5_of_37 : decode cX5_of 37 = .ok (.getfield 193, 3) := by decide +kernel
theorem dX5_of_40 : decode cX5_of 40 = .ok (.goto 7, 3) := by decide +kernel
theorem dX5_of_43 : decode cX5_of 43 = .ok (.aload_n 3, 1) := by decide +kernel
theorem dX5_of_44 : decode cX5_of 44 = .ok (.getfield 196, 3) := by decide +kernel
theorem dX5_of_47 : decode cX5_of 47 = .ok (.ireturn, 1) := by decide +kernel
theorem dX5_lost_0 : decode cX5_lost 0 = .ok (.iload_n 1, 1) := by decide +kernel
theorem dX5_lost_1 : decode cX5_lost 1 = .ok (.invokestatic 44, 3) := by decide +kernel
theorem dX5_lost_4 : decode cX5_lost 4 = .ok (.iload_n 2, 1) := by decide +kernel
theorem dX5_lost_5 : decode cX5_lost 5 = .ok (.ifCond .lt 9, 3) := by decide +kernel
theorem dX5_lost_8 : decode cX5_lost 8 = .ok (.iload_n 2, 1) := by decide +kernel
theorem dX5_lost_9 : decode cX5_lost 9 = .ok (.bipush 6, 2) := by decide +kernel
theorem dX5_lost_11 : decode cX5_lost 11 = .ok (.if_icmp .lt 13, 3) := by decide +kernel
theorem dX5_lost_14 : decode cX5_lost 14 = .ok (.new 130, 3) := by decide +kernel
theorem dX5_lost_17 : decode cX5_lost 17 = .ok (.dup, 1) := by decide +kernel
theorem dX5_lost_18 : decode cX5_lost 18 = .ok (.ldc 232, 2) := by decide +kernel
theorem dX5_lost_20 : decode cX5_lost 20 = .ok (.invokespecial 134, 3) := by decide +kernel
theorem dX5_lost_23 : decode cX5_lost 23 = .ok (.athrow, 1) := by decide +kernel
theorem dX5_lost_24 : decode cX5_lost 24 = .ok (.aload_n 0, 1) := by decide +kernel
theorem dX5_lost_25 : decode cX5_lost 25 = .ok (.getfield 36, 3) := by decide +kernel
theorem dX5_lost_28 : decode cX5_lost 28 = .ok (.aload_n 0, 1) := by decide +kernel
theorem dX5_lost_29 : decode cX5_lost 29 = .ok (.getfield 29, 3) := by decide +kernel
theorem dX5_lost_32 : decode cX5_lost 32 = .ok (.invokevirtual 214, 3) := by decide +kernel
theorem dX5_lost_35 : decode cX5_lost 35 = .ok (.aload_n 0, 1) := by decide +kernel
theorem dX5_lost_36 : decode cX5_lost 36 = .ok (.getfield 36, 3) := by decide +kernel
theorem dX5_lost_39 : decode cX5_lost 39 = .ok (.iload_n 1, 1) := by decide +kernel
theorem dX5_lost_40 : decode cX5_lost 40 = .ok (.iload_n 2, 1) := by decide +kernel
theorem dX5_lost_41 : decode cX5_lost 41 = .ok (.invokevirtual 234, 3) := by decide +kernel
theorem dX5_lost_44 : decode cX5_lost 44 = .ok (.ireturn, 1) := by decide +kernel
theorem dX5_checkTeam_0 : decode cX5_checkTeam 0 = .ok (.iload_n 0, 1) := by decide +kernel
theorem dX5_checkTeam_1 : decode cX5_checkTeam 1 = .ok (.ifCond .lt 8, 3) := by decide +kernel
theorem dX5_checkTeam_4 : decode cX5_checkTeam 4 = .ok (.iload_n 0, 1) := by decide +kernel
theorem dX5_checkTeam_5 : decode cX5_checkTeam 5 = .ok (.iconst 1, 1) := by decide +kernel
theorem dX5_checkTeam_6 : decode cX5_checkTeam 6 = .ok (.if_icmp .le 13, 3) := by decide +kernel
theorem dX5_checkTeam_9 : decode cX5_checkTeam 9 = .ok (.new 238, 3) := by decide +kernel
theorem dX5_checkTeam_12 : decode cX5_checkTeam 12 = .ok (.dup, 1) := by decide +kernel
theorem dX5_checkTeam_13 : decode cX5_checkTeam 13 = .ok (.ldc 240, 2) := by decide +kernel
theorem dX5_checkTeam_15 : decode cX5_checkTeam 15 = .ok (.invokespecial 242, 3) := by decide +kernel
theorem dX5_checkTeam_18 : decode cX5_checkTeam 18 = .ok (.athrow, 1) := by decide +kernel
theorem dX5_checkTeam_19 : decode cX5_checkTeam 19 = .ok (.return_, 1) := by decide +kernel
theorem dX5_checkPlace_0 : decode cX5_checkPlace 0 = .ok (.iload_n 0, 1) := by decide +kernel
theorem dX5_checkPlace_1 : decode cX5_checkPlace 1 = .ok (.iconst 1, 1) := by decide +kernel
theorem dX5_checkPlace_2 : decode cX5_checkPlace 2 = .ok (.if_icmp .lt 9, 3) := by decide +kernel
theorem dX5_checkPlace_5 : decode cX5_checkPlace 5 = .ok (.iload_n 0, 1) := by decide +kernel
theorem dX5_checkPlace_6 : decode cX5_checkPlace 6 = .ok (.bipush 6, 2) := by decide +kernel
theorem dX5_checkPlace_8 : decode cX5_checkPlace 8 = .ok (.if_icmp .le 13, 3) := by decide +kernel
theorem dX5_checkPlace_11 : decode cX5_checkPlace 11 = .ok (.new 238, 3) := by decide +kernel
theorem dX5_checkPlace_14 : decode cX5_checkPlace 14 = .ok (.dup, 1) := by decide +kernel
theorem dX5_checkPlace_15 : decode cX5_checkPlace 15 = .ok (.ldc 243, 2) := by decide +kernel
theorem dX5_checkPlace_17 : decode cX5_checkPlace 17 = .ok (.invokespecial 242, 3) := by decide +kernel
theorem dX5_checkPlace_20 : decode cX5_checkPlace 20 = .ok (.athrow, 1) := by decide +kernel
theorem dX5_checkPlace_21 : decode cX5_checkPlace 21 = .ok (.return_, 1) := by decide +kernel
theorem dX5_checkShirt_0 : decode cX5_checkShirt 0 = .ok (.iload_n 0, 1) := by decide +kernel
theorem dX5_checkShirt_1 : decode cX5_checkShirt 1 = .ok (.iconst 1, 1) := by decide +kernel
theorem dX5_checkShirt_2 : decode cX5_checkShirt 2 = .ok (.if_icmp .lt 9, 3) := by decide +kernel
theorem dX5_checkShirt_5 : decode cX5_checkShirt 5 = .ok (.iload_n 0, 1) := by decide +kernel
theorem dX5_checkShirt_6 : decode cX5_checkShirt 6 = .ok (.bipush 20, 2) := by decide +kernel
theorem dX5_checkShirt_8 : decode cX5_checkShirt 8 = .ok (.if_icmp .le 13, 3) := by decide +kernel
theorem dX5_checkShirt_11 : decode cX5_checkShirt 11 = .ok (.new 238, 3) := by decide +kernel
theorem dX5_checkShirt_14 : decode cX5_checkShirt 14 = .ok (.dup, 1) := by decide +kernel
theorem dX5_checkShirt_15 : decode cX5_checkShirt 15 = .ok (.ldc 245, 2) := by decide +kernel
theorem dX5_checkShirt_17 : decode cX5_checkShirt 17 = .ok (.invokespecial 242, 3) := by decide +kernel
theorem dX5_checkShirt_20 : decode cX5_checkShirt 20 = .ok (.athrow, 1) := by decide +kernel
theorem dX5_checkShirt_21 : decode cX5_checkShirt 21 = .ok (.return_, 1) := by decide +kernel
theorem dX5_checkAheadOfSet_0 : decode cX5_checkAheadOfSet 0 = .ok (.aload_n 0, 1) := by decide +kernel
theorem dX5_checkAheadOfSet_1 : decode cX5_checkAheadOfSet 1 = .ok (.getfield 10, 3) := by decide +kernel
theorem dX5_checkAheadOfSet_4 : decode cX5_checkAheadOfSet 4 = .ok (.invokevirtual 222, 3) := by decide +kernel
theorem dX5_checkAheadOfSet_7 : decode cX5_checkAheadOfSet 7 = .ok (.ifCond .ne 13, 3) := by decide +kernel
theorem dX5_checkAheadOfSet_10 : decode cX5_checkAheadOfSet 10 = .ok (.aload_n 0, 1) := by decide +kernel
theorem dX5_checkAheadOfSet_11 : decode cX5_checkAheadOfSet 11 = .ok (.getfield 10, 3) := by decide +kernel
theorem dX5_checkAheadOfSet_14 : decode cX5_checkAheadOfSet 14 = .ok (.invokevirtual 247, 3) := by decide +kernel
theorem dX5_checkAheadOfSet_17 : decode cX5_checkAheadOfSet 17 = .ok (.ifCond .eq 13, 3) := by decide +kernel
theorem dX5_checkAheadOfSet_20 : decode cX5_checkAheadOfSet 20 = .ok (.new 85, 3) := by decide +kernel
theorem dX5_checkAheadOfSet_23 : decode cX5_checkAheadOfSet 23 = .ok (.dup, 1) := by decide +kernel
theorem dX5_checkAheadOfSet_24 : decode cX5_checkAheadOfSet 24 = .ok (.ldc 250, 2) := by decide +kernel
theorem dX5_checkAheadOfSet_26 : decode cX5_checkAheadOfSet 26 = .ok (.invokespecial 89, 3) := by decide +kernel
theorem dX5_checkAheadOfSet_29 : decode cX5_checkAheadOfSet 29 = .ok (.athrow, 1) := by decide +kernel
theorem dX5_checkAheadOfSet_30 : decode cX5_checkAheadOfSet 30 = .ok (.return_, 1) := by decide +kernel
theorem dX5_checkBetweenRallies_0 : decode cX5_checkBetweenRallies 0 = .ok (.aload_n 0, 1) := by decide +kernel
theorem dX5_checkBetweenRallies_1 : decode cX5_checkBetweenRallies 1 = .ok (.getfield 10, 3) := by decide +kernel
theorem dX5_checkBetweenRallies_4 : decode cX5_checkBetweenRallies 4 = .ok (.invokevirtual 222, 3) := by decide +kernel
theorem dX5_checkBetweenRallies_7 : decode cX5_checkBetweenRallies 7 = .ok (.ifCond .eq 13, 3) := by decide +kernel
theorem dX5_checkBetweenRallies_10 : decode cX5_checkBetweenRallies 10 = .ok (.aload_n 0, 1) := by decide +kernel
theorem dX5_checkBetweenRallies_11 : decode cX5_checkBetweenRallies 11 = .ok (.getfield 22, 3) := by decide +kernel
theorem dX5_checkBetweenRallies_14 : decode cX5_checkBetweenRallies 14 = .ok (.getfield 158, 3) := by decide +kernel
theorem dX5_checkBetweenRallies_17 : decode cX5_checkBetweenRallies 17 = .ok (.ifCond .eq 13, 3) := by decide +kernel
theorem dX5_checkBetweenRallies_20 : decode cX5_checkBetweenRallies 20 = .ok (.new 85, 3) := by decide +kernel
theorem dX5_checkBetweenRallies_23 : decode cX5_checkBetweenRallies 23 = .ok (.dup, 1) := by decide +kernel
theorem dX5_checkBetweenRallies_24 : decode cX5_checkBetweenRallies 24 = .ok (.ldc 252, 2) := by decide +kernel
theorem dX5_checkBetweenRallies_26 : decode cX5_checkBetweenRallies 26 = .ok (.invokespecial 89, 3) := by decide +kernel
theorem dX5_checkBetweenRallies_29 : decode cX5_checkBetweenRallies 29 = .ok (.athrow, 1) := by decide +kernel
theorem dX5_checkBetweenRallies_30 : decode cX5_checkBetweenRallies 30 = .ok (.return_, 1) := by decide +kernel
theorem dX5_checkRally_0 : decode cX5_checkRally 0 = .ok (.aload_n 0, 1) := by decide +kernel
theorem dX5_checkRally_1 : decode cX5_checkRally 1 = .ok (.getfield 22, 3) := by decide +kernel
theorem dX5_checkRally_4 : decode cX5_checkRally 4 = .ok (.getfield 158, 3) := by decide +kernel
theorem dX5_checkRally_7 : decode cX5_checkRally 7 = .ok (.ifCond .ne 13, 3) := by decide +kernel
theorem dX5_checkRally_10 : decode cX5_checkRally 10 = .ok (.new 85, 3) := by decide +kernel
theorem dX5_checkRally_13 : decode cX5_checkRally 13 = .ok (.dup, 1) := by decide +kernel
theorem dX5_checkRally_14 : decode cX5_checkRally 14 = .ok (.ldc 254, 2) := by decide +kernel
theorem dX5_checkRally_16 : decode cX5_checkRally 16 = .ok (.invokespecial 89, 3) := by decide +kernel
theorem dX5_checkRally_19 : decode cX5_checkRally 19 = .ok (.athrow, 1) := by decide +kernel
theorem dX5_checkRally_20 : decode cX5_checkRally 20 = .ok (.return_, 1) := by decide +kernel
theorem dX5_writeOrder_0 : decode cX5_writeOrder 0 = .ok (.aload_n 0, 1) := by decide +kernel
theorem dX5_writeOrder_1 : decode cX5_writeOrder 1 = .ok (.getfield 10, 3) := by decide +kernel
theorem dX5_writeOrder_4 : decode cX5_writeOrder 4 = .ok (.iload_n 1, 1) := by decide +kernel
theorem dX5_writeOrder_5 : decode cX5_writeOrder 5 = .ok (.invokevirtual 57, 3) := by decide +kernel
theorem dX5_writeOrder_8 : decode cX5_writeOrder 8 = .ok (.astore_n 2, 1) := by decide +kernel
theorem dX5_writeOrder_9 : decode cX5_writeOrder 9 = .ok (.iconst 1, 1) := by decide +kernel
theorem dX5_writeOrder_10 : decode cX5_writeOrder 10 = .ok (.istore_n 3, 1) := by decide +kernel
theorem dX5_writeOrder_11 : decode cX5_writeOrder 11 = .ok (.iload_n 3, 1) := by decide +kernel
theorem dX5_writeOrder_12 : decode cX5_writeOrder 12 = .ok (.bipush 6, 2) := by decide +kernel
theorem dX5_writeOrder_14 : decode cX5_writeOrder 14 = .ok (.if_icmp .gt 24, 3) := by decide +kernel
theorem dX5_writeOrder_17 : decode cX5_writeOrder 17 = .ok (.aload_n 0, 1) := by decide +kernel
theorem dX5_writeOrder_18 : decode cX5_writeOrder 18 = .ok (.getfield 29, 3) := by decide +kernel
theorem dX5_writeOrder_21 : decode cX5_writeOrder 21 = .ok (.iconst 0, 1) := by decide +kernel
theorem dX5_writeOrder_22 : decode cX5_writeOrder 22 = .ok (.iload_n 1, 1) := by decide +kernel
theorem dX5_writeOrder_23 : decode cX5_writeOrder 23 = .ok (.iload_n 3, 1) := by decide +kernel
theorem dX5_writeOrder_24 : decode cX5_writeOrder 24 = .ok (.aload_n 2, 1) := by decide +kernel
theorem dX5_writeOrder_25 : decode cX5_writeOrder 25 = .ok (.iload_n 3, 1) := by decide +kernel
theorem dX5_writeOrder_26 : decode cX5_writeOrder 26 = .ok (.invokevirtual 61, 3) := by decide +kernel
theorem dX5_writeOrder_29 : decode cX5_writeOrder 29 = .ok (.invokevirtual 101, 3) := by decide +kernel
theorem dX5_writeOrder_32 : decode cX5_writeOrder 32 = .ok (.iinc 3 1, 3) := by decide +kernel
theorem dX5_writeOrder_35 : decode cX5_writeOrder 35 = .ok (.goto (-24), 3) := by decide +kernel
theorem dX5_writeOrder_38 : decode cX5_writeOrder 38 = .ok (.aload_n 2, 1) := by decide +kernel
theorem dX5_writeOrder_39 : decode cX5_writeOrder 39 = .ok (.getfield 71, 3) := by decide +kernel
theorem dX5_writeOrder_42 : decode cX5_writeOrder 42 = .ok (.iconst (-1), 1) := by decide +kernel
theorem dX5_writeOrder_43 : decode cX5_writeOrder 43 = .ok (.if_icmp .eq 17, 3) := by decide +kernel
theorem dX5_writeOrder_46 : decode cX5_writeOrder 46 = .ok (.aload_n 0, 1) := by decide +kernel
theorem dX5_writeOrder_47 : decode cX5_writeOrder 47 = .ok (.getfield 29, 3) := by decide +kernel
theorem dX5_writeOrder_50 : decode cX5_writeOrder 50 = .ok (.iconst 1, 1) := by decide +kernel
theorem dX5_writeOrder_51 : decode cX5_writeOrder 51 = .ok (.iload_n 1, 1) := by decide +kernel
theorem dX5_writeOrder_52 : decode cX5_writeOrder 52 = .ok (.aload_n 2, 1) := by decide +kernel
theorem dX5_writeOrder_53 : decode cX5_writeOrder 53 = .ok (.getfield 71, 3) := by decide +kernel
theorem dX5_writeOrder_56 : decode cX5_writeOrder 56 = .ok (.iconst 0, 1) := by decide +kernel
theorem dX5_writeOrder_57 : decode cX5_writeOrder 57 = .ok (.invokevirtual 101, 3) := by decide +kernel
theorem dX5_writeOrder_60 : decode cX5_writeOrder 60 = .ok (.return_, 1) := by decide +kernel
theorem dX5_endRally_0 : decode cX5_endRally 0 = .ok (.aload_n 0, 1) := by decide +kernel
theorem dX5_endRally_1 : decode cX5_endRally 1 = .ok (.getfield 16, 3) := by decide +kernel
theorem dX5_endRally_4 : decode cX5_endRally 4 = .ok (.aload_n 0, 1) := by decide +kernel
theorem dX5_endRally_5 : decode cX5_endRally 5 = .ok (.getfield 10, 3) := by decide +kernel
theorem dX5_endRally_8 : decode cX5_endRally 8 = .ok (.invokevirtual 204, 3) := by decide +kernel
theorem dX5_endRally_11 : decode cX5_endRally 11 = .ok (.aload_n 0, 1) := by decide +kernel
theorem dX5_endRally_12 : decode cX5_endRally 12 = .ok (.aload_n 0, 1) := by decide +kernel
theorem dX5_endRally_13 : decode cX5_endRally 13 = .ok (.getfield 29, 3) := by decide +kernel
theorem dX5_endRally_16 : decode cX5_endRally 16 = .ok (.getfield 256, 3) := by decide +kernel
theorem dX5_endRally_19 : decode cX5_endRally 19 = .ok (.putfield 208, 3) := by decide +kernel
theorem dX5_endRally_22 : decode cX5_endRally 22 = .ok (.aload_n 0, 1) := by decide +kernel
theorem dX5_endRally_23 : decode cX5_endRally 23 = .ok (.getfield 22, 3) := by decide +kernel
theorem dX5_endRally_26 : decode cX5_endRally 26 = .ok (.iconst 0, 1) := by decide +kernel
theorem dX5_endRally_27 : decode cX5_endRally 27 = .ok (.putfield 158, 3) := by decide +kernel
theorem dX5_endRally_30 : decode cX5_endRally 30 = .ok (.aload_n 0, 1) := by decide +kernel
theorem dX5_endRally_31 : decode cX5_endRally 31 = .ok (.getfield 29, 3) := by decide +kernel
theorem dX5_endRally_34 : decode cX5_endRally 34 = .ok (.iconst 4, 1) := by decide +kernel
theorem dX5_endRally_35 : decode cX5_endRally 35 = .ok (.iload_n 1, 1) := by decide +kernel
theorem dX5_endRally_36 : decode cX5_endRally 36 = .ok (.iconst 0, 1) := by decide +kernel
theorem dX5_endRally_37 : decode cX5_endRally 37 = .ok (.iconst 0, 1) := by decide +kernel
theorem dX5_endRally_38 : decode cX5_endRally 38 = .ok (.invokevirtual 101, 3) := by decide +kernel
theorem dX5_endRally_41 : decode cX5_endRally 41 = .ok (.aload_n 0, 1) := by decide +kernel
theorem dX5_endRally_42 : decode cX5_endRally 42 = .ok (.getfield 10, 3) := by decide +kernel
theorem dX5_endRally_45 : decode cX5_endRally 45 = .ok (.iload_n 1, 1) := by decide +kernel
theorem dX5_endRally_46 : decode cX5_endRally 46 = .ok (.invokevirtual 259, 3) := by decide +kernel
theorem dX5_endRally_49 : decode cX5_endRally 49 = .ok (.aload_n 0, 1) := by decide +kernel
theorem dX5_endRally_50 : decode cX5_endRally 50 = .ok (.iload_n 1, 1) := by decide +kernel
theorem dX5_endRally_51 : decode cX5_endRally 51 = .ok (.invokevirtual 170, 3) := by decide +kernel
theorem dX5_endRally_54 : decode cX5_endRally 54 = .ok (.aload_n 0, 1) := by decide +kernel
theorem dX5_endRally_55 : decode cX5_endRally 55 = .ok (.iconst 1, 1) := by decide +kernel
theorem dX5_endRally_56 : decode cX5_endRally 56 = .ok (.iload_n 1, 1) := by decide +kernel
theorem dX5_endRally_57 : decode cX5_endRally 57 = .ok (.isub, 1) := by decide +kernel
theorem dX5_endRally_58 : decode cX5_endRally 58 = .ok (.putfield 40, 3) := by decide +kernel
theorem dX5_endRally_61 : decode cX5_endRally 61 = .ok (.aload_n 0, 1) := by decide +kernel
theorem dX5_endRally_62 : decode cX5_endRally 62 = .ok (.iload_n 2, 1) := by decide +kernel
theorem dX5_endRally_63 : decode cX5_endRally 63 = .ok (.putfield 105, 3) := by decide +kernel
theorem dX5_endRally_66 : decode cX5_endRally 66 = .ok (.return_, 1) := by decide +kernel
theorem dX5_endSetIfWonBy_0 : decode cX5_endSetIfWonBy 0 = .ok (.aload_n 0, 1) := by decide +kernel
theorem dX5_endSetIfWonBy_1 : decode cX5_endSetIfWonBy 1 = .ok (.getfield 10, 3) := by decide +kernel
theorem dX5_endSetIfWonBy_4 : decode cX5_endSetIfWonBy 4 = .ok (.iload_n 1, 1) := by decide +kernel
theorem dX5_endSetIfWonBy_5 : decode cX5_endSetIfWonBy 5 = .ok (.invokevirtual 262, 3) := by decide +kernel
theorem dX5_endSetIfWonBy_8 : decode cX5_endSetIfWonBy 8 = .ok (.ifCond .eq 11, 3) := by decide +kernel
theorem dX5_endSetIfWonBy_11 : decode cX5_endSetIfWonBy 11 = .ok (.aload_n 0, 1) := by decide +kernel
theorem dX5_endSetIfWonBy_12 : decode cX5_endSetIfWonBy 12 = .ok (.getfield 10, 3) := by decide +kernel
theorem dX5_endSetIfWonBy_15 : decode cX5_endSetIfWonBy 15 = .ok (.iload_n 1, 1) := by decide +kernel
theorem dX5_endSetIfWonBy_16 : decode cX5_endSetIfWonBy 16 = .ok (.invokevirtual 265, 3) := by decide +kernel
theorem dX5_endSetIfWonBy_19 : decode cX5_endSetIfWonBy 19 = .ok (.return_, 1) := by decide +kernel
theorem dX5_valueIn_0 : decode cX5_valueIn 0 = .ok (.iload_n 1, 1) := by decide +kernel
theorem dX5_valueIn_1 : decode cX5_valueIn 1 = .ok (.ifCond .lt 15, 3) := by decide +kernel
theorem dX5_valueIn_4 : decode cX5_valueIn 4 = .ok (.iload_n 1, 1) := by decide +kernel
theorem dX5_valueIn_5 : decode cX5_valueIn 5 = .ok (.aload_n 0, 1) := by decide +kernel
theorem dX5_valueIn_6 : decode cX5_valueIn 6 = .ok (.arraylength, 1) := by decide +kernel
theorem dX5_valueIn_7 : decode cX5_valueIn 7 = .ok (.if_icmp .ge 9, 3) := by decide +kernel
theorem dX5_valueIn_10 : decode cX5_valueIn 10 = .ok (.aload_n 0, 1) := by decide +kernel
theorem dX5_valueIn_11 : decode cX5_valueIn 11 = .ok (.iload_n 1, 1) := by decide +kernel
theorem dX5_valueIn_12 : decode cX5_valueIn 12 = .ok (.iaload, 1) := by decide +kernel
theorem dX5_valueIn_13 : decode cX5_valueIn 13 = .ok (.goto 4, 3) := by decide +kernel
theorem dX5_valueIn_16 : decode cX5_valueIn 16 = .ok (.iconst (-1), 1) := by decide +kernel
theorem dX5_valueIn_17 : decode cX5_valueIn 17 = .ok (.ireturn, 1) := by decide +kernel
theorem dX5_putIn_0 : decode cX5_putIn 0 = .ok (.iload_n 1, 1) := by decide +kernel
theorem dX5_putIn_1 : decode cX5_putIn 1 = .ok (.ifCond .lt 13, 3) := by decide +kernel
theorem dX5_putIn_4 : decode cX5_putIn 4 = .ok (.iload_n 1, 1) := by decide +kernel
theorem dX5_putIn_5 : decode cX5_putIn 5 = .ok (.aload_n 0, 1) := by decide +kernel
theorem dX5_putIn_6 : decode cX5_putIn 6 = .ok (.arraylength, 1) := by decide +kernel
theorem dX5_putIn_7 : decode cX5_putIn 7 = .ok (.if_icmp .ge 7, 3) := by decide +kernel
theorem dX5_putIn_10 : decode cX5_putIn 10 = .ok (.aload_n 0, 1) := by decide +kernel
theorem dX5_putIn_11 : decode cX5_putIn 11 = .ok (.iload_n 1, 1) := by decide +kernel
theorem dX5_putIn_12 : decode cX5_putIn 12 = .ok (.iload_n 2, 1) := by decide +kernel
theorem dX5_putIn_13 : decode cX5_putIn 13 = .ok (.iastore, 1) := by decide +kernel
theorem dX5_putIn_14 : decode cX5_putIn 14 = .ok (.return_, 1) := by decide +kernel
end
section
theorem dX6_init_0 : decode cX6_init 0 = .ok (.aload_n 0, 1) := by decide +kernel
theorem dX6_init_1 : decode cX6_init 1 = .ok (.invokespecial 1, 3) := by decide +kernel
theorem dX6_init_4 : decode cX6_init 4 = .ok (.aload_n 0, 1) := by decide +kernel
theorem dX6_init_5 : decode cX6_init 5 = .ok (.bipush 92, 2) := by decide +kernel
theorem dX6_init_7 : decode cX6_init 7 = .ok (.newarray .int, 2) := by decide +kernel
theorem dX6_init_9 : decode cX6_init 9 = .ok (.putfield 7, 3) := by decide +kernel
theorem dX6_init_12 : decode cX6_init 12 = .ok (.aload_n 0, 1) := by decide +kernel
theorem dX6_init_13 : decode cX6_init 13 = .ok (.bipush 92, 2) := by decide +kernel
theorem dX6_init_15 : decode cX6_init 15 = .ok (.newarray .int, 2) := by decide +kernel
theorem dX6_init_17 : decode cX6_init 17 = .ok (.putfield 13, 3) := by decide +kernel
theorem dX6_init_20 : decode cX6_init 20 = .ok (.iconst 0, 1) := by decide +kernel
theorem dX6_init_21 : decode cX6_init 21 = .ok (.istore_n 1, 1) := by decide +kernel
theorem dX6_init_22 : decode cX6_init 22 = .ok (.iload_n 1, 1) := by decide +kernel
theorem dX6_init_23 : decode cX6_init 23 = .ok (.bipush 12, 2) := by decide +kernel
theorem dX6_init_25 : decode cX6_init 25 = .ok (.if_icmp .ge 19, 3) := by decide +kernel
theorem dX6_init_28 : decode cX6_init 28 = .ok (.aload_n 0, 1) := by decide +kernel
theorem dX6_init_29 : decode cX6_init 29 = .ok (.getfield 7, 3) := by decide +kernel
theorem dX6_init_32 : decode cX6_init 32 = .ok (.bipush 14, 2) := by decide +kernel
theorem dX6_init_34 : decode cX6_init 34 = .ok (.iload_n 1, 1) := by decide +kernel
theorem dX6_init_35 : decode cX6_init 35 = .ok (.iadd, 1) := by decide +kernel
theorem dX6_init_36 : decode cX6_init 36 = .ok (.iconst (-1), 1) := by decide +kernel
theorem dX6_init_37 : decode cX6_init 37 = .ok (.iastore, 1) := by decide +kernel
theorem dX6_init_38 : decode cX6_init 38 = .ok (.iinc 1 1, 3) := by decide +kernel
theorem dX6_init_41 : decode cX6_init 41 = .ok (.goto (-19), 3) := by decide +kernel
theorem dX6_init_44 : decode cX6_init 44 = .ok (.iconst 0, 1) := by decide +kernel
theorem dX6_init_45 : decode cX6_init 45 = .ok (.istore_n 1, 1) := by decide +kernel
theorem dX6_init_46 : decode cX6_init 46 = .ok (.iload_n 1, 1) := by decide +kernel
theorem dX6_init_47 : decode cX6_init 47 = .ok (.iconst 2, 1) := by decide +kernel
theorem dX6_init_48 : decode cX6_init 48 = .ok (.if_icmp .ge 39, 3) := by decide +kernel
theorem dX6_init_51 : decode cX6_init 51 = .ok (.aload_n 0, 1) := by decide +kernel
theorem dX6_init_52 : decode cX6_init 52 = .ok (.getfield 7, 3) := by decide +kernel
theorem dX6_init_55 : decode cX6_init 55 = .ok (.bipush 26, 2) := by decide +kernel
theorem dX6_init_57 : decode cX6_init 57 = .ok (.iload_n 1, 1) := by decide +kernel
theorem dX6_init_58 : decode cX6_init 58 = .ok (.iadd, 1) := by decide +kernel
theorem dX6_init_59 : decode cX6_init 59 = .ok (.iconst (-1), 1) := by decide +kernel
theorem dX6_init_60 : decode cX6_init 60 = .ok (.iastore, 1) := by decide +kernel
theorem dX6_init_61 : decode cX6_init 61 = .ok (.aload_n 0, 1) := by decide +kernel
theorem dX6_init_62 : decode cX6_init 62 = .ok (.getfield 7, 3) := by decide +kernel
theorem dX6_init_65 : decode cX6_init 65 = .ok (.bipush 28, 2) := by decide +kernel
theorem dX6_init_67 : decode cX6_init 67 = .ok (.iload_n 1, 1) := by decide +kernel
theorem dX6_init_68 : decode cX6_init 68 = .ok (.iadd, 1) := by decide +kernel
theorem dX6_init_69 : decode cX6_init 69 = .ok (.iconst (-1), 1) := by decide +kernel
theorem dX6_init_70 : decode cX6_init 70 = .ok (.iastore, 1) := by decide +kernel
theorem dX6_init_71 : decode cX6_init 71 = .ok (.aload_n 0, 1) := by decide +kernel
theorem dX6_init_72 : decode cX6_init 72 = .ok (.getfield 7, 3) := by decide +kernel
theorem dX6_init_75 : decode cX6_init 75 = .ok (.bipush 34, 2) := by decide +kernel
theorem dX6_init_77 : decode cX6_init 77 = .ok (.iload_n 1, 1) := by decide +kernel
theorem dX6_init_78 : decode cX6_init 78 = .ok (.iadd, 1) := by decide +kernel
theorem dX6_init_79 : decode cX6_init 79 = .ok (.iconst 2, 1) := by decide +kernel
theorem dX6_init_80 : decode cX6_init 80 = .ok (.iastore, 1) := by decide +kernel
theorem dX6_init_81 : decode cX6_init 81 = .ok (.iinc 1 1, 3) := by decide +kernel
theorem dX6_init_84 : decode cX6_init 84 = .ok (.goto (-38), 3) := by decide +kernel
theorem dX6_init_87 : decode cX6_init 87 = .ok (.aload_n 0, 1) := by decide +kernel
theorem dX6_init_88 : decode cX6_init 88 = .ok (.getfield 7, 3) := by decide +kernel
theorem dX6_init_91 : decode cX6_init 91 = .ok (.bipush 9, 2) := by decide +kernel
theorem dX6_init_93 : decode cX6_init 93 = .ok (.iconst (-1), 1) := by decide +kernel
theorem dX6_init_94 : decode cX6_init 94 = .ok (.iastore, 1) := by decide +kernel
theorem dX6_init_95 : decode cX6_init 95 = .ok (.return_, 1) := by decide +kernel
theorem dX6_thrown_0 : decode cX6_thrown 0 = .ok (.aload_n 0, 1) := by decide +kernel
theorem dX6_thrown_1 : decode cX6_thrown 1 = .ok (.getfield 16, 3) := by decide +kernel
theorem dX6_thrown_4 : decode cX6_thrown 4 = .ok (.ireturn, 1) := by decide +kernel
theorem dX6_goes_0 : decode cX6_goes 0 = .ok (.aload_n 0, 1) := by decide +kernel
theorem dX6_goes_1 : decode cX6_goes 1 = .ok (.iload_n 1, 1) := by decide +kernel
theorem dX6_goes_2 : decode cX6_goes 2 = .ok (.putfield 16, 3) := by decide +kernel
theorem dX6_goes_5 : decode cX6_goes 5 = .ok (.iload_n 1, 1) := by decide +kernel
theorem dX6_goes_6 : decode cX6_goes 6 = .ok (.ifCond .ne 7, 3) := by decide +kernel
theorem dX6_goes_9 : decode cX6_goes 9 = .ok (.iconst 1, 1) := by decide +kernel
theorem dX6_goes_10 : decode cX6_goes 10 = .ok (.goto 4, 3) := by decide +kernel
theorem dX6_goes_13 : decode cX6_goes 13 = .ok (.iconst 0, 1) := by decide +kernel
theorem dX6_goes_14 : decode cX6_goes 14 = .ok (.ireturn, 1) := by decide +kernel
theorem dX6_isIn_0 : decode cX6_isIn 0 = .ok (.iload_n 0, 1) := by decide +kernel
theorem dX6_isIn_1 : decode cX6_isIn 1 = .ok (.iload_n 1, 1) := by decide +kernel
theorem dX6_isIn_2 : decode cX6_isIn 2 = .ok (.if_icmp .lt 12, 3) := by decide +kernel
theorem dX6_isIn_5 : decode cX6_isIn 5 = .ok (.iload_n 0, 1) := by decide +kernel
theorem dX6_isIn_6 : decode cX6_isIn 6 = .ok (.iload_n 2, 1) := by decide +kernel
theorem dX6_isIn_7 : decode cX6_isIn 7 = .ok (.if_icmp .gt 7, 3) := by decide +kernel
theorem dX6_isIn_10 : decode cX6_isIn 10 = .ok (.iconst 1, 1) := by decide +kernel
theorem dX6_isIn_11 : decode cX6_isIn 11 = .ok (.goto 4, 3) := by decide +kernel
theorem dX6_isIn_14 : decode cX6_isIn 14 = .ok (.iconst 0, 1) := by decide +kernel
theorem dX6_isIn_15 : decode cX6_isIn 15 = .ok (.ireturn, 1) := by decide +kernel
theorem dX6_isTeam_0 : decode cX6_isTeam 0 = .ok (.iload_n 0, 1) := by decide +kernel
theorem dX6_isTeam_1 : decode cX6_isTeam 1 = .ok (.iconst 0, 1) := by decide +kernel
theorem dX6_isTeam_2 : decode cX6_isTeam 2 = .ok (.iconst 1, 1) := by decide +kernel
theorem dX6_isTeam_3 : decode cX6_isTeam 3 = .ok (.invokestatic 20, 3) := by decide +kernel
theorem dX6_isTeam_6 : decode cX6_isTeam 6 = .ok (.ireturn, 1) := by decide +kernel
theorem dX6_isShirt_0 : decode cX6_isShirt 0 = .ok (.iload_n 0, 1) := by decide +kernel
theorem dX6_isShirt_1 : decode cX6_isShirt 1 = .ok (.iconst 1, 1) := by decide +kernel
theorem dX6_isShirt_2 : decode cX6_isShirt 2 = .ok (.bipush 20, 2) := by decide +kernel
theorem dX6_isShirt_4 : decode cX6_isShirt 4 = .ok (.invokestatic 20, 3) := by decide +kernel
theorem dX6_isShirt_7 : decode cX6_isShirt 7 = .ok (.ireturn, 1) := by decide +kernel
theorem dX6_isOver_0 : decode cX6_isOver 0 = .ok (.aload_n 0, 1) := by decide +kernel
theorem dX6_isOver_1 : decode cX6_isOver 1 = .ok (.getfield 7, 3) := by decide +kernel
theorem dX6_isOver_4 : decode cX6_isOver 4 = .ok (.bipush 12, 2) := by decide +kernel
theorem dX6_isOver_6 : decode cX6_isOver 6 = .ok (.iaload, 1) := by decide +kernel
theorem dX6_isOver_7 : decode cX6_isOver 7 = .ok (.iconst 3, 1) := by decide +kernel
theorem dX6_isOver_8 : decode cX6_isOver 8 = .ok (.if_icmp .eq 14, 3) := by decide +kernel
theorem dX6_isOver_11 : decode cX6_isOver 11 = .ok (.aload_n 0, 1) := by decide +kernel
theorem dX6_isOver_12 : decode cX6_isOver 12 = .ok (.getfield 7, 3) := by decide +kernel
theorem dX6_isOver_15 : decode cX6_isOver 15 = .ok (.bipush 13, 2) := by decide +kernel
theorem dX6_isOver_17 : decode cX6_isOver 17 = .ok (.iaload, 1) := by decide +kernel
theorem dX6_isOver_18 : decode cX6_isOver 18 = .ok (.iconst 3, 1) := by decide +kernel
theorem dX6_isOver_19 : decode cX6_isOver 19 = .ok (.if_icmp .ne 7, 3) := by decide +kernel
theorem dX6_isOver_22 : decode cX6_isOver 22 = .ok (.iconst 1, 1) := by decide +kernel
theorem dX6_isOver_23 : decode cX6_isOver 23 = .ok (.goto 4, 3) := by decide +kernel
theorem dX6_isOver_26 : decode cX6_isOver 26 = .ok (.iconst 0, 1) := by decide +kernel
theorem dX6_isOver_27 : decode cX6_isOver 27 = .ok (.ireturn, 1) := by decide +kernel
theorem dX6_slot_0 : decode cX6_slot 0 = .ok (.bipush 14, 2) := by decide +kernel
theorem dX6_slot_2 : decode cX6_slot 2 = .ok (.bipush 6, 2) := by decide +kernel
theorem dX6_slot_4 : decode cX6_slot 4 = .ok (.iload_n 0, 1) := by decide +kernel
theorem dX6_slot_5 : decode cX6_slot 5 = .ok (.imul, 1) := by decide +kernel
theorem dX6_slot_6 : decode cX6_slot 6 = .ok (.iadd, 1) := by decide +kernel
theorem dX6_slot_7 : decode cX6_slot 7 = .ok (.iload_n 1, 1) := by decide +kernel
theorem dX6_slot_8 : decode cX6_slot 8 = .ok (.iadd, 1) := by decide +kernel
theorem dX6_slot_9 : decode cX6_slot 9 = .ok (.iconst 1, 1) := by decide +kernel
theorem dX6_slot_10 : decode cX6_slot 10 = .ok (.isub, 1) := by decide +kernel
theorem dX6_slot_11 : decode cX6_slot 11 = .ok (.ireturn, 1) := by decide +kernel
theorem dX6_place_0 : decode cX6_place 0 = .ok (.iconst 0, 1) := by decide +kernel
theorem dX6_place_1 : decode cX6_place 1 = .ok (.istore_n 3, 1) := by decide +kernel
theorem dX6_place_2 : decode cX6_place 2 = .ok (.iconst 1, 1) := by decide +kernel
theorem dX6_place_3 : decode cX6_place 3 = .ok (.istore 4, 2) := by decide +kernel
theorem dX6_place_5 : decode cX6_place 5 = .ok (.iload 4, 2) := by decide +kernel
theorem dX6_place_7 : decode cX6_place 7 = .ok (.bipush 6, 2) := by decide +kernel
theorem dX6_place_9 : decode cX6_place 9 = .ok (.if_icmp .gt 31, 3) := by decide +kernel
theorem dX6_place_12 : decode cX6_place 12 = .ok (.aload_n 0, 1) := by decide +kernel
theorem dX6_place_13 : decode cX6_place 13 = .ok (.getfield 7, 3) := by decide +kernel
theorem dX6_place_16 : decode cX6_place 16 = .ok (.iload_n 1, 1) := by decide +kernel
theorem dX6_place_17 : decode cX6_place 17 = .ok (.iload 4, 2) := by decide +kernel
theorem dX6_place_19 : decode cX6_place 19 = .ok (.invokestatic 24, 3) := by decide +kernel
theorem dX6_place_22 : decode cX6_place 22 = .ok (.iaload, 1) := by decide +kernel
theorem dX6_place_23 : decode cX6_place 23 = .ok (.iload_n 2, 1) := by decide +kernel
theorem dX6_place_24 : decode cX6_place 24 = .ok (.if_icmp .ne 8, 3) := by decide +kernel
theorem dX6_place_27 : decode cX6_place 27 = .ok (.iload 4, 2) := by decide +kernel
theorem dX6_place_29 : decode cX6_place 29 = .ok (.goto 4, 3) := by decide +kernel
theorem dX6_place_32 : decode cX6_place 32 = .ok (.iload_n 3, 1) := by decide +kernel
theorem dX6_place_33 : decode cX6_place 33 = .ok (.istore_n 3, 1) := by decide +kernel
theorem dX6_place_34 : decode cX6_place 34 = .ok (.iinc 4 1, 3) := by decide +kernel
theorem dX6_place_37 : decode cX6_place 37 = .ok (.goto (-32), 3) := by decide +kernel
theorem dX6_place_40 : decode cX6_place 40 = .ok (.iload_n 3, 1) := by decide +kernel
theorem dX6_place_41 : decode cX6_place 41 = .ok (.ireturn, 1) := by decide +kernel
theorem dX6_isBehind_0 : decode cX6_isBehind 0 = .ok (.iload_n 0, 1) := by decide +kernel
theorem dX6_isBehind_1 : decode cX6_isBehind 1 = .ok (.iconst 1, 1) := by decide +kernel
theorem dX6_isBehind_2 : decode cX6_isBehind 2 = .ok (.if_icmp .eq 14, 3) := by decide +kernel
theorem dX6_isBehind_5 : decode cX6_isBehind 5 = .ok (.iload_n 0, 1) := by decide +kernel
theorem dX6_isBehind_6 : decode cX6_isBehind 6 = .ok (.iconst 5, 1) := by decide +kernel
theorem dX6_isBehind_7 : decode cX6_isBehind 7 = .ok (.if_icmp .eq 9, 3) := by decide +kernel
theorem dX6_isBehind_10 : decode cX6_isBehind 10 = .ok (.iload_n 0, 1) := by decide +kernel
theorem dX6_isBehind_11 : decode cX6_isBehind 11 = .ok (.bipush 6, 2) := by decide +kernel
theorem dX6_isBehind_13 : decode cX6_isBehind 13 = .ok (.if_icmp .ne 7, 3) := by decide +kernel
theorem dX6_isBehind_16 : decode cX6_isBehind 16 = .ok (.iconst 1, 1) := by decide +kernel
theorem dX6_isBehind_17 : decode cX6_isBehind 17 = .ok (.goto 4, 3) := by decide +kernel
theorem dX6_isBehind_20 : decode cX6_isBehind 20 = .ok (.iconst 0, 1) := by decide +kernel
theorem dX6_isBehind_21 : decode cX6_isBehind 21 = .ok (.ireturn, 1) := by decide +kernel
theorem dX6_line_0 : decode cX6_line 0 = .ok (.iload_n 1, 1) := by decide +kernel
theorem dX6_line_1 : decode cX6_line 1 = .ok (.invokestatic 28, 3) := by decide +kernel
theorem dX6_line_4 : decode cX6_line 4 = .ok (.ifCond .eq 24, 3) := by decide +kernel
theorem dX6_line_7 : decode cX6_line 7 = .ok (.iload_n 2, 1) := by decide +kernel
theorem dX6_line_8 : decode cX6_line 8 = .ok (.iconst 1, 1) := by decide +kernel
theorem dX6_line_9 : decode cX6_line 9 = .ok (.bipush 6, 2) := by decide +kernel
theorem dX6_line_11 : decode cX6_line 11 = .ok (.invokestatic 20, 3) := by decide +kernel
theorem dX6_line_14 : decode cX6_line 14 = .ok (.ifCond .eq 14, 3) := by decide +kernel
theorem dX6_line_17 : decode cX6_line 17 = .ok (.iload_n 3, 1) := by decide +kernel
theorem dX6_line_18 : decode cX6_line 18 = .ok (.invokestatic 32, 3) := by decide +kernel
theorem dX6_line_21 : decode cX6_line 21 = .ok (.ifCond .eq 7, 3) := by decide +kernel
theorem dX6_line_24 : decode cX6_line 24 = .ok (.iconst 1, 1) := by decide +kernel
theorem dX6_line_25 : decode cX6_line 25 = .ok (.goto 4, 3) := by decide +kernel
theorem dX6_line_28 : decode cX6_line 28 = .ok (.iconst 0, 1) := by decide +kernel
theorem dX6_line_29 : decode cX6_line 29 = .ok (.istore 4, 2) := by decide +kernel
theorem dX6_line_31 : decode cX6_line 31 = .ok (.aload_n 0, 1) := by decide +kernel
theorem dX6_line_32 : decode cX6_line 32 = .ok (.iload 4, 2) := by decide +kernel
theorem dX6_line_34 : decode cX6_line 34 = .ok (.ifCond .ne 7, 3) := by decide +kernel
theorem dX6_line_37 : decode cX6_line 37 = .ok (.iconst 1, 1) := by decide +kernel
theorem dX6_line_38 : decode cX6_line 38 = .ok (.goto 25, 3) := by decide +kernel
theorem dX6_line_41 : decode cX6_line 41 = .ok (.aload_n 0, 1) := by decide +kernel
theorem dX6_line_42 : decode cX6_line 42 = .ok (.getfield 7, 3) := by decide +kernel
theorem dX6_line_45 : decode cX6_line 45 = .ok (.iconst 0, 1) := by decide +kernel
theorem dX6_line_46 : decode cX6_line 46 = .ok (.iaload, 1) := by decide +kernel
theorem dX6_line_47 : decode cX6_line 47 = .ok (.iconst 1, 1) := by decide +kernel
theorem dX6_line_48 : decode cX6_line 48 = .ok (.if_icmp .eq 10, 3) := by decide +kernel
theorem dX6_line_51 : decode cX6_line 51 = .ok (.aload_n 0, 1) := by decide +kernel
theorem dX6_line_52 : decode cX6_line 52 = .ok (.invokevirtual 35, 3) := by decide +kernel
theorem dX6_line_55 : decode cX6_line 55 = .ok (.ifCond .eq 7, 3) := by decide +kernel
theorem dX6_line_58 : decode cX6_line 58 = .ok (.iconst 2, 1) := by decide +kernel
theorem dX6_line_59 : decode cX6_line 59 = .ok (.goto 4, 3) := by decide +kernel
theorem dX6_line_62 : decode cX6_line 62 = .ok (.iconst 0, 1) := by decide +kernel
theorem dX6_line_63 : decode cX6_line 63 = .ok (.invokevirtual 39, 3) := by decide +kernel
theorem dX6_line_66 : decode cX6_line 66 = .ok (.ifCond .ne 5, 3) := by decide +kernel
theorem dX6_line_69 : decode cX6_line 69 = .ok (.iconst 0, 1) := by decide +kernel
theorem dX6_line_70 : decode cX6_line 70 = .ok (.ireturn, 1) := by decide +kernel
theorem dX6_line_71 : decode cX6_line 71 = .ok (.aload_n 0, 1) := by decide +kernel
theorem dX6_line_72 : decode cX6_line 72 = .ok (.getfield 7, 3) := by decide +kernel
theorem dX6_line_75 : decode cX6_line 75 = .ok (.bipush 41, 2) := by decide +kernel
theorem dX6_line_77 : decode cX6_line 77 = .ok (.iconst 0, 1) := by decide +kernel
theorem dX6_line_78 : decode cX6_line 78 = .ok (.iastore, 1) := by decide +kernel
theorem dX6_line_79 : decode cX6_line 79 = .ok (.aload_n 0, 1) := by decide +kernel
theorem dX6_line_80 : decode cX6_line 80 = .ok (.getfield 7, 3) := by decide +kernel
theorem dX6_line_83 : decode cX6_line 83 = .ok (.iload_n 1, 1) := by decide +kernel
theorem dX6_line_84 : decode cX6_line 84 = .ok (.iload_n 2, 1) := by decide +kernel
theorem dX6_line_85 : decode cX6_line 85 = .ok (.invokestatic 24, 3) := by decide +kernel
theorem dX6_line_88 : decode cX6_line 88 = .ok (.iaload, 1) := by decide +kernel
theorem dX6_line_89 : decode cX6_line 89 = .ok (.istore 5, 2) := by decide +kernel
theorem dX6_line_91 : decode cX6_line 91 = .ok (.aload_n 0, 1) := by decide +kernel
theorem dX6_line_92 : decode cX6_line 92 = .ok (.getfield 7, 3) := by decide +kernel
theorem dX6_line_95 : decode cX6_line 95 = .ok (.iload_n 1, 1) := by decide +kernel
theorem dX6_line_96 : decode cX6_line 96 = .ok (.iload_n 2, 1) := by decide +kernel
theorem dX6_line_97 : decode cX6_line 97 = .ok (.invokestatic 24, 3) := by decide +kernel
theorem dX6_line_100 : decode cX6_line 100 = .ok (.iload_n 3, 1) := by decide +kernel
theorem dX6_line_101 : decode cX6_line 101 = .ok (.iastore, 1) := by decide +kernel
theorem dX6_line_102 : decode cX6_line 102 = .ok (.iload 5, 2) := by decide +kernel
theorem dX6_line_104 : decode cX6_line 104 = .ok (.ireturn, 1) := by decide +kernel
theorem dX6_libero_0 : decode cX6_libero 0 = .ok (.iload_n 1, 1) := by decide +kernel
theorem dX6_libero_1 : decode cX6_libero 1 = .ok (.invokestatic 28, 3) := by decide +kernel
theorem dX6_libero_4 : decode cX6_libero 4 = .ok (.ifCond .eq 14, 3) := by decide +kernel
theorem dX6_libero_7 : decode cX6_libero 7 = .ok (.iload_n 2, 1) := by decide +kernel
theorem dX6_libero_8 : decode cX6_libero 8 = .ok (.invokestatic 32, 3) := by decide +kernel
theorem dX6_libero_11 : decode cX6_libero 11 = .ok (.ifCond .eq 7, 3) := by decide +kernel
theorem dX6_libero_14 : decode cX6_libero 14 = .ok (.iconst 1, 1) := by decide +kernel
theorem dX6_libero_15 : decode cX6_libero 15 = .ok (.goto 4, 3) := by decide +kernel
theorem dX6_libero_18 : decode cX6_libero 18 = .ok (.iconst 0, 1) := by decide +kernel
theorem dX6_libero_19 : decode cX6_libero 19 = .ok (.istore_n 3, 1) := by decide +kernel
theorem dX6_libero_20 : decode cX6_libero 20 = .ok (.aload_n 0, 1) := by decide +kernel
theorem dX6_libero_21 : decode cX6_libero 21 = .ok (.iload_n 3, 1) := by decide +kernel
theorem dX6_libero_22 : decode cX6_libero 22 = .ok (.ifCond .ne 7, 3) := by decide +kernel
theorem dX6_libero_25 : decode cX6_libero 25 = .ok (.iconst 1, 1) := by decide +kernel
theorem dX6_libero_26 : decode cX6_libero 26 = .ok (.goto 25, 3) := by decide +kernel
theorem dX6_libero_29 : decode cX6_libero 29 = .ok (.aload_n 0, 1) := by decide +kernel
theorem dX6_libero_30 : decode cX6_libero 30 = .ok (.getfield 7, 3) := by decide +kernel
theorem dX6_libero_33 : decode cX6_libero 33 = .ok (.iconst 0, 1) := by decide +kernel
theorem dX6_libero_34 : decode cX6_libero 34 = .ok (.iaload, 1) := by decide +kernel
theorem dX6_libero_35 : decode cX6_libero 35 = .ok (.iconst 1, 1) := by decide +kernel
theorem dX6_libero_36 : decode cX6_libero 36 = .ok (.if_icmp .eq 10, 3) := by decide +kernel
theorem dX6_libero_39 : decode cX6_libero 39 = .ok (.aload_n 0, 1) := by decide +kernel
theorem dX6_libero_40 : decode cX6_libero 40 = .ok (.invokevirtual 35, 3) := by decide +kernel
theorem dX6_libero_43 : decode cX6_libero 43 = .ok (.ifCond .eq 7, 3) := by decide +kernel
theorem dX6_libero_46 : decode cX6_libero 46 = .ok (.iconst 2, 1) := by decide +kernel
theorem dX6_libero_47 : decode cX6_libero 47 = .ok (.goto 4, 3) := by decide +kernel
theorem dX6_libero_50 : decode cX6_libero 50 = .ok (.iconst 0, 1) := by decide +kernel
theorem dX6_libero_51 : decode cX6_libero 51 = .ok (.invokevirtual 39, 3) := by decide +kernel
theorem dX6_libero_54 : decode cX6_libero 54 = .ok (.ifCond .ne 5, 3) := by decide +kernel
theorem dX6_libero_57 : decode cX6_libero 57 = .ok (.iconst 0, 1) := by decide +kernel
theorem dX6_libero_58 : decode cX6_libero 58 = .ok (.ireturn, 1) := by decide +kernel
theorem dX6_libero_59 : decode cX6_libero 59 = .ok (.aload_n 0, 1) := by decide +kernel
theorem dX6_libero_60 : decode cX6_libero 60 = .ok (.getfield 7, 3) := by decide +kernel
theorem dX6_libero_63 : decode cX6_libero 63 = .ok (.bipush 41, 2) := by decide +kernel
theorem dX6_libero_65 : decode cX6_libero 65 = .ok (.iconst 0, 1) := by decide +kernel
theorem dX6_libero_66 : decode cX6_libero 66 = .ok (.iastore, 1) := by decide +kernel
theorem dX6_libero_67 : decode cX6_libero 67 = .ok (.aload_n 0, 1) := by decide +kernel
theorem dX6_libero_68 : decode cX6_libero 68 = .ok (.getfield 7, 3) := by decide +kernel
theorem dX6_libero_71 : decode cX6_libero 71 = .ok (.bipush 26, 2) := by decide +kernel
theorem dX6_libero_73 : decode cX6_libero 73 = .ok (.iload_n 1, 1) := by decide +kernel
theorem dX6_libero_74 : decode cX6_libero 74 = .ok (.iadd, 1) := by decide +kernel
theorem dX6_libero_75 : decode cX6_libero 75 = .ok (.iaload, 1) := by decide +kernel
theorem dX6_libero_76 : decode cX6_libero 76 = .ok (.istore 4, 2) := by decide +kernel
theorem dX6_libero_78 : decode cX6_libero 78 = .ok (.aload_n 0, 1) := by decide +kernel
theorem dX6_libero_79 : decode cX6_libero 79 = .ok (.getfield 7, 3) := by decide +kernel
theorem dX6_libero_82 : decode cX6_libero 82 = .ok (.bipush 26, 2) := by decide +kernel
theorem dX6_libero_84 : decode cX6_libero 84 = .ok (.iload_n 1, 1) := by decide +kernel
theorem dX6_libero_85 : decode cX6_libero 85 = .ok (.iadd, 1) := by decide +kernel
theorem dX6_libero_86 : decode cX6_libero 86 = .ok (.iload_n 2, 1) := by decide +kernel
theorem dX6_libero_87 : decode cX6_libero 87 = .ok (.iastore, 1) := by decide +kernel
theorem dX6_libero_88 : decode cX6_libero 88 = .ok (.iload 4, 2) := by decide +kernel
theorem dX6_libero_90 : decode cX6_libero 90 = .ok (.ireturn, 1) := by decide +kernel
theorem dX6_isLinedUp_0 : decode cX6_isLinedUp 0 = .ok (.iconst 1, 1) := by decide +kernel
theorem dX6_isLinedUp_1 : decode cX6_isLinedUp 1 = .ok (.istore_n 2, 1) := by decide +kernel
theorem dX6_isLinedUp_2 : decode cX6_isLinedUp 2 = .ok (.iconst 1, 1) := by decide +kernel
theorem dX6_isLinedUp_3 : decode cX6_isLinedUp 3 = .ok (.istore_n 3, 1) := by decide +kernel
theorem dX6_isLinedUp_4 : decode cX6_isLinedUp 4 = .ok (.iload_n 3, 1) := by decide +kernel
theorem dX6_isLinedUp_5 : decode cX6_isLinedUp 5 = .ok (.bipush 6, 2) := by decide +kernel
theorem dX6_isLinedUp_7 : decode cX6_isLinedUp 7 = .ok (.if_icmp .gt 62, 3) := by decide +kernel
theorem dX6_isLinedUp_10 : decode cX6_isLinedUp 10 = .ok (.aload_n 0, 1) := by decide +kernel
theorem dX6_isLinedUp_11 : decode cX6_isLinedUp 11 = .ok (.getfield 7, 3) := by decide +kernel
theorem dX6_isLinedUp_14 : decode cX6_isLinedUp 14 = .ok (.iload_n 1, 1) := by decide +kernel
theorem dX6_isLinedUp_15 : decode cX6_isLinedUp 15 = .ok (.iload_n 3, 1) := by decide +kernel
theorem dX6_isLinedUp_16 : decode cX6_isLinedUp 16 = .ok (.invokestatic 24, 3) := by decide +kernel
theorem dX6_isLinedUp_19 : decode cX6_isLinedUp 19 = .ok (.iaload, 1) := by decide +kernel
theorem dX6_isLinedUp_20 : decode cX6_isLinedUp 20 = .ok (.istore 4, 2) := by decide +kernel
theorem dX6_isLinedUp_22 : decode cX6_isLinedUp 22 = .ok (.iload_n 2, 1) := by decide +kernel
theorem dX6_isLinedUp_23 : decode cX6_isLinedUp 23 = .ok (.ifCond .eq 38, 3) := by decide +kernel
theorem dX6_isLinedUp_26 : decode cX6_isLinedUp 26 = .ok (.iload 4, 2) := by decide +kernel
theorem dX6_isLinedUp_28 : decode cX6_isLinedUp 28 = .ok (.iconst (-1), 1) := by decide +kernel
theorem dX6_isLinedUp_29 : decode cX6_isLinedUp 29 = .ok (.if_icmp .eq 32, 3) := by decide +kernel
theorem dX6_isLinedUp_32 : decode cX6_isLinedUp 32 = .ok (.aload_n 0, 1) := by decide +kernel
theorem dX6_isLinedUp_33 : decode cX6_isLinedUp 33 = .ok (.iload_n 1, 1) := by decide +kernel
theorem dX6_isLinedUp_34 : decode cX6_isLinedUp 34 = .ok (.iload 4, 2) := by decide +kernel
theorem dX6_isLinedUp_36 : decode cX6_isLinedUp 36 = .ok (.invokevirtual 42, 3) := by decide +kernel
theorem dX6_isLinedUp_39 : decode cX6_isLinedUp 39 = .ok (.iload_n 3, 1) := by decide +kernel
theorem dX6_isLinedUp_40 : decode cX6_isLinedUp 40 = .ok (.if_icmp .ne 21, 3) := by decide +kernel
theorem dX6_isLinedUp_43 : decode cX6_isLinedUp 43 = .ok (.iload 4, 2) := by decide +kernel
theorem dX6_isLinedUp_45 : decode cX6_isLinedUp 45 = .ok (.aload_n 0, 1) := by decide +kernel
theorem dX6_isLinedUp_46 : decode cX6_isLinedUp 46 = .ok (.getfield 7, 3) := by decide +kernel
theorem dX6_isLinedUp_49 : decode cX6_isLinedUp 49 = .ok (.bipush 26, 2) := by decide +kernel
theorem dX6_isLinedUp_51 : decode cX6_isLinedUp 51 = .ok (.iload_n 1, 1) := by decide +kernel
theorem dX6_isLinedUp_52 : decode cX6_isLinedUp 52 = .ok (.iadd, 1) := by decide +kernel
theorem dX6_isLinedUp_53 : decode cX6_isLinedUp 53 = .ok (.iaload, 1) := by decide +kernel
theorem dX6_isLinedUp_54 : decode cX6_isLinedUp 54 = .ok (.if_icmp .eq 7, 3) := by decide +kernel
theorem dX6_isLinedUp_57 : decode cX6_isLinedUp 57 = .ok (.iconst 1, 1) := by decide +kernel
theorem dX6_isLinedUp_58 : decode cX6_isLinedUp 58 = .ok (.goto 4, 3) := by decide +kernel
theorem dX6_isLinedUp_61 : decode cX6_isLinedUp 61 = .ok (.iconst 0, 1) := by decide +kernel
theorem dX6_isLinedUp_62 : decode cX6_isLinedUp 62 = .ok (.istore_n 2, 1) := by decide +kernel
theorem dX6_isLinedUp_63 : decode cX6_isLinedUp 63 = .ok (.iinc 3 1, 3) := by decide +kernel
theorem dX6_isLinedUp_66 : decode cX6_isLinedUp 66 = .ok (.goto (-62), 3) := by decide +kernel
theorem dX6_isLinedUp_69 : decode cX6_isLinedUp 69 = .ok (.iload_n 2, 1) := by decide +kernel
theorem dX6_isLinedUp_70 : decode cX6_isLinedUp 70 = .ok (.ireturn, 1) := by decide +kernel
theorem dX6_begin_0 : decode cX6_begin 0 = .ok (.aload_n 0, 1) := by decide +kernel
theorem dX6_begin_1 : decode cX6_begin 1 = .ok (.getfield 7, 3) := by decide +kernel
theorem dX6_begin_4 : decode cX6_begin 4 = .ok (.iconst 0, 1) := by decide +kernel
theorem dX6_begin_5 : decode cX6_begin 5 = .ok (.iaload, 1) := by decide +kernel
theorem dX6_begin_6 : decode cX6_begin 6 = .ok (.ifCond .ne 30, 3) := by decide +kernel
theorem dX6_begin_9 : decode cX6_begin 9 = .ok (.aload_n 0, 1) := by decide +kernel
theorem dX6_begin_10 : decode cX6_begin 10 = .ok (.invokevirtual 35, 3) := by decide +kernel
theorem dX6_begin_13 : decode cX6_begin 13 = .ok (.ifCond .ne 23, 3) := by decide +kernel
theorem dX6_begin_16 : decode cX6_begin 16 = .ok (.aload_n 0, 1) := by decide +kernel
theorem dX6_begin_17 : decode cX6_begin 17 = .ok (.iconst 0, 1) := by decide +kernel
theorem dX6_begin_18 : decode cX6_begin 18 = .ok (.invokevirtual 45, 3) := by decide +kernel
theorem dX6_begin_21 : decode cX6_begin 21 = .ok (.ifCond .eq 15, 3) := by decide +kernel
theorem dX6_begin_24 : decode cX6_begin 24 = .ok (.aload_n 0, 1) := by decide +kernel
theorem dX6_begin_25 : decode cX6_begin 25 = .ok (.iconst 1, 1) := by decide +kernel
theorem dX6_begin_26 : decode cX6_begin 26 = .ok (.invokevirtual 45, 3) := by decide +kernel
theorem dX6_begin_29 : decode cX6_begin 29 = .ok (.ifCond .eq 7, 3) := by decide +kernel
theorem dX6_begin_32 : decode cX6_begin 32 = .ok (.iconst 1, 1) := by decide +kernel
theorem dX6_begin_33 : decode cX6_begin 33 = .ok (.goto 4, 3) := by decide +kernel
theorem dX6_begin_36 : decode cX6_begin 36 = .ok (.iconst 0, 1) := by decide +kernel
theorem dX6_begin_37 : decode cX6_begin 37 = .ok (.istore_n 2, 1) := by decide +kernel
theorem dX6_begin_38 : decode cX6_begin 38 = .ok (.aload_n 0, 1) := by decide +kernel
theorem dX6_begin_39 : decode cX6_begin 39 = .ok (.iload_n 1, 1) := by decide +kernel
theorem dX6_begin_40 : decode cX6_begin 40 = .ok (.invokestatic 28, 3) := by decide +kernel
theorem dX6_begin_43 : decode cX6_begin 43 = .ok (.ifCond .ne 7, 3) := by decide +kernel
theorem dX6_begin_46 : decode cX6_begin 46 = .ok (.iconst 1, 1) := by decide +kernel
theorem dX6_begin_47 : decode cX6_begin 47 = .ok (.goto 12, 3) := by decide +kernel
theorem dX6_begin_50 : decode cX6_begin 50 = .ok (.iload_n 2, 1) := by decide +kernel
theorem dX6_begin_51 : decode cX6_begin 51 = .ok (.ifCond .eq 7, 3) := by decide +kernel
theorem dX6_begin_54 : decode cX6_begin 54 = .ok (.iconst 0, 1) := by decide +kernel
theorem dX6_begin_55 : decode cX6_begin 55 = .ok (.goto 4, 3) := by decide +kernel
theorem dX6_begin_58 : decode cX6_begin 58 = .ok (.iconst 2, 1) := by decide +kernel
theorem dX6_begin_59 : decode cX6_begin 59 = .ok (.invokevirtual 39, 3) := by decide +kernel
theorem dX6_begin_62 : decode cX6_begin 62 = .ok (.ifCond .ne 5, 3) := by decide +kernel
theorem dX6_begin_65 : decode cX6_begin 65 = .ok (.iconst 0, 1) := by decide +kernel
theorem dX6_begin_66 : decode cX6_begin 66 = .ok (.ireturn, 1) := by decide +kernel
theorem dX6_begin_67 : decode cX6_begin 67 = .ok (.aload_n 0, 1) := by decide +kernel
theorem dX6_begin_68 : decode cX6_begin 68 = .ok (.getfield 7, 3) := by decide +kernel
theorem dX6_begin_71 : decode cX6_begin 71 = .ok (.bipush 41, 2) := by decide +kernel
theorem dX6_begin_73 : decode cX6_begin 73 = .ok (.iconst 0, 1) := by decide +kernel
theorem dX6_begin_74 : decode cX6_begin 74 = .ok (.iastore, 1) := by decide +kernel
theorem dX6_begin_75 : decode cX6_begin 75 = .ok (.aload_n 0, 1) := by decide +kernel
theorem dX6_begin_76 : decode cX6_begin 76 = .ok (.getfield 7, 3) := by decide +kernel
theorem dX6_begin_79 : decode cX6_begin 79 = .ok (.iconst 0, 1) := by decide +kernel
theorem dX6_begin_80 : decode cX6_begin 80 = .ok (.iconst 1, 1) := by decide +kernel
theorem dX6_begin_81 : decode cX6_begin 81 = .ok (.iastore, 1) := by decide +kernel
theorem dX6_begin_82 : decode cX6_begin 82 = .ok (.aload_n 0, 1) := by decide +kernel
theorem dX6_begin_83 : decode cX6_begin 83 = .ok (.getfield 7, 3) := by decide +kernel
theorem dX6_begin_86 : decode cX6_begin 86 = .ok (.iconst 1, 1) := by decide +kernel
theorem dX6_begin_87 : decode cX6_begin 87 = .ok (.iconst 0, 1) := by decide +kernel
theorem dX6_begin_88 : decode cX6_begin 88 = .ok (.iastore, 1) := by decide +kernel
theorem dX6_begin_89 : decode cX6_begin 89 = .ok (.aload_n 0, 1) := by decide +kernel
theorem dX6_begin_90 : decode cX6_begin 90 = .ok (.getfield 7, 3) := by decide +kernel
theorem dX6_begin_93 : decode cX6_begin 93 = .ok (.iconst 2, 1) := by decide +kernel
theorem dX6_begin_94 : decode cX6_begin 94 = .ok (.iload_n 1, 1) := by decide +kernel
theorem dX6_begin_95 : decode cX6_begin 95 = .ok (.iastore, 1) := by decide +kernel
theorem dX6_begin_96 : decode cX6_begin 96 = .ok (.aload_n 0, 1) := by decide +kernel
theorem dX6_begin_97 : decode cX6_begin 97 = .ok (.getfield 7, 3) := by decide +kernel
theorem dX6_begin_100 : decode cX6_begin 100 = .ok (.iconst 3, 1) := by decide +kernel
theorem dX6_begin_101 : decode cX6_begin 101 = .ok (.iconst 0, 1) := by decide +kernel
theorem dX6_begin_102 : decode cX6_begin 102 = .ok (.iastore, 1) := by decide +kernel
theorem dX6_begin_103 : decode cX6_begin 103 = .ok (.aload_n 0, 1) := by decide +kernel
theorem dX6_begin_104 : decode cX6_begin 104 = .ok (.getfield 7, 3) := by decide +kernel
theorem dX6_begin_107 : decode cX6_begin 107 = .ok (.bipush 9, 2) := by decide +kernel
theorem dX6_begin_109 : decode cX6_begin 109 = .ok (.iconst (-1), 1) := by decide +kernel
theorem dX6_begin_110 : decode cX6_begin 110 = .ok (.iastore, 1) := by decide +kernel
theorem dX6_begin_111 : decode cX6_begin 111 = .ok (.iconst 0, 1) := by decide +kernel
theorem dX6_begin_112 : decode cX6_begin 112 = .ok (.istore_n 3, 1) := by decide +kernel
theorem dX6_begin_113 : decode cX6_begin 113 = .ok (.iload_n 3, 1) := by decide +kernel
theorem dX6_begin_114 : decode cX6_begin 114 = .ok (.iconst 2, 1) := by decide +kernel
theorem dX6_begin_115 : decode cX6_begin 115 = .ok (.if_icmp .ge 79, 3) := by decide +kernel
theorem dX6_begin_118 : decode cX6_begin 118 = .ok (.aload_n 0, 1) := by decide +kernel
theorem dX6_begin_119 : decode cX6_begin 119 = .ok (.getfield 7, 3) := by decide +kernel
theorem dX6_begin_122 : decode cX6_begin 122 = .ok (.bipush 10, 2) := by decide +kernel
theorem dX6_begin_124 : decode cX6_begin 124 = .ok (.iload_n 3, 1) := by decide +kernel
theorem dX6_begin_125 : decode cX6_begin 125 = .ok (.iadd, 1) := by decide +kernel
theorem dX6_begin_126 : decode cX6_begin 126 = .ok (.iconst 0, 1) := by decide +kernel
theorem dX6_begin_127 : decode cX6_begin 127 = .ok (.iastore, 1) := by decide +kernel
theorem dX6_begin_128 : decode cX6_begin 128 = .ok (.aload_n 0, 1) := by decide +kernel
theorem dX6_begin_129 : decode cX6_begin 129 = .ok (.getfield 7, 3) := by decide +kernel
theorem dX6_begin_132 : decode cX6_begin 132 = .ok (.bipush 28, 2) := by decide +kernel
theorem dX6_begin_134 : decode cX6_begin 134 = .ok (.iload_n 3, 1) := by decide +kernel
theorem dX6_begin_135 : decode cX6_begin 135 = .ok (.iadd, 1) := by decide +kernel
theorem dX6_begin_136 : decode cX6_begin 136 = .ok (.iconst (-1), 1) := by decide +kernel
theorem dX6_begin_137 : decode cX6_begin 137 = .ok (.iastore, 1) := by decide +kernel
theorem dX6_begin_138 : decode cX6_begin 138 = .ok (.aload_n 0, 1) := by decide +kernel
theorem dX6_begin_139 : decode cX6_begin 139 = .ok (.getfield 7, 3) := by decide +kernel
theorem dX6_begin_142 : decode cX6_begin 142 = .ok (.bipush 30, 2) := by decide +kernel
theorem dX6_begin_144 : decode cX6_begin 144 = .ok (.iload_n 3, 1) := by decide +kernel
theorem dX6_begin_145 : decode cX6_begin 145 = .ok (.iadd, 1) := by decide +kernel
theorem dX6_begin_146 : decode cX6_begin 146 = .ok (.iconst 0, 1) := by decide +kernel
theorem dX6_begin_147 : decode cX6_begin 147 = .ok (.iastore, 1) := by decide +kernel
theorem dX6_begin_148 : decode cX6_begin 148 = .ok (.aload_n 0, 1) := by decide +kernel
theorem dX6_begin_149 : decode cX6_begin 149 = .ok (.getfield 7, 3) := by decide +kernel
theorem dX6_begin_152 : decode cX6_begin 152 = .ok (.bipush 32, 2) := by decide +kernel
theorem dX6_begin_154 : decode cX6_begin 154 = .ok (.iload_n 3, 1) := by decide +kernel
theorem dX6_begin_155 : decode cX6_begin 155 = .ok (.iadd, 1) := by decide +kernel
theorem dX6_begin_156 : decode cX6_begin 156 = .ok (.iconst 0, 1) := by decide +kernel
theorem dX6_begin_157 : decode cX6_begin 157 = .ok (.iastore, 1) := by decide +kernel
theorem dX6_begin_158 : decode cX6_begin 158 = .ok (.aload_n 0, 1) := by decide +kernel
theorem dX6_begin_159 : decode cX6_begin 159 = .ok (.getfield 7, 3) := by decide +kernel
theorem dX6_begin_162 : decode cX6_begin 162 = .ok (.bipush 34, 2) := by decide +kernel
theorem dX6_begin_164 : decode cX6_begin 164 = .ok (.iload_n 3, 1) := by decide +kernel
theorem dX6_begin_165 : decode cX6_begin 165 = .ok (.iadd, 1) := by decide +kernel
theorem dX6_begin_166 : decode cX6_begin 166 = .ok (.iconst 2, 1) := by decide +kernel
theorem dX6_begin_167 : decode cX6_begin 167 = .ok (.iastore, 1) := by decide +kernel
theorem dX6_begin_168 : decode cX6_begin 168 = .ok (.aload_n 0, 1) := by decide +kernel
theorem dX6_begin_169 : decode cX6_begin 169 = .ok (.getfield 7, 3) := by decide +kernel
theorem dX6_begin_172 : decode cX6_begin 172 = .ok (.bipush 36, 2) := by decide +kernel
theorem dX6_begin_174 : decode cX6_begin 174 = .ok (.iload_n 3, 1) := by decide +kernel
theorem dX6_begin_175 : decode cX6_begin 175 = .ok (.iadd, 1) := by decide +kernel
theorem dX6_begin_176 : decode cX6_begin 176 = .ok (.iconst 0, 1) := by decide +kernel
theorem dX6_begin_177 : decode cX6_begin 177 = .ok (.iastore, 1) := by decide +kernel
theorem dX6_begin_178 : decode cX6_begin 178 = .ok (.aload_n 0, 1) := by decide +kernel
theorem dX6_begin_179 : decode cX6_begin 179 = .ok (.getfield 7, 3) := by decide +kernel
theorem dX6_begin_182 : decode cX6_begin 182 = .ok (.bipush 78, 2) := by decide +kernel
theorem dX6_begin_184 : decode cX6_begin 184 = .ok (.iload_n 3, 1) := by decide +kernel
theorem dX6_begin_185 : decode cX6_begin 185 = .ok (.iadd, 1) := by decide +kernel
theorem dX6_begin_186 : decode cX6_begin 186 = .ok (.iconst 0, 1) := by decide +kernel
theorem dX6_begin_187 : decode cX6_begin 187 = .ok (.iastore, 1) := by decide +kernel
theorem dX6_begin_188 : decode cX6_begin 188 = .ok (.iinc 3 1, 3) := by decide +kernel
theorem dX6_begin_191 : decode cX6_begin 191 = .ok (.goto (-78), 3) := by decide +kernel
theorem dX6_begin_194 : decode cX6_begin 194 = .ok (.iconst 0, 1) := by decide +kernel
theorem dX6_begin_195 : decode cX6_begin 195 = .ok (.istore_n 3, 1) := by decide +kernel
theorem dX6_begin_196 : decode cX6_begin 196 = .ok (.iload_n 3, 1) := by decide +kernel
theorem dX6_begin_197 : decode cX6_begin 197 = .ok (.bipush 12, 2) := by decide +kernel
theorem dX6_begin_199 : decode cX6_begin 199 = .ok (.if_icmp .ge 19, 3) := by decide +kernel
theorem dX6_begin_202 : decode cX6_begin 202 = .ok (.aload_n 0, 1) := by decide +kernel
theorem dX6_begin_203 : decode cX6_begin 203 = .ok (.getfield 7, 3) := by decide +kernel
theorem dX6_begin_206 : decode cX6_begin 206 = .ok (.bipush 80, 2) := by decide +kernel
theorem dX6_begin_208 : decode cX6_begin 208 = .ok (.iload_n 3, 1) := by decide +kernel
theorem dX6_begin_209 : decode cX6_begin 209 = .ok (.iadd, 1) := by decide +kernel
theorem dX6_begin_210 : decode cX6_begin 210 = .ok (.iconst 0, 1) := by decide +kernel
theorem dX6_begin_211 : decode cX6_begin 211 = .ok (.iastore, 1) := by decide +kernel
theorem dX6_begin_212 : decode cX6_begin 212 = .ok (.iinc 3 1, 3) := by decide +kernel
theorem dX6_begin_215 : decode cX6_begin 215 = .ok (.goto (-19), 3) := by decide +kernel
theorem dX6_begin_218 : decode cX6_begin 218 = .ok (.aload_n 0, 1) := by decide +kernel
theorem dX6_begin_219 : decode cX6_begin 219 = .ok (.getfield 7, 3) := by decide +kernel
theorem dX6_begin_222 : decode cX6_begin 222 = .ok (.bipush 12, 2) := by decide +kernel
theorem dX6_begin_224 : decode cX6_begin 224 = .ok (.iaload, 1) := by decide +kernel
theorem dX6_begin_225 : decode cX6_begin 225 = .ok (.aload_n 0, 1) := by decide +kernel
theorem dX6_begin_226 : decode cX6_begin 226 = .ok (.getfield 7, 3) := by decide +kernel
theorem dX6_begin_229 : decode cX6_begin 229 = .ok (.bipush 13, 2) := by decide +kernel
theorem dX6_begin_231 : decode cX6_begin 231 = .ok (.iaload, 1) := by decide +kernel
theorem dX6_begin_232 : decode cX6_begin 232 = .ok (.iadd, 1) := by decide +kernel
theorem dX6_begin_233 : decode cX6_begin 233 = .ok (.iconst 1, 1) := by decide +kernel
theorem dX6_begin_234 : decode cX6_begin 234 = .ok (.iadd, 1) := by decide +kernel
theorem dX6_begin_235 : decode cX6_begin 235 = .ok (.ireturn, 1) := by decide +kernel
theorem dX6_rotates_0 : decode cX6_rotates 0 = .ok (.aload_n 0, 1) := by decide +kernel
theorem dX6_rotates_1 : decode cX6_rotates 1 = .ok (.getfield 7, 3) := by decide +kernel
theorem dX6_rotates_4 : decode cX6_rotates 4 = .ok (.iload_n 1, 1) := by decide +kernel
theorem dX6_rotates_5 : decode cX6_rotates 5 = .ok (.iconst 1, 1) := by decide +kernel
theorem dX6_rotates_6 : decode cX6_rotates 6 = .ok (.invokestatic 24, 3) := by decide +kernel
theorem dX6_rotates_9 : decode cX6_rotates 9 = .ok (.iaload, 1) := by decide +kernel
theorem dX6_rotates_10 : decode cX6_rotates 10 = .ok (.istore_n 2, 1) := by decide +kernel
theorem dX6_rotates_11 : decode cX6_rotates 11 = .ok (.iconst 1, 1) := by decide +kernel
theorem dX6_rotates_12 : decode cX6_rotates 12 = .ok (.istore_n 3, 1) := by decide +kernel
theorem dX6_rotates_13 : decode cX6_rotates 13 = .ok (.iload_n 3, 1) := by decide +kernel
theorem dX6_rotates_14 : decode cX6_rotates 14 = .ok (.bipush 6, 2) := by decide +kernel
theorem dX6_rotates_16 : decode cX6_rotates 16 = .ok (.if_icmp .ge 31, 3) := by decide +kernel
theorem dX6_rotates_19 : decode cX6_rotates 19 = .ok (.aload_n 0, 1) := by decide +kernel
theorem dX6_rotates_20 : decode cX6_rotates 20 = .ok (.getfield 7, 3) := by decide +kernel
theorem dX6_rotates_23 : decode cX6_rotates 23 = .ok (.iload_n 1, 1) := by decide +kernel
theorem dX6_rotates_24 : decode cX6_rotates 24 = .ok (.iload_n 3, 1) := by decide +kernel
theorem dX6_rotates_25 : decode cX6_rotates 25 = .ok (.invokestatic 24, 3) := by decide +kernel
theorem dX6_rotates_28 : decode cX6_rotates 28 = .ok (.aload_n 0, 1) := by decide +kernel
theorem dX6_rotates_29 : decode cX6_rotates 29 = .ok (.getfield 7, 3) := by decide +kernel
theorem dX6_rotates_32 : decode cX6_rotates 32 = .ok (.iload_n 1, 1) := by decide +kernel
theorem dX6_rotates_33 : decode cX6_rotates 33 = .ok (.iload_n 3, 1) := by decide +kernel
theorem dX6_rotates_34 : decode cX6_rotates 34 = .ok (.iconst 1, 1) := by decide +kernel
theorem dX6_rotates_35 : decode cX6_rotates 35 = .ok (.iadd, 1) := by decide +kernel
theorem dX6_rotates_36 : decode cX6_rotates 36 = .ok (.invokestatic 24, 3) := by decide +kernel
theorem dX6_rotates_39 : decode cX6_rotates 39 = .ok (.iaload, 1) := by decide +kernel
theorem dX6_rotates_40 : decode cX6_rotates 40 = .ok (.iastore, 1) := by decide +kernel
theorem dX6_rotates_41 : decode cX6_rotates 41 = .ok (.iinc 3 1, 3) := by decide +kernel
theorem dX6_rotates_44 : decode cX6_rotates 44 = .ok (.goto (-31), 3) := by decide +kernel
theorem dX6_rotates_47 : decode cX6_rotates 47 = .ok (.aload_n 0, 1) := by decide +kernel
theorem dX6_rotates_48 : decode cX6_rotates 48 = .ok (.getfield 7, 3) := by decide +kernel
theorem dX6_rotates_51 : decode cX6_rotates 51 = .ok (.iload_n 1, 1) := by decide +kernel
theorem dX6_rotates_52 : decode cX6_rotates 52 = .ok (.bipush 6, 2) := by decide +kernel
theorem dX6_rotates_54 : decode cX6_rotates 54 = .ok (.invokestatic 24, 3) := by decide +kernel
theorem dX6_rotates_57 : decode cX6_rotates 57 = .ok (.iload_n 2, 1) := by decide +kernel
theorem dX6_rotates_58 : decode cX6_rotates 58 = .ok (.iastore, 1) := by decide +kernel
theorem dX6_rotates_59 : decode cX6_rotates 59 = .ok (.aload_n 0, 1) := by decide +kernel
theorem dX6_rotates_60 : decode cX6_rotates 60 = .ok (.getfield 7, 3) := by decide +kernel
theorem dX6_rotates_63 : decode cX6_rotates 63 = .ok (.bipush 36, 2) := by decide +kernel
theorem dX6_rotates_65 : decode cX6_rotates 65 = .ok (.iload_n 1, 1) := by decide +kernel
theorem dX6_rotates_66 : decode cX6_rotates 66 = .ok (.iadd, 1) := by decide +kernel
theorem dX6_rotates_67 : decode cX6_rotates 67 = .ok (.dup2, 1) := by decide +kernel
theorem dX6_rotates_68 : decode cX6_rotates 68 = .ok (.iaload, 1) := by decide +kernel
theorem dX6_rotates_69 : decode cX6_rotates 69 = .ok (.iconst 1, 1) := by decide +kernel
theorem dX6_rotates_70 : decode cX6_rotates 70 = .ok (.iadd, 1) := by decide +kernel
theorem dX6_rotates_71 : decode cX6_rotates 71 = .ok (.iastore, 1) := by decide +kernel
theorem dX6_rotates_72 : decode cX6_rotates 72 = .ok (.aload_n 0, 1) := by decide +kernel
theorem dX6_rotates_73 : decode cX6_rotates 73 = .ok (.getfield 7, 3) := by decide +kernel
theorem dX6_rotates_76 : decode cX6_rotates 76 = .ok (.bipush 28, 2) := by decide +kernel
theorem dX6_rotates_78 : decode cX6_rotates 78 = .ok (.iload_n 1, 1) := by decide +kernel
theorem dX6_rotates_79 : decode cX6_rotates 79 = .ok (.iadd, 1) := by decide +kernel
theorem dX6_rotates_80 : decode cX6_rotates 80 = .ok (.iaload, 1) := by decide +kernel
theorem dX6_rotates_81 : decode cX6_rotates 81 = .ok (.iconst (-1), 1) := by decide +kernel
theorem dX6_rotates_82 : decode cX6_rotates 82 = .ok (.if_icmp .eq 54, 3) := by decide +kernel
theorem dX6_rotates_85 : decode cX6_rotates 85 = .ok (.aload_n 0, 1) := by decide +kernel
theorem dX6_rotates_86 : decode cX6_rotates 86 = .ok (.getfield 7, 3) := by decide +kernel
theorem dX6_rotates_89 : decode cX6_rotates 89 = .ok (.iload_n 1, 1) := by decide +kernel
theorem dX6_rotates_90 : decode cX6_rotates 90 = .ok (.iconst 4, 1) := by decide +kernel
theorem dX6_rotates_91 : decode cX6_rotates 91 = .ok (.invokestatic 24, 3) := by decide +kernel
theorem dX6_rotates_94 : decode cX6_rotates 94 = .ok (.iaload, 1) := by decide +kernel
theorem dX6_rotates_95 : decode cX6_rotates 95 = .ok (.aload_n 0, 1) := by decide +kernel
theorem dX6_rotates_96 : decode cX6_rotates 96 = .ok (.getfield 7, 3) := by decide +kernel
theorem dX6_rotates_99 : decode cX6_rotates 99 = .ok (.bipush 26, 2) := by decide +kernel
theorem dX6_rotates_101 : decode cX6_rotates 101 = .ok (.iload_n 1, 1) := by decide +kernel
theorem dX6_rotates_102 : decode cX6_rotates 102 = .ok (.iadd, 1) := by decide +kernel
theorem dX6_rotates_103 : decode cX6_rotates 103 = .ok (.iaload, 1) := by decide +kernel
theorem dX6_rotates_104 : decode cX6_rotates 104 = .ok (.if_icmp .ne 32, 3) := by decide +kernel
theorem dX6_rotates_107 : decode cX6_rotates 107 = .ok (.aload_n 0, 1) := by decide +kernel
theorem dX6_rotates_108 : decode cX6_rotates 108 = .ok (.getfield 7, 3) := by decide +kernel
theorem dX6_rotates_111 : decode cX6_rotates 111 = .ok (.iload_n 1, 1) := by decide +kernel
theorem dX6_rotates_112 : decode cX6_rotates 112 = .ok (.iconst 4, 1) := by decide +kernel
theorem dX6_rotates_113 : decode cX6_rotates 113 = .ok (.invokestatic 24, 3) := by decide +kernel
theorem dX6_rotates_116 : decode cX6_rotates 116 = .ok (.aload_n 0, 1) := by decide +kernel
theorem dX6_rotates_117 : decode cX6_rotates 117 = .ok (.getfield 7, 3) := by decide +kernel
theorem dX6_rotates_120 : decode cX6_rotates 120 = .ok (.bipush 28, 2) := by decide +kernel
theorem dX6_rotates_122 : decode cX6_rotates 122 = .ok (.iload_n 1, 1) := by decide +kernel
theorem dX6_rotates_123 : decode cX6_rotates 123 = .ok (.iadd, 1) := by decide +kernel
theorem dX6_rotates_124 : decode cX6_rotates 124 = .ok (.iaload, 1) := by decide +kernel
theorem dX6_rotates_125 : decode cX6_rotates 125 = .ok (.iastore, 1) := by decide +kernel
theorem dX6_rotates_126 : decode cX6_rotates 126 = .ok (.aload_n 0, 1) := by decide +kernel
theorem dX6_rotates_127 : decode cX6_rotates 127 = .ok (.getfield 7, 3) := by decide +kernel
theorem dX6_rotates_130 : decode cX6_rotates 130 = .ok (.bipush 28, 2) := by decide +kernel
theorem dX6_rotates_132 : decode cX6_rotates 132 = .ok (.iload_n 1, 1) := by decide +kernel
theorem dX6_rotates_133 : decode cX6_rotates 133 = .ok (.iadd, 1) := by decide +kernel
theorem dX6_rotates_134 : decode cX6_rotates 134 = .ok (.iconst (-1), 1) := by decide +kernel
theorem dX6_rotates_135 : decode cX6_rotates 135 = .ok (.iastore, 1) := by decide +kernel
theorem dX6_rotates_136 : decode cX6_rotates 136 = .ok (.return_, 1) := by decide +kernel
theorem dX6_scores_0 : decode cX6_scores 0 = .ok (.aload_n 0, 1) := by decide +kernel
theorem dX6_scores_1 : decode cX6_scores 1 = .ok (.getfield 7, 3) := by decide +kernel
theorem dX6_scores_4 : decode cX6_scores 4 = .ok (.bipush 10, 2) := by decide +kernel
theorem dX6_scores_6 : decode cX6_scores 6 = .ok (.iload_n 1, 1) := by decide +kernel
theorem dX6_scores_7 : decode cX6_scores 7 = .ok (.iadd, 1) := by decide +kernel
theorem dX6_scores_8 : decode cX6_scores 8 = .ok (.dup2, 1) := by decide +kernel
theorem dX6_scores_9 : decode cX6_scores 9 = .ok (.iaload, 1) := by decide +kernel
theorem dX6_scores_10 : decode cX6_scores 10 = .ok (.iconst 1, 1) := by decide +kernel
theorem dX6_scores_11 : decode cX6_scores 11 = .ok (.iadd, 1) := by decide +kernel
theorem dX6_scores_12 : decode cX6_scores 12 = .ok (.iastore, 1) := by decide +kernel
theorem dX6_scores_13 : decode cX6_scores 13 = .ok (.aload_n 0, 1) := by decide +kernel
theorem dX6_scores_14 : decode cX6_scores 14 = .ok (.getfield 7, 3) := by decide +kernel
theorem dX6_scores_17 : decode cX6_scores 17 = .ok (.iconst 2, 1) := by decide +kernel
theorem dX6_scores_18 : decode cX6_scores 18 = .ok (.iaload, 1) := by decide +kernel
theorem dX6_scores_19 : decode cX6_scores 19 = .ok (.iload_n 1, 1) := by decide +kernel
theorem dX6_scores_20 : decode cX6_scores 20 = .ok (.if_icmp .eq 23, 3) := by decide +kernel
theorem dX6_scores_23 : decode cX6_scores 23 = .ok (.aload_n 0, 1) := by decide +kernel
theorem dX6_scores_24 : decode cX6_scores 24 = .ok (.getfield 7, 3) := by decide +kernel
theorem dX6_scores_27 : decode cX6_scores 27 = .ok (.iconst 2, 1) := by decide +kernel
theorem dX6_scores_28 : decode cX6_scores 28 = .ok (.iload_n 1, 1) := by decide +kernel
theorem dX6_scores_29 : decode cX6_scores 29 = .ok (.iastore, 1) := by decide +kernel
theorem dX6_scores_30 : decode cX6_scores 30 = .ok (.aload_n 0, 1) := by decide +kernel
theorem dX6_scores_31 : decode cX6_scores 31 = .ok (.getfield 7, 3) := by decide +kernel
theorem dX6_scores_34 : decode cX6_scores 34 = .ok (.bipush 9, 2) := by decide +kernel
theorem dX6_scores_36 : decode cX6_scores 36 = .ok (.iconst (-1), 1) := by decide +kernel
theorem dX6_scores_37 : decode cX6_scores 37 = .ok (.iastore, 1) := by decide +kernel
theorem dX6_scores_38 : decode cX6_scores 38 = .ok (.aload_n 0, 1) := by decide +kernel
theorem dX6_scores_39 : decode cX6_scores 39 = .ok (.iload_n 1, 1) := by decide +kernel
theorem dX6_scores_40 : decode cX6_scores 40 = .ok (.invokevirtual 48, 3) := by decide +kernel
theorem dX6_scores_43 : decode cX6_scores 43 = .ok (.aload_n 0, 1) := by decide +kernel
theorem dX6_scores_44 : decode cX6_scores 44 = .ok (.getfield 7, 3) := by decide +kernel
theorem dX6_scores_47 : decode cX6_scores 47 = .ok (.bipush 12, 2) := by decide +kernel
theorem dX6_scores_49 : decode cX6_scores 49 = .ok (.iaload, 1) := by decide +kernel
theorem dX6_scores_50 : decode cX6_scores 50 = .ok (.aload_n 0, 1) := by decide +kernel
theorem dX6_scores_51 : decode cX6_scores 51 = .ok (.getfield 7, 3) := by decide +kernel
theorem dX6_scores_54 : decode cX6_scores 54 = .ok (.bipush 13, 2) := by decide +kernel
theorem dX6_scores_56 : decode cX6_scores 56 = .ok (.iaload, 1) := by decide +kernel
theorem dX6_scores_57 : decode cX6_scores 57 = .ok (.iadd, 1) := by decide +kernel
theorem dX6_scores_58 : decode cX6_scores 58 = .ok (.iconst 4, 1) := by decide +kernel
theorem dX6_scores_59 : decode cX6_scores 59 = .ok (.if_icmp .ne 8, 3) := by decide +kernel
theorem dX6_scores_62 : decode cX6_scores 62 = .ok (.bipush 15, 2) := by decide +kernel
theorem dX6_scores_64 : decode cX6_scores 64 = .ok (.goto 5, 3) := by decide +kernel
theorem dX6_scores_67 : decode cX6_scores 67 = .ok (.bipush 25, 2) := by decide +kernel
theorem dX6_scores_69 : decode cX6_scores 69 = .ok (.istore_n 2, 1) := by decide +kernel
theorem dX6_scores_70 : decode cX6_scores 70 = .ok (.aload_n 0, 1) := by decide +kernel
theorem dX6_scores_71 : decode cX6_scores 71 = .ok (.getfield 7, 3) := by decide +kernel
theorem dX6_scores_74 : decode cX6_scores 74 = .ok (.bipush 10, 2) := by decide +kernel
theorem dX6_scores_76 : decode cX6_scores 76 = .ok (.iload_n 1, 1) := by decide +kernel
theorem dX6_scores_77 : decode cX6_scores 77 = .ok (.iadd, 1) := by decide +kernel
theorem dX6_scores_78 : decode cX6_scores 78 = .ok (.iaload, 1) := by decide +kernel
theorem dX6_scores_79 : decode cX6_scores 79 = .ok (.iload_n 2, 1) := by decide +kernel
theorem dX6_scores_80 : decode cX6_scores 80 = .ok (.if_icmp .lt 103, 3) := by decide +kernel
theorem dX6_scores_83 : decode cX6_scores 83 = .ok (.aload_n 0, 1) := by decide +kernel
theorem dX6_scores_84 : decode cX6_scores 84 = .ok (.getfield 7, 3) := by decide +kernel
theorem dX6_scores_87 : decode cX6_scores 87 = .ok (.bipush 10, 2) := by decide +kernel
theorem dX6_scores_89 : decode cX6_scores 89 = .ok (.iload_n 1, 1) := by decide +kernel
theorem dX6_scores_90 : decode cX6_scores 90 = .ok (.iadd, 1) := by decide +kernel
theorem dX6_scores_91 : decode cX6_scores 91 = .ok (.iaload, 1) := by decide +kernel
theorem dX6_scores_92 : decode cX6_scores 92 = .ok (.aload_n 0, 1) := by decide +kernel
theorem dX6_scores_93 : decode cX6_scores 93 = .ok (.getfield 7, 3) := by decide +kernel
theorem dX6_scores_96 : decode cX6_scores 96 = .ok (.bipush 11, 2) := by decide +kernel
theorem dX6_scores_98 : decode cX6_scores 98 = .ok (.iload_n 1, 1) := by decide +kernel
theorem dX6_scores_99 : decode cX6_scores 99 = .ok (.isub, 1) := by decide +kernel
theorem dX6_scores_100 : decode cX6_scores 100 = .ok (.iaload, 1) := by decide +kernel
theorem dX6_scores_101 : decode cX6_scores 101 = .ok (.iconst 2, 1) := by decide +kernel
theorem dX6_scores_102 : decode cX6_scores 102 = .ok (.iadd, 1) := by decide +kernel
theorem dX6_scores_103 : decode cX6_scores 103 = .ok (.if_icmp .lt 80, 3) := by decide +kernel
theorem dX6_scores_106 : decode cX6_scores 106 = .ok (.aload_n 0, 1) := by decide +kernel
theorem dX6_scores_107 : decode cX6_scores 107 = .ok (.getfield 7, 3) := by decide +kernel
theorem dX6_scores_110 : decode cX6_scores 110 = .ok (.bipush 12, 2) := by decide +kernel
theorem dX6_scores_112 : decode cX6_scores 112 = .ok (.iload_n 1, 1) := by decide +kernel
theorem dX6_scores_113 : decode cX6_scores 113 = .ok (.iadd, 1) := by decide +kernel
theorem dX6_scores_114 : decode cX6_scores 114 = .ok (.dup2, 1) := by decide +kernel
theorem dX6_scores_115 : decode cX6_scores 115 = .ok (.iaload, 1) := by decide +kernel
theorem dX6_scores_116 : decode cX6_scores 116 = .ok (.iconst 1, 1) := by decide +kernel
theorem dX6_scores_117 : decode cX6_scores 117 = .ok (.iadd, 1) := by decide +kernel
theorem dX6_scores_118 : decode cX6_scores 118 = .ok (.iastore, 1) := by decide +kernel
theorem dX6_scores_119 : decode cX6_scores 119 = .ok (.aload_n 0, 1) := by decide +kernel
theorem dX6_scores_120 : decode cX6_scores 120 = .ok (.getfield 7, 3) := by decide +kernel
theorem dX6_scores_123 : decode cX6_scores 123 = .ok (.iconst 0, 1) := by decide +kernel
theorem dX6_scores_124 : decode cX6_scores 124 = .ok (.iconst 0, 1) := by decide +kernel
theorem dX6_scores_125 : decode cX6_scores 125 = .ok (.iastore, 1) := by decide +kernel
theorem dX6_scores_126 : decode cX6_scores 126 = .ok (.iconst 0, 1) := by decide +kernel
theorem dX6_scores_127 : decode cX6_scores 127 = .ok (.istore_n 3, 1) := by decide +kernel
theorem dX6_scores_128 : decode cX6_scores 128 = .ok (.iload_n 3, 1) := by decide +kernel
theorem dX6_scores_129 : decode cX6_scores 129 = .ok (.bipush 12, 2) := by decide +kernel
theorem dX6_scores_131 : decode cX6_scores 131 = .ok (.if_icmp .ge 19, 3) := by decide +kernel
theorem dX6_scores_134 : decode cX6_scores 134 = .ok (.aload_n 0, 1) := by decide +kernel
theorem dX6_scores_135 : decode cX6_scores 135 = .ok (.getfield 7, 3) := by decide +kernel
theorem dX6_scores_138 : decode cX6_scores 138 = .ok (.bipush 14, 2) := by decide +kernel
theorem dX6_scores_140 : decode cX6_scores 140 = .ok (.iload_n 3, 1) := by decide +kernel
theorem dX6_scores_141 : decode cX6_scores 141 = .ok (.iadd, 1) := by decide +kernel
theorem dX6_scores_142 : decode cX6_scores 142 = .ok (.iconst (-1), 1) := by decide +kernel
theorem dX6_scores_143 : decode cX6_scores 143 = .ok (.iastore, 1) := by decide +kernel
theorem dX6_scores_144 : decode cX6_scores 144 = .ok (.iinc 3 1, 3) := by decide +kernel
theorem dX6_scores_147 : decode cX6_scores 147 = .ok (.goto (-19), 3) := by decide +kernel
theorem dX6_scores_150 : decode cX6_scores 150 = .ok (.iconst 0, 1) := by decide +kernel
theorem dX6_scores_151 : decode cX6_scores 151 = .ok (.istore_n 3, 1) := by decide +kernel
theorem dX6_scores_152 : decode cX6_scores 152 = .ok (.iload_n 3, 1) := by decide +kernel
theorem dX6_scores_153 : decode cX6_scores 153 = .ok (.iconst 2, 1) := by decide +kernel
theorem dX6_scores_154 : decode cX6_scores 154 = .ok (.if_icmp .ge 29, 3) := by decide +kernel
theorem dX6_scores_157 : decode cX6_scores 157 = .ok (.aload_n 0, 1) := by decide +kernel
theorem dX6_scores_158 : decode cX6_scores 158 = .ok (.getfield 7, 3) := by decide +kernel
theorem dX6_scores_161 : decode cX6_scores 161 = .ok (.bipush 26, 2) := by decide +kernel
theorem dX6_scores_163 : decode cX6_scores 163 = .ok (.iload_n 3, 1) := by decide +kernel
theorem dX6_scores_164 : decode cX6_scores 164 = .ok (.iadd, 1) := by decide +kernel
theorem dX6_scores_165 : decode cX6_scores 165 = .ok (.iconst (-1), 1) := by decide +kernel
theorem dX6_scores_166 : decode cX6_scores 166 = .ok (.iastore, 1) := by decide +kernel
theorem dX6_scores_167 : decode cX6_scores 167 = .ok (.aload_n 0, 1) := by decide +kernel
theorem dX6_scores_168 : decode cX6_scores 168 = .ok (.getfield 7, 3) := by decide +kernel
theorem dX6_scores_171 : decode cX6_scores 171 = .ok (.bipush 28, 2) := by decide +kernel
theorem dX6_scores_173 : decode cX6_scores 173 = .ok (.iload_n 3, 1) := by decide +kernel
theorem dX6_scores_174 : decode cX6_scores 174 = .ok (.iadd, 1) := by decide +kernel
theorem dX6_scores_175 : decode cX6_scores 175 = .ok (.iconst (-1), 1) := by decide +kernel
theorem dX6_scores_176 : decode cX6_scores 176 = .ok (.iastore, 1) := by decide +kernel
theorem dX6_scores_177 : decode cX6_scores 177 = .ok (.iinc 3 1, 3) := by decide +kernel
theorem dX6_scores_180 : decode cX6_scores 180 = .ok (.goto (-28), 3) := by decide +kernel
theorem dX6_scores_183 : decode cX6_scores 183 = .ok (.return_, 1) := by decide +kernel
theorem dX6_wins_0 : decode cX6_wins 0 = .ok (.iconst 1, 1) := by decide +kernel
theorem dX6_wins_1 : decode cX6_wins 1 = .ok (.iload_n 1, 1) := by decide +kernel
theorem dX6_wins_2 : decode cX6_wins 2 = .ok (.isub, 1) := by decide +kernel
theorem dX6_wins_3 : decode cX6_wins 3 = .ok (.istore_n 3, 1) := by decide +kernel
theorem dX6_wins_4 : decode cX6_wins 4 = .ok (.aload_n 0, 1) := by decide +kernel
theorem dX6_wins_5 : decode cX6_wins 5 = .ok (.getfield 7, 3) := by decide +kernel
theorem dX6_wins_8 : decode cX6_wins 8 = .ok (.bipush 80, 2) := by decide +kernel
theorem dX6_wins_10 : decode cX6_wins 10 = .ok (.bipush 6, 2) := by decide +kernel
theorem dX6_wins_12 : decode cX6_wins 12 = .ok (.iload_n 3, 1) := by decide +kernel
theorem dX6_wins_13 : decode cX6_wins 13 = .ok (.imul, 1) := by decide +kernel
theorem dX6_wins_14 : decode cX6_wins 14 = .ok (.iadd, 1) := by decide +kernel
theorem dX6_wins_15 : decode cX6_wins 15 = .ok (.aload_n 0, 1) := by decide +kernel
theorem dX6_wins_16 : decode cX6_wins 16 = .ok (.getfield 7, 3) := by decide +kernel
theorem dX6_wins_19 : decode cX6_wins 19 = .ok (.bipush 36, 2) := by decide +kernel
theorem dX6_wins_21 : decode cX6_wins 21 = .ok (.iload_n 3, 1) := by decide +kernel
theorem dX6_wins_22 : decode cX6_wins 22 = .ok (.iadd, 1) := by decide +kernel
theorem dX6_wins_23 : decode cX6_wins 23 = .ok (.iaload, 1) := by decide +kernel
theorem dX6_wins_24 : decode cX6_wins 24 = .ok (.bipush 6, 2) := by decide +kernel
theorem dX6_wins_26 : decode cX6_wins 26 = .ok (.irem, 1) := by decide +kernel
theorem dX6_wins_27 : decode cX6_wins 27 = .ok (.iadd, 1) := by decide +kernel
theorem dX6_wins_28 : decode cX6_wins 28 = .ok (.dup2, 1) := by decide +kernel
theorem dX6_wins_29 : decode cX6_wins 29 = .ok (.iaload, 1) := by decide +kernel
theorem dX6_wins_30 : decode cX6_wins 30 = .ok (.iconst 1, 1) := by decide +kernel
theorem dX6_wins_31 : decode cX6_wins 31 = .ok (.iadd, 1) := by decide +kernel
theorem dX6_wins_32 : decode cX6_wins 32 = .ok (.iastore, 1) := by decide +kernel
theorem dX6_wins_33 : decode cX6_wins 33 = .ok (.aload_n 0, 1) := by decide +kernel
theorem dX6_wins_34 : decode cX6_wins 34 = .ok (.getfield 7, 3) := by decide +kernel
theorem dX6_wins_37 : decode cX6_wins 37 = .ok (.iconst 1, 1) := by decide +kernel
theorem dX6_wins_38 : decode cX6_wins 38 = .ok (.iconst 0, 1) := by decide +kernel
theorem dX6_wins_39 : decode cX6_wins 39 = .ok (.iastore, 1) := by decide +kernel
theorem dX6_wins_40 : decode cX6_wins 40 = .ok (.aload_n 0, 1) := by decide +kernel
theorem dX6_wins_41 : decode cX6_wins 41 = .ok (.getfield 7, 3) := by decide +kernel
theorem dX6_wins_44 : decode cX6_wins 44 = .ok (.iconst 3, 1) := by decide +kernel
theorem dX6_wins_45 : decode cX6_wins 45 = .ok (.iload_n 2, 1) := by decide +kernel
theorem dX6_wins_46 : decode cX6_wins 46 = .ok (.iastore, 1) := by decide +kernel
theorem dX6_wins_47 : decode cX6_wins 47 = .ok (.aload_n 0, 1) := by decide +kernel
theorem dX6_wins_48 : decode cX6_wins 48 = .ok (.getfield 7, 3) := by decide +kernel
theorem dX6_wins_51 : decode cX6_wins 51 = .ok (.bipush 40, 2) := by decide +kernel
theorem dX6_wins_53 : decode cX6_wins 53 = .ok (.iload_n 3, 1) := by decide +kernel
theorem dX6_wins_54 : decode cX6_wins 54 = .ok (.iastore, 1) := by decide +kernel
theorem dX6_wins_55 : decode cX6_wins 55 = .ok (.aload_n 0, 1) := by decide +kernel
theorem dX6_wins_56 : decode cX6_wins 56 = .ok (.getfield 7, 3) := by decide +kernel
theorem dX6_wins_59 : decode cX6_wins 59 = .ok (.bipush 30, 2) := by decide +kernel
theorem dX6_wins_61 : decode cX6_wins 61 = .ok (.iconst 0, 1) := by decide +kernel
theorem dX6_wins_62 : decode cX6_wins 62 = .ok (.iastore, 1) := by decide +kernel
theorem dX6_wins_63 : decode cX6_wins 63 = .ok (.aload_n 0, 1) := by decide +kernel
theorem dX6_wins_64 : decode cX6_wins 64 = .ok (.getfield 7, 3) := by decide +kernel
theorem dX6_wins_67 : decode cX6_wins 67 = .ok (.bipush 31, 2) := by decide +kernel
theorem dX6_wins_69 : decode cX6_wins 69 = .ok (.iconst 0, 1) := by decide +kernel
theorem dX6_wins_70 : decode cX6_wins 70 = .ok (.iastore, 1) := by decide +kernel
theorem dX6_wins_71 : decode cX6_wins 71 = .ok (.aload_n 0, 1) := by decide +kernel
theorem dX6_wins_72 : decode cX6_wins 72 = .ok (.iload_n 1, 1) := by decide +kernel
theorem dX6_wins_73 : decode cX6_wins 73 = .ok (.invokevirtual 52, 3) := by decide +kernel
theorem dX6_wins_76 : decode cX6_wins 76 = .ok (.return_, 1) := by decide +kernel
theorem dX6_ends_0 : decode cX6_ends 0 = .ok (.iconst 0, 1) := by decide +kernel
theorem dX6_ends_1 : decode cX6_ends 1 = .ok (.istore_n 3, 1) := by decide +kernel
theorem dX6_ends_2 : decode cX6_ends 2 = .ok (.iload_n 3, 1) := by decide +kernel
theorem dX6_ends_3 : decode cX6_ends 3 = .ok (.bipush 92, 2) := by decide +kernel
theorem dX6_ends_5 : decode cX6_ends 5 = .ok (.if_icmp .ge 21, 3) := by decide +kernel
theorem dX6_ends_8 : decode cX6_ends 8 = .ok (.aload_n 0, 1) := by decide +kernel
theorem dX6_ends_9 : decode cX6_ends 9 = .ok (.getfield 13, 3) := by decide +kernel
theorem dX6_ends_12 : decode cX6_ends 12 = .ok (.iload_n 3, 1) := by decide +kernel
theorem dX6_ends_13 : decode cX6_ends 13 = .ok (.aload_n 0, 1) := by decide +kernel
theorem dX6_ends_14 : decode cX6_ends 14 = .ok (.getfield 7, 3) := by decide +kernel
theorem dX6_ends_17 : decode cX6_ends 17 = .ok (.iload_n 3, 1) := by decide +kernel
theorem dX6_ends_18 : decode cX6_ends 18 = .ok (.iaload, 1) := by decide +kernel
theorem dX6_ends_19 : decode cX6_ends 19 = .ok (.iastore, 1) := by decide +kernel
theorem dX6_ends_20 : decode cX6_ends 20 = .ok (.iinc 3 1, 3) := by decide +kernel
theorem dX6_ends_23 : decode cX6_ends 23 = .ok (.goto (-21), 3) := by decide +kernel
theorem dX6_ends_26 : decode cX6_ends 26 = .ok (.aload_n 0, 1) := by decide +kernel
theorem dX6_ends_27 : decode cX6_ends 27 = .ok (.iload_n 1, 1) := by decide +kernel
theorem dX6_ends_28 : decode cX6_ends 28 = .ok (.iload_n 2, 1) := by decide +kernel
theorem dX6_ends_29 : decode cX6_ends 29 = .ok (.invokevirtual 55, 3) := by decide +kernel
theorem dX6_ends_32 : decode cX6_ends 32 = .ok (.aload_n 0, 1) := by decide +kernel
theorem dX6_ends_33 : decode cX6_ends 33 = .ok (.getfield 7, 3) := by decide +kernel
theorem dX6_ends_36 : decode cX6_ends 36 = .ok (.bipush 41, 2) := by decide +kernel
theorem dX6_ends_38 : decode cX6_ends 38 = .ok (.iconst 1, 1) := by decide +kernel
theorem dX6_ends_39 : decode cX6_ends 39 = .ok (.iastore, 1) := by decide +kernel
theorem dX6_ends_40 : decode cX6_ends 40 = .ok (.return_, 1) := by decide +kernel
theorem dX6_serve_0 : decode cX6_serve 0 = .ok (.iload_n 1, 1) := by decide +kernel
theorem dX6_serve_1 : decode cX6_serve 1 = .ok (.invokestatic 32, 3) := by decide +kernel
theorem dX6_serve_4 : decode cX6_serve 4 = .ok (.istore_n 2, 1) := by decide +kernel
theorem dX6_serve_5 : decode cX6_serve 5 = .ok (.iload_n 2, 1) := by decide +kernel
theorem dX6_serve_6 : decode cX6_serve 6 = .ok (.ifCond .eq 40, 3) := by decide +kernel
theorem dX6_serve_9 : decode cX6_serve 9 = .ok (.aload_n 0, 1) := by decide +kernel
theorem dX6_serve_10 : decode cX6_serve 10 = .ok (.getfield 7, 3) := by decide +kernel
theorem dX6_serve_13 : decode cX6_serve 13 = .ok (.iconst 0, 1) := by decide +kernel
theorem dX6_serve_14 : decode cX6_serve 14 = .ok (.iaload, 1) := by decide +kernel
theorem dX6_serve_15 : decode cX6_serve 15 = .ok (.iconst 1, 1) := by decide +kernel
theorem dX6_serve_16 : decode cX6_serve 16 = .ok (.if_icmp .ne 30, 3) := by decide +kernel
theorem dX6_serve_19 : decode cX6_serve 19 = .ok (.aload_n 0, 1) := by decide +kernel
theorem dX6_serve_20 : decode cX6_serve 20 = .ok (.getfield 7, 3) := by decide +kernel
theorem dX6_serve_23 : decode cX6_serve 23 = .ok (.iconst 1, 1) := by decide +kernel
theorem dX6_serve_24 : decode cX6_serve 24 = .ok (.iaload, 1) := by decide +kernel
theorem dX6_serve_25 : decode cX6_serve 25 = .ok (.ifCond .ne 21, 3) := by decide +kernel
theorem dX6_serve_28 : decode cX6_serve 28 = .ok (.aload_n 0, 1) := by decide +kernel
theorem dX6_serve_29 : decode cX6_serve 29 = .ok (.aload_n 0, 1) := by decide +kernel
theorem dX6_serve_30 : decode cX6_serve 30 = .ok (.getfield 7, 3) := by decide +kernel
theorem dX6_serve_33 : decode cX6_serve 33 = .ok (.iconst 2, 1) := by decide +kernel
theorem dX6_serve_34 : decode cX6_serve 34 = .ok (.iaload, 1) := by decide +kernel
theorem dX6_serve_35 : decode cX6_serve 35 = .ok (.iload_n 1, 1) := by decide +kernel
theorem dX6_serve_36 : decode cX6_serve 36 = .ok (.invokevirtual 42, 3) := by decide +kernel
theorem dX6_serve_39 : decode cX6_serve 39 = .ok (.ifCond .le 7, 3) := by decide +kernel
theorem dX6_serve_42 : decode cX6_serve 42 = .ok (.iconst 1, 1) := by decide +kernel
theorem dX6_serve_43 : decode cX6_serve 43 = .ok (.goto 4, 3) := by decide +kernel
theorem dX6_serve_46 : decode cX6_serve 46 = .ok (.iconst 0, 1) := by decide +kernel
theorem dX6_serve_47 : decode cX6_serve 47 = .ok (.istore_n 3, 1) := by decide +kernel
theorem dX6_serve_48 : decode cX6_serve 48 = .ok (.aload_n 0, 1) := by decide +kernel
theorem dX6_serve_49 : decode cX6_serve 49 = .ok (.iload_n 2, 1) := by decide +kernel
theorem dX6_serve_50 : decode cX6_serve 50 = .ok (.ifCond .ne 7, 3) := by decide +kernel
theorem dX6_serve_53 : decode cX6_serve 53 = .ok (.iconst 1, 1) := by decide +kernel
theorem dX6_serve_54 : decode cX6_serve 54 = .ok (.goto 12, 3) := by decide +kernel
theorem dX6_serve_57 : decode cX6_serve 57 = .ok (.iload_n 3, 1) := by decide +kernel
theorem dX6_serve_58 : decode cX6_serve 58 = .ok (.ifCond .eq 7, 3) := by decide +kernel
theorem dX6_serve_61 : decode cX6_serve 61 = .ok (.iconst 0, 1) := by decide +kernel
theorem dX6_serve_62 : decode cX6_serve 62 = .ok (.goto 4, 3) := by decide +kernel
theorem dX6_serve_65 : decode cX6_serve 65 = .ok (.iconst 2, 1) := by decide +kernel
theorem dX6_serve_66 : decode cX6_serve 66 = .ok (.invokevirtual 39, 3) := by decide +kernel
theorem dX6_serve_69 : decode cX6_serve 69 = .ok (.ifCond .ne 5, 3) := by decide +kernel
theorem dX6_serve_72 : decode cX6_serve 72 = .ok (.iconst 0, 1) := by decide +kernel
theorem dX6_serve_73 : decode cX6_serve 73 = .ok (.ireturn, 1) := by decide +kernel
theorem dX6_serve_74 : decode cX6_serve 74 = .ok (.aload_n 0, 1) := by decide +kernel
theorem dX6_serve_75 : decode cX6_serve 75 = .ok (.aload_n 0, 1) := by decide +kernel
theorem dX6_serve_76 : decode cX6_serve 76 = .ok (.getfield 7, 3) := by decide +kernel
theorem dX6_serve_79 : decode cX6_serve 79 = .ok (.iconst 2, 1) := by decide +kernel
theorem dX6_serve_80 : decode cX6_serve 80 = .ok (.iaload, 1) := by decide +kernel
theorem dX6_serve_81 : decode cX6_serve 81 = .ok (.iload_n 1, 1) := by decide +kernel
theorem dX6_serve_82 : decode cX6_serve 82 = .ok (.invokevirtual 42, 3) := by decide +kernel
theorem dX6_serve_85 : decode cX6_serve 85 = .ok (.iconst 1, 1) := by decide +kernel
theorem dX6_serve_86 : decode cX6_serve 86 = .ok (.if_icmp .ne 7, 3) := by decide +kernel
theorem dX6_serve_89 : decode cX6_serve 89 = .ok (.iconst 1, 1) := by decide +kernel
theorem dX6_serve_90 : decode cX6_serve 90 = .ok (.goto 4, 3) := by decide +kernel
theorem dX6_serve_93 : decode cX6_serve 93 = .ok (.iconst 0, 1) := by decide +kernel
theorem dX6_serve_94 : decode cX6_serve 94 = .ok (.istore 4, 2) := by decide +kernel
theorem dX6_serve_96 : decode cX6_serve 96 = .ok (.aload_n 0, 1) := by decide +kernel
theorem dX6_serve_97 : decode cX6_serve 97 = .ok (.getfield 7, 3) := by decide +kernel
theorem dX6_serve_100 : decode cX6_serve 100 = .ok (.bipush 9, 2) := by decide +kernel
theorem dX6_serve_102 : decode cX6_serve 102 = .ok (.iload 4, 2) := by decide +kernel
theorem dX6_serve_104 : decode cX6_serve 104 = .ok (.ifCond .ne 31, 3) := by decide +kernel
theorem dX6_serve_107 : decode cX6_serve 107 = .ok (.aload_n 0, 1) := by decide +kernel
theorem dX6_serve_108 : decode cX6_serve 108 = .ok (.getfield 7, 3) := by decide +kernel
theorem dX6_serve_111 : decode cX6_serve 111 = .ok (.bipush 9, 2) := by decide +kernel
theorem dX6_serve_113 : decode cX6_serve 113 = .ok (.iaload, 1) := by decide +kernel
theorem dX6_serve_114 : decode cX6_serve 114 = .ok (.iconst (-1), 1) := by decide +kernel
theorem dX6_serve_115 : decode cX6_serve 115 = .ok (.if_icmp .ne 20, 3) := by decide +kernel
theorem dX6_serve_118 : decode cX6_serve 118 = .ok (.aload_n 0, 1) := by decide +kernel
theorem dX6_serve_119 : decode cX6_serve 119 = .ok (.getfield 7, 3) := by decide +kernel
theorem dX6_serve_122 : decode cX6_serve 122 = .ok (.bipush 10, 2) := by decide +kernel
theorem dX6_serve_124 : decode cX6_serve 124 = .ok (.aload_n 0, 1) := by decide +kernel
theorem dX6_serve_125 : decode cX6_serve 125 = .ok (.getfield 7, 3) := by decide +kernel
theorem dX6_serve_128 : decode cX6_serve 128 = .ok (.iconst 2, 1) := by decide +kernel
theorem dX6_serve_129 : decode cX6_serve 129 = .ok (.iaload, 1) := by decide +kernel
theorem dX6_serve_130 : decode cX6_serve 130 = .ok (.iadd, 1) := by decide +kernel
theorem dX6_serve_131 : decode cX6_serve 131 = .ok (.iaload, 1) := by decide +kernel
theorem dX6_serve_132 : decode cX6_serve 132 = .ok (.goto 10, 3) := by decide +kernel
theorem dX6_serve_135 : decode cX6_serve 135 = .ok (.aload_n 0, 1) := by decide +kernel
theorem dX6_serve_136 : decode cX6_serve 136 = .ok (.getfield 7, 3) := by decide +kernel
theorem dX6_serve_139 : decode cX6_serve 139 = .ok (.bipush 9, 2) := by decide +kernel
theorem dX6_serve_141 : decode cX6_serve 141 = .ok (.iaload, 1) := by decide +kernel
theorem dX6_serve_142 : decode cX6_serve 142 = .ok (.iastore, 1) := by decide +kernel
theorem dX6_serve_143 : decode cX6_serve 143 = .ok (.aload_n 0, 1) := by decide +kernel
theorem dX6_serve_144 : decode cX6_serve 144 = .ok (.getfield 7, 3) := by decide +kernel
theorem dX6_serve_147 : decode cX6_serve 147 = .ok (.bipush 41, 2) := by decide +kernel
theorem dX6_serve_149 : decode cX6_serve 149 = .ok (.iconst 0, 1) := by decide +kernel
theorem dX6_serve_150 : decode cX6_serve 150 = .ok (.iastore, 1) := by decide +kernel
theorem dX6_serve_151 : decode cX6_serve 151 = .ok (.aload_n 0, 1) := by decide +kernel
theorem dX6_serve_152 : decode cX6_serve 152 = .ok (.getfield 7, 3) := by decide +kernel
theorem dX6_serve_155 : decode cX6_serve 155 = .ok (.iconst 1, 1) := by decide +kernel
theorem dX6_serve_156 : decode cX6_serve 156 = .ok (.iconst 1, 1) := by decide +kernel
theorem dX6_serve_157 : decode cX6_serve 157 = .ok (.iastore, 1) := by decide +kernel
theorem dX6_serve_158 : decode cX6_serve 158 = .ok (.aload_n 0, 1) := by decide +kernel
theorem dX6_serve_159 : decode cX6_serve 159 = .ok (.getfield 7, 3) := by decide +kernel
theorem dX6_serve_162 : decode cX6_serve 162 = .ok (.iconst 4, 1) := by decide +kernel
theorem dX6_serve_163 : decode cX6_serve 163 = .ok (.aload_n 0, 1) := by decide +kernel
theorem dX6_serve_164 : decode cX6_serve 164 = .ok (.getfield 7, 3) := by decide +kernel
theorem dX6_serve_167 : decode cX6_serve 167 = .ok (.iconst 2, 1) := by decide +kernel
theorem dX6_serve_168 : decode cX6_serve 168 = .ok (.iaload, 1) := by decide +kernel
theorem dX6_serve_169 : decode cX6_serve 169 = .ok (.iastore, 1) := by decide +kernel
theorem dX6_serve_170 : decode cX6_serve 170 = .ok (.aload_n 0, 1) := by decide +kernel
theorem dX6_serve_171 : decode cX6_serve 171 = .ok (.getfield 7, 3) := by decide +kernel
theorem dX6_serve_174 : decode cX6_serve 174 = .ok (.iconst 5, 1) := by decide +kernel
theorem dX6_serve_175 : decode cX6_serve 175 = .ok (.iload_n 1, 1) := by decide +kernel
theorem dX6_serve_176 : decode cX6_serve 176 = .ok (.iastore, 1) := by decide +kernel
theorem dX6_serve_177 : decode cX6_serve 177 = .ok (.aload_n 0, 1) := by decide +kernel
theorem dX6_serve_178 : decode cX6_serve 178 = .ok (.getfield 7, 3) := by decide +kernel
theorem dX6_serve_181 : decode cX6_serve 181 = .ok (.bipush 6, 2) := by decide +kernel
theorem dX6_serve_183 : decode cX6_serve 183 = .ok (.iconst 0, 1) := by decide +kernel
theorem dX6_serve_184 : decode cX6_serve 184 = .ok (.iastore, 1) := by decide +kernel
theorem dX6_serve_185 : decode cX6_serve 185 = .ok (.aload_n 0, 1) := by decide +kernel
theorem dX6_serve_186 : decode cX6_serve 186 = .ok (.getfield 7, 3) := by decide +kernel
theorem dX6_serve_189 : decode cX6_serve 189 = .ok (.bipush 7, 2) := by decide +kernel
theorem dX6_serve_191 : decode cX6_serve 191 = .ok (.iconst 0, 1) := by decide +kernel
theorem dX6_serve_192 : decode cX6_serve 192 = .ok (.iastore, 1) := by decide +kernel
theorem dX6_serve_193 : decode cX6_serve 193 = .ok (.aload_n 0, 1) := by decide +kernel
theorem dX6_serve_194 : decode cX6_serve 194 = .ok (.getfield 7, 3) := by decide +kernel
theorem dX6_serve_197 : decode cX6_serve 197 = .ok (.bipush 8, 2) := by decide +kernel
theorem dX6_serve_199 : decode cX6_serve 199 = .ok (.iconst 1, 1) := by decide +kernel
theorem dX6_serve_200 : decode cX6_serve 200 = .ok (.iastore, 1) := by decide +kernel
theorem dX6_serve_201 : decode cX6_serve 201 = .ok (.aload_n 0, 1) := by decide +kernel
theorem dX6_serve_202 : decode cX6_serve 202 = .ok (.getfield 7, 3) := by decide +kernel
theorem dX6_serve_205 : decode cX6_serve 205 = .ok (.bipush 38, 2) := by decide +kernel
theorem dX6_serve_207 : decode cX6_serve 207 = .ok (.iconst 0, 1) := by decide +kernel
theorem dX6_serve_208 : decode cX6_serve 208 = .ok (.iastore, 1) := by decide +kernel
theorem dX6_serve_209 : decode cX6_serve 209 = .ok (.aload_n 0, 1) := by decide +kernel
theorem dX6_serve_210 : decode cX6_serve 210 = .ok (.getfield 7, 3) := by decide +kernel
theorem dX6_serve_213 : decode cX6_serve 213 = .ok (.bipush 39, 2) := by decide +kernel
theorem dX6_serve_215 : decode cX6_serve 215 = .ok (.iconst 0, 1) := by decide +kernel
theorem dX6_serve_216 : decode cX6_serve 216 = .ok (.iastore, 1) := by decide +kernel
theorem dX6_serve_217 : decode cX6_serve 217 = .ok (.iload 4, 2) := by decide +kernel
theorem dX6_serve_219 : decode cX6_serve 219 = .ok (.ireturn, 1) := by decide +kernel
theorem dX6_fault_0 : decode cX6_fault 0 = .ok (.aload_n 0, 1) := by decide +kernel
theorem dX6_fault_1 : decode cX6_fault 1 = .ok (.iload_n 1, 1) := by decide +kernel
theorem dX6_fault_2 : decode cX6_fault 2 = .ok (.iload_n 2, 1) := by decide +kernel
theorem dX6_fault_3 : decode cX6_fault 3 = .ok (.invokevirtual 42, 3) := by decide +kernel
theorem dX6_fault_6 : decode cX6_fault 6 = .ok (.invokestatic 59, 3) := by decide +kernel
theorem dX6_fault_9 : decode cX6_fault 9 = .ok (.istore 5, 2) := by decide +kernel
theorem dX6_fault_11 : decode cX6_fault 11 = .ok (.aload_n 0, 1) := by decide +kernel
theorem dX6_fault_12 : decode cX6_fault 12 = .ok (.getfield 7, 3) := by decide +kernel
theorem dX6_fault_15 : decode cX6_fault 15 = .ok (.iconst 4, 1) := by decide +kernel
theorem dX6_fault_16 : decode cX6_fault 16 = .ok (.iaload, 1) := by decide +kernel
theorem dX6_fault_17 : decode cX6_fault 17 = .ok (.iload_n 1, 1) := by decide +kernel
theorem dX6_fault_18 : decode cX6_fault 18 = .ok (.if_icmp .ne 17, 3) := by decide +kernel
theorem dX6_fault_21 : decode cX6_fault 21 = .ok (.aload_n 0, 1) := by decide +kernel
theorem dX6_fault_22 : decode cX6_fault 22 = .ok (.getfield 7, 3) := by decide +kernel
theorem dX6_fault_25 : decode cX6_fault 25 = .ok (.iconst 5, 1) := by decide +kernel
theorem dX6_fault_26 : decode cX6_fault 26 = .ok (.iaload, 1) := by decide +kernel
theorem dX6_fault_27 : decode cX6_fault 27 = .ok (.iload_n 2, 1) := by decide +kernel
theorem dX6_fault_28 : decode cX6_fault 28 = .ok (.if_icmp .ne 7, 3) := by decide +kernel
theorem dX6_fault_31 : decode cX6_fault 31 = .ok (.iconst 1, 1) := by decide +kernel
theorem dX6_fault_32 : decode cX6_fault 32 = .ok (.goto 4, 3) := by decide +kernel
theorem dX6_fault_35 : decode cX6_fault 35 = .ok (.iconst 0, 1) := by decide +kernel
theorem dX6_fault_36 : decode cX6_fault 36 = .ok (.istore 6, 2) := by decide +kernel
theorem dX6_fault_38 : decode cX6_fault 38 = .ok (.aload_n 0, 1) := by decide +kernel
theorem dX6_fault_39 : decode cX6_fault 39 = .ok (.getfield 7, 3) := by decide +kernel
theorem dX6_fault_42 : decode cX6_fault 42 = .ok (.iconst 4, 1) := by decide +kernel
theorem dX6_fault_43 : decode cX6_fault 43 = .ok (.iaload, 1) := by decide +kernel
theorem dX6_fault_44 : decode cX6_fault 44 = .ok (.iload_n 1, 1) := by decide +kernel
theorem dX6_fault_45 : decode cX6_fault 45 = .ok (.if_icmp .ne 13, 3) := by decide +kernel
theorem dX6_fault_48 : decode cX6_fault 48 = .ok (.aload_n 0, 1) := by decide +kernel
theorem dX6_fault_49 : decode cX6_fault 49 = .ok (.getfield 7, 3) := by decide +kernel
theorem dX6_fault_52 : decode cX6_fault 52 = .ok (.bipush 7, 2) := by decide +kernel
theorem dX6_fault_54 : decode cX6_fault 54 = .ok (.iaload, 1) := by decide +kernel
theorem dX6_fault_55 : decode cX6_fault 55 = .ok (.goto 4, 3) := by decide +kernel
theorem dX6_fault_58 : decode cX6_fault 58 = .ok (.iconst 0, 1) := by decide +kernel
theorem dX6_fault_59 : decode cX6_fault 59 = .ok (.istore 7, 2) := by decide +kernel
theorem dX6_fault_61 : decode cX6_fault 61 = .ok (.aload_n 0, 1) := by decide +kernel
theorem dX6_fault_62 : decode cX6_fault 62 = .ok (.getfield 7, 3) := by decide +kernel
theorem dX6_fault_65 : decode cX6_fault 65 = .ok (.bipush 8, 2) := by decide +kernel
theorem dX6_fault_67 : decode cX6_fault 67 = .ok (.iaload, 1) := by decide +kernel
theorem dX6_fault_68 : decode cX6_fault 68 = .ok (.iconst 1, 1) := by decide +kernel
theorem dX6_fault_69 : decode cX6_fault 69 = .ok (.if_icmp .ne 17, 3) := by decide +kernel
theorem dX6_fault_72 : decode cX6_fault 72 = .ok (.iload_n 1, 1) := by decide +kernel
theorem dX6_fault_73 : decode cX6_fault 73 = .ok (.aload_n 0, 1) := by decide +kernel
theorem dX6_fault_74 : decode cX6_fault 74 = .ok (.getfield 7, 3) := by decide +kernel
theorem dX6_fault_77 : decode cX6_fault 77 = .ok (.iconst 2, 1) := by decide +kernel
theorem dX6_fault_78 : decode cX6_fault 78 = .ok (.iaload, 1) := by decide +kernel
theorem dX6_fault_79 : decode cX6_fault 79 = .ok (.if_icmp .ne 7, 3) := by decide +kernel
theorem dX6_fault_82 : decode cX6_fault 82 = .ok (.iconst 1, 1) := by decide +kernel
theorem dX6_fault_83 : decode cX6_fault 83 = .ok (.goto 85, 3) := by decide +kernel
theorem dX6_fault_86 : decode cX6_fault 86 = .ok (.iload 6, 2) := by decide +kernel
theorem dX6_fault_88 : decode cX6_fault 88 = .ok (.ifCond .eq 18, 3) := by decide +kernel
theorem dX6_fault_91 : decode cX6_fault 91 = .ok (.aload_n 0, 1) := by decide +kernel
theorem dX6_fault_92 : decode cX6_fault 92 = .ok (.getfield 7, 3) := by decide +kernel
theorem dX6_fault_95 : decode cX6_fault 95 = .ok (.bipush 6, 2) := by decide +kernel
theorem dX6_fault_97 : decode cX6_fault 97 = .ok (.iaload, 1) := by decide +kernel
theorem dX6_fault_98 : decode cX6_fault 98 = .ok (.iconst 2, 1) := by decide +kernel
theorem dX6_fault_99 : decode cX6_fault 99 = .ok (.if_icmp .eq 7, 3) := by decide +kernel
theorem dX6_fault_102 : decode cX6_fault 102 = .ok (.iconst 2, 1) := by decide +kernel
theorem dX6_fault_103 : decode cX6_fault 103 = .ok (.goto 65, 3) := by decide +kernel
theorem dX6_fault_106 : decode cX6_fault 106 = .ok (.iload_n 3, 1) := by decide +kernel
theorem dX6_fault_107 : decode cX6_fault 107 = .ok (.iconst 2, 1) := by decide +kernel
theorem dX6_fault_108 : decode cX6_fault 108 = .ok (.if_icmp .eq 13, 3) := by decide +kernel
theorem dX6_fault_111 : decode cX6_fault 111 = .ok (.iload 7, 2) := by decide +kernel
theorem dX6_fault_113 : decode cX6_fault 113 = .ok (.iconst 3, 1) := by decide +kernel
theorem dX6_fault_114 : decode cX6_fault 114 = .ok (.if_icmp .ne 7, 3) := by decide +kernel
theorem dX6_fault_117 : decode cX6_fault 117 = .ok (.iconst 3, 1) := by decide +kernel
theorem dX6_fault_118 : decode cX6_fault 118 = .ok (.goto 50, 3) := by decide +kernel
theorem dX6_fault_121 : decode cX6_fault 121 = .ok (.iload 5, 2) := by decide +kernel
theorem dX6_fault_123 : decode cX6_fault 123 = .ok (.ifCond .eq 22, 3) := by decide +kernel
theorem dX6_fault_126 : decode cX6_fault 126 = .ok (.iload_n 3, 1) := by decide +kernel
theorem dX6_fault_127 : decode cX6_fault 127 = .ok (.iconst 2, 1) := by decide +kernel
theorem dX6_fault_128 : decode cX6_fault 128 = .ok (.if_icmp .eq 13, 3) := by decide +kernel
theorem dX6_fault_131 : decode cX6_fault 131 = .ok (.iload_n 3, 1) := by decide +kernel
theorem dX6_fault_132 : decode cX6_fault 132 = .ok (.iconst 1, 1) := by decide +kernel
theorem dX6_fault_133 : decode cX6_fault 133 = .ok (.if_icmp .ne 12, 3) := by decide +kernel
theorem dX6_fault_136 : decode cX6_fault 136 = .ok (.iload 4, 2) := by decide +kernel
theorem dX6_fault_138 : decode cX6_fault 138 = .ok (.ifCond .eq 7, 3) := by decide +kernel
theorem dX6_fault_141 : decode cX6_fault 141 = .ok (.iconst 4, 1) := by decide +kernel
theorem dX6_fault_142 : decode cX6_fault 142 = .ok (.goto 26, 3) := by decide +kernel
theorem dX6_fault_145 : decode cX6_fault 145 = .ok (.iload_n 3, 1) := by decide +kernel
theorem dX6_fault_146 : decode cX6_fault 146 = .ok (.iconst 1, 1) := by decide +kernel
theorem dX6_fault_147 : decode cX6_fault 147 = .ok (.if_icmp .ne 20, 3) := by decide +kernel
theorem dX6_fault_150 : decode cX6_fault 150 = .ok (.iload_n 2, 1) := by decide +kernel
theorem dX6_fault_151 : decode cX6_fault 151 = .ok (.aload_n 0, 1) := by decide +kernel
theorem dX6_fault_152 : decode cX6_fault 152 = .ok (.getfield 7, 3) := by decide +kernel
theorem dX6_fault_155 : decode cX6_fault 155 = .ok (.bipush 26, 2) := by decide +kernel
theorem dX6_fault_157 : decode cX6_fault 157 = .ok (.iload_n 1, 1) := by decide +kernel
theorem dX6_fault_158 : decode cX6_fault 158 = .ok (.iadd, 1) := by decide +kernel
theorem dX6_fault_159 : decode cX6_fault 159 = .ok (.iaload, 1) := by decide +kernel
theorem dX6_fault_160 : decode cX6_fault 160 = .ok (.if_icmp .ne 7, 3) := by decide +kernel
theorem dX6_fault_163 : decode cX6_fault 163 = .ok (.iconst 5, 1) := by decide +kernel
theorem dX6_fault_164 : decode cX6_fault 164 = .ok (.goto 4, 3) := by decide +kernel
theorem dX6_fault_167 : decode cX6_fault 167 = .ok (.iconst 0, 1) := by decide +kernel
theorem dX6_fault_168 : decode cX6_fault 168 = .ok (.ireturn, 1) := by decide +kernel
theorem dX6_touch_0 : decode cX6_touch 0 = .ok (.iload_n 1, 1) := by decide +kernel
theorem dX6_touch_1 : decode cX6_touch 1 = .ok (.invokestatic 28, 3) := by decide +kernel
theorem dX6_touch_4 : decode cX6_touch 4 = .ok (.ifCond .eq 14, 3) := by decide +kernel
theorem dX6_touch_7 : decode cX6_touch 7 = .ok (.iload_n 2, 1) := by decide +kernel
theorem dX6_touch_8 : decode cX6_touch 8 = .ok (.invokestatic 32, 3) := by decide +kernel
theorem dX6_touch_11 : decode cX6_touch 11 = .ok (.ifCond .eq 7, 3) := by decide +kernel
theorem dX6_touch_14 : decode cX6_touch 14 = .ok (.iconst 1, 1) := by decide +kernel
theorem dX6_touch_15 : decode cX6_touch 15 = .ok (.goto 4, 3) := by decide +kernel
theorem dX6_touch_18 : decode cX6_touch 18 = .ok (.iconst 0, 1) := by decide +kernel
theorem dX6_touch_19 : decode cX6_touch 19 = .ok (.istore 5, 2) := by decide +kernel
theorem dX6_touch_21 : decode cX6_touch 21 = .ok (.iload_n 3, 1) := by decide +kernel
theorem dX6_touch_22 : decode cX6_touch 22 = .ok (.iconst 0, 1) := by decide +kernel
theorem dX6_touch_23 : decode cX6_touch 23 = .ok (.iconst 2, 1) := by decide +kernel
theorem dX6_touch_24 : decode cX6_touch 24 = .ok (.invokestatic 20, 3) := by decide +kernel
theorem dX6_touch_27 : decode cX6_touch 27 = .ok (.istore 6, 2) := by decide +kernel
theorem dX6_touch_29 : decode cX6_touch 29 = .ok (.aload_n 0, 1) := by decide +kernel
theorem dX6_touch_30 : decode cX6_touch 30 = .ok (.iload 5, 2) := by decide +kernel
theorem dX6_touch_32 : decode cX6_touch 32 = .ok (.ifCond .ne 7, 3) := by decide +kernel
theorem dX6_touch_35 : decode cX6_touch 35 = .ok (.iconst 1, 1) := by decide +kernel
theorem dX6_touch_36 : decode cX6_touch 36 = .ok (.goto 35, 3) := by decide +kernel
theorem dX6_touch_39 : decode cX6_touch 39 = .ok (.iload 6, 2) := by decide +kernel
theorem dX6_touch_41 : decode cX6_touch 41 = .ok (.ifCond .ne 7, 3) := by decide +kernel
theorem dX6_touch_44 : decode cX6_touch 44 = .ok (.iconst 2, 1) := by decide +kernel
theorem dX6_touch_45 : decode cX6_touch 45 = .ok (.goto 26, 3) := by decide +kernel
theorem dX6_touch_48 : decode cX6_touch 48 = .ok (.aload_n 0, 1) := by decide +kernel
theorem dX6_touch_49 : decode cX6_touch 49 = .ok (.getfield 7, 3) := by decide +kernel
theorem dX6_touch_52 : decode cX6_touch 52 = .ok (.iconst 1, 1) := by decide +kernel
theorem dX6_touch_53 : decode cX6_touch 53 = .ok (.iaload, 1) := by decide +kernel
theorem dX6_touch_54 : decode cX6_touch 54 = .ok (.ifCond .eq 12, 3) := by decide +kernel
theorem dX6_touch_57 : decode cX6_touch 57 = .ok (.aload_n 0, 1) := by decide +kernel
theorem dX6_touch_58 : decode cX6_touch 58 = .ok (.iload_n 1, 1) := by decide +kernel
theorem dX6_touch_59 : decode cX6_touch 59 = .ok (.iload_n 2, 1) := by decide +kernel
theorem dX6_touch_60 : decode cX6_touch 60 = .ok (.invokevirtual 42, 3) := by decide +kernel
theorem dX6_touch_63 : decode cX6_touch 63 = .ok (.ifCond .ne 7, 3) := by decide +kernel
theorem dX6_touch_66 : decode cX6_touch 66 = .ok (.iconst 3, 1) := by decide +kernel
theorem dX6_touch_67 : decode cX6_touch 67 = .ok (.goto 4, 3) := by decide +kernel
theorem dX6_touch_70 : decode cX6_touch 70 = .ok (.iconst 0, 1) := by decide +kernel
theorem dX6_touch_71 : decode cX6_touch 71 = .ok (.invokevirtual 39, 3) := by decide +kernel
theorem dX6_touch_74 : decode cX6_touch 74 = .ok (.ifCond .ne 5, 3) := by decide +kernel
theorem dX6_touch_77 : decode cX6_touch 77 = .ok (.iconst 0, 1) := by decide +kernel
theorem dX6_touch_78 : decode cX6_touch 78 = .ok (.ireturn, 1) := by decide +kernel
theorem dX6_touch_79 : decode cX6_touch 79 = .ok (.aload_n 0, 1) := by decide +kernel
theorem dX6_touch_80 : decode cX6_touch 80 = .ok (.iload_n 1, 1) := by decide +kernel
theorem dX6_touch_81 : decode cX6_touch 81 = .ok (.iload_n 2, 1) := by decide +kernel
theorem dX6_touch_82 : decode cX6_touch 82 = .ok (.iload_n 3, 1) := by decide +kernel
theorem dX6_touch_83 : decode cX6_touch 83 = .ok (.iload 4, 2) := by decide +kernel
theorem dX6_touch_85 : decode cX6_touch 85 = .ok (.invokevirtual 62, 3) := by decide +kernel
theorem dX6_touch_88 : decode cX6_touch 88 = .ok (.istore 7, 2) := by decide +kernel
theorem dX6_touch_90 : decode cX6_touch 90 = .ok (.aload_n 0, 1) := by decide +kernel
theorem dX6_touch_91 : decode cX6_touch 91 = .ok (.getfield 7, 3) := by decide +kernel
theorem dX6_touch_94 : decode cX6_touch 94 = .ok (.iconst 4, 1) := by decide +kernel
theorem dX6_touch_95 : decode cX6_touch 95 = .ok (.iaload, 1) := by decide +kernel
theorem dX6_touch_96 : decode cX6_touch 96 = .ok (.iload_n 1, 1) := by decide +kernel
theorem dX6_touch_97 : decode cX6_touch 97 = .ok (.if_icmp .ne 13, 3) := by decide +kernel
theorem dX6_touch_100 : decode cX6_touch 100 = .ok (.aload_n 0, 1) := by decide +kernel
theorem dX6_touch_101 : decode cX6_touch 101 = .ok (.getfield 7, 3) := by decide +kernel
theorem dX6_touch_104 : decode cX6_touch 104 = .ok (.bipush 7, 2) := by decide +kernel
theorem dX6_touch_106 : decode cX6_touch 106 = .ok (.iaload, 1) := by decide +kernel
theorem dX6_touch_107 : decode cX6_touch 107 = .ok (.goto 4, 3) := by decide +kernel
theorem dX6_touch_110 : decode cX6_touch 110 = .ok (.iconst 0, 1) := by decide +kernel
theorem dX6_touch_111 : decode cX6_touch 111 = .ok (.istore 8, 2) := by decide +kernel
theorem dX6_touch_113 : decode cX6_touch 113 = .ok (.aload_n 0, 1) := by decide +kernel
theorem dX6_touch_114 : decode cX6_touch 114 = .ok (.getfield 7, 3) := by decide +kernel
theorem dX6_touch_117 : decode cX6_touch 117 = .ok (.bipush 7, 2) := by decide +kernel
theorem dX6_touch_119 : decode cX6_touch 119 = .ok (.iload_n 3, 1) := by decide +kernel
theorem dX6_touch_120 : decode cX6_touch 120 = .ok (.iconst 2, 1) := by decide +kernel
theorem dX6_touch_121 : decode cX6_touch 121 = .ok (.if_icmp .ne 7, 3) := by decide +kernel
theorem dX6_touch_124 : decode cX6_touch 124 = .ok (.iconst 0, 1) := by decide +kernel
theorem dX6_touch_125 : decode cX6_touch 125 = .ok (.goto 7, 3) := by decide +kernel
theorem dX6_touch_128 : decode cX6_touch 128 = .ok (.iload 8, 2) := by decide +kernel
theorem dX6_touch_130 : decode cX6_touch 130 = .ok (.iconst 1, 1) := by decide +kernel
theorem dX6_touch_131 : decode cX6_touch 131 = .ok (.iadd, 1) := by decide +kernel
theorem dX6_touch_132 : decode cX6_touch 132 = .ok (.iastore, 1) := by decide +kernel
theorem dX6_touch_133 : decode cX6_touch 133 = .ok (.aload_n 0, 1) := by decide +kernel
theorem dX6_touch_134 : decode cX6_touch 134 = .ok (.getfield 7, 3) := by decide +kernel
theorem dX6_touch_137 : decode cX6_touch 137 = .ok (.iconst 4, 1) := by decide +kernel
theorem dX6_touch_138 : decode cX6_touch 138 = .ok (.iload_n 1, 1) := by decide +kernel
theorem dX6_touch_139 : decode cX6_touch 139 = .ok (.iastore, 1) := by decide +kernel
theorem dX6_touch_140 : decode cX6_touch 140 = .ok (.aload_n 0, 1) := by decide +kernel
theorem dX6_touch_141 : decode cX6_touch 141 = .ok (.getfield 7, 3) := by decide +kernel
theorem dX6_touch_144 : decode cX6_touch 144 = .ok (.iconst 5, 1) := by decide +kernel
theorem dX6_touch_145 : decode cX6_touch 145 = .ok (.iload_n 2, 1) := by decide +kernel
theorem dX6_touch_146 : decode cX6_touch 146 = .ok (.iastore, 1) := by decide +kernel
theorem dX6_touch_147 : decode cX6_touch 147 = .ok (.aload_n 0, 1) := by decide +kernel
theorem dX6_touch_148 : decode cX6_touch 148 = .ok (.getfield 7, 3) := by decide +kernel
theorem dX6_touch_151 : decode cX6_touch 151 = .ok (.bipush 6, 2) := by decide +kernel
theorem dX6_touch_153 : decode cX6_touch 153 = .ok (.iload_n 3, 1) := by decide +kernel
theorem dX6_touch_154 : decode cX6_touch 154 = .ok (.iastore, 1) := by decide +kernel
theorem dX6_touch_155 : decode cX6_touch 155 = .ok (.aload_n 0, 1) := by decide +kernel
theorem dX6_touch_156 : decode cX6_touch 156 = .ok (.getfield 7, 3) := by decide +kernel
theorem dX6_touch_159 : decode cX6_touch 159 = .ok (.bipush 8, 2) := by decide +kernel
theorem dX6_touch_161 : decode cX6_touch 161 = .ok (.iconst 0, 1) := by decide +kernel
theorem dX6_touch_162 : decode cX6_touch 162 = .ok (.iastore, 1) := by decide +kernel
theorem dX6_touch_163 : decode cX6_touch 163 = .ok (.iload 7, 2) := by decide +kernel
theorem dX6_touch_165 : decode cX6_touch 165 = .ok (.ifCond .le 12, 3) := by decide +kernel
theorem dX6_touch_168 : decode cX6_touch 168 = .ok (.aload_n 0, 1) := by decide +kernel
theorem dX6_touch_169 : decode cX6_touch 169 = .ok (.iconst 1, 1) := by decide +kernel
theorem dX6_touch_170 : decode cX6_touch 170 = .ok (.iload_n 1, 1) := by decide +kernel
theorem dX6_touch_171 : decode cX6_touch 171 = .ok (.isub, 1) := by decide +kernel
theorem dX6_touch_172 : decode cX6_touch 172 = .ok (.iload 7, 2) := by decide +kernel
theorem dX6_touch_174 : decode cX6_touch 174 = .ok (.invokevirtual 66, 3) := by decide +kernel
theorem dX6_touch_177 : decode cX6_touch 177 = .ok (.iload 7, 2) := by decide +kernel
theorem dX6_touch_179 : decode cX6_touch 179 = .ok (.ireturn, 1) := by decide +kernel
theorem dX6_fall_0 : decode cX6_fall 0 = .ok (.iload_n 1, 1) := by decide +kernel
theorem dX6_fall_1 : decode cX6_fall 1 = .ok (.iconst (-1), 1) := by decide +kernel
theorem dX6_fall_2 : decode cX6_fall 2 = .ok (.if_icmp .eq 10, 3) := by decide +kernel
theorem dX6_fall_5 : decode cX6_fall 5 = .ok (.iload_n 1, 1) := by decide +kernel
theorem dX6_fall_6 : decode cX6_fall 6 = .ok (.invokestatic 28, 3) := by decide +kernel
theorem dX6_fall_9 : decode cX6_fall 9 = .ok (.ifCond .eq 7, 3) := by decide +kernel
theorem dX6_fall_12 : decode cX6_fall 12 = .ok (.iconst 1, 1) := by decide +kernel
theorem dX6_fall_13 : decode cX6_fall 13 = .ok (.goto 4, 3) := by decide +kernel
theorem dX6_fall_16 : decode cX6_fall 16 = .ok (.iconst 0, 1) := by decide +kernel
theorem dX6_fall_17 : decode cX6_fall 17 = .ok (.istore_n 2, 1) := by decide +kernel
theorem dX6_fall_18 : decode cX6_fall 18 = .ok (.aload_n 0, 1) := by decide +kernel
theorem dX6_fall_19 : decode cX6_fall 19 = .ok (.iload_n 2, 1) := by decide +kernel
theorem dX6_fall_20 : decode cX6_fall 20 = .ok (.ifCond .ne 7, 3) := by decide +kernel
theorem dX6_fall_23 : decode cX6_fall 23 = .ok (.iconst 1, 1) := by decide +kernel
theorem dX6_fall_24 : decode cX6_fall 24 = .ok (.goto 18, 3) := by decide +kernel
theorem dX6_fall_27 : decode cX6_fall 27 = .ok (.aload_n 0, 1) := by decide +kernel
theorem dX6_fall_28 : decode cX6_fall 28 = .ok (.getfield 7, 3) := by decide +kernel
theorem dX6_fall_31 : decode cX6_fall 31 = .ok (.iconst 1, 1) := by decide +kernel
theorem dX6_fall_32 : decode cX6_fall 32 = .ok (.iaload, 1) := by decide +kernel
theorem dX6_fall_33 : decode cX6_fall 33 = .ok (.iconst 1, 1) := by decide +kernel
theorem dX6_fall_34 : decode cX6_fall 34 = .ok (.if_icmp .ne 7, 3) := by decide +kernel
theorem dX6_fall_37 : decode cX6_fall 37 = .ok (.iconst 0, 1) := by decide +kernel
theorem dX6_fall_38 : decode cX6_fall 38 = .ok (.goto 4, 3) := by decide +kernel
theorem dX6_fall_41 : decode cX6_fall 41 = .ok (.iconst 2, 1) := by decide +kernel
theorem dX6_fall_42 : decode cX6_fall 42 = .ok (.invokevirtual 39, 3) := by decide +kernel
theorem dX6_fall_45 : decode cX6_fall 45 = .ok (.ifCond .ne 5, 3) := by decide +kernel
theorem dX6_fall_48 : decode cX6_fall 48 = .ok (.iconst 0, 1) := by decide +kernel
theorem dX6_fall_49 : decode cX6_fall 49 = .ok (.ireturn, 1) := by decide +kernel
theorem dX6_fall_50 : decode cX6_fall 50 = .ok (.iconst 1, 1) := by decide +kernel
theorem dX6_fall_51 : decode cX6_fall 51 = .ok (.iload_n 1, 1) := by decide +kernel
theorem dX6_fall_52 : decode cX6_fall 52 = .ok (.iconst (-1), 1) := by decide +kernel
theorem dX6_fall_53 : decode cX6_fall 53 = .ok (.if_icmp .ne 12, 3) := by decide +kernel
theorem dX6_fall_56 : decode cX6_fall 56 = .ok (.aload_n 0, 1) := by decide +kernel
theorem dX6_fall_57 : decode cX6_fall 57 = .ok (.getfield 7, 3) := by decide +kernel
theorem dX6_fall_60 : decode cX6_fall 60 = .ok (.iconst 4, 1) := by decide +kernel
theorem dX6_fall_61 : decode cX6_fall 61 = .ok (.iaload, 1) := by decide +kernel
theorem dX6_fall_62 : decode cX6_fall 62 = .ok (.goto 4, 3) := by decide +kernel
theorem dX6_fall_65 : decode cX6_fall 65 = .ok (.iload_n 1, 1) := by decide +kernel
theorem dX6_fall_66 : decode cX6_fall 66 = .ok (.isub, 1) := by decide +kernel
theorem dX6_fall_67 : decode cX6_fall 67 = .ok (.istore_n 3, 1) := by decide +kernel
theorem dX6_fall_68 : decode cX6_fall 68 = .ok (.aload_n 0, 1) := by decide +kernel
theorem dX6_fall_69 : decode cX6_fall 69 = .ok (.iload_n 3, 1) := by decide +kernel
theorem dX6_fall_70 : decode cX6_fall 70 = .ok (.iload_n 1, 1) := by decide +kernel
theorem dX6_fall_71 : decode cX6_fall 71 = .ok (.iconst (-1), 1) := by decide +kernel
theorem dX6_fall_72 : decode cX6_fall 72 = .ok (.if_icmp .ne 8, 3) := by decide +kernel
theorem dX6_fall_75 : decode cX6_fall 75 = .ok (.bipush 7, 2) := by decide +kernel
theorem dX6_fall_77 : decode cX6_fall 77 = .ok (.goto 5, 3) := by decide +kernel
theorem dX6_fall_80 : decode cX6_fall 80 = .ok (.bipush 6, 2) := by decide +kernel
theorem dX6_fall_82 : decode cX6_fall 82 = .ok (.invokevirtual 66, 3) := by decide +kernel
theorem dX6_fall_85 : decode cX6_fall 85 = .ok (.iload_n 3, 1) := by decide +kernel
theorem dX6_fall_86 : decode cX6_fall 86 = .ok (.ireturn, 1) := by decide +kernel
theorem dX6_net_0 : decode cX6_net 0 = .ok (.aload_n 0, 1) := by decide +kernel
theorem dX6_net_1 : decode cX6_net 1 = .ok (.iload_n 1, 1) := by decide +kernel
theorem dX6_net_2 : decode cX6_net 2 = .ok (.invokestatic 28, 3) := by decide +kernel
theorem dX6_net_5 : decode cX6_net 5 = .ok (.ifCond .ne 7, 3) := by decide +kernel
theorem dX6_net_8 : decode cX6_net 8 = .ok (.iconst 1, 1) := by decide +kernel
theorem dX6_net_9 : decode cX6_net 9 = .ok (.goto 18, 3) := by decide +kernel
theorem dX6_net_12 : decode cX6_net 12 = .ok (.aload_n 0, 1) := by decide +kernel
theorem dX6_net_13 : decode cX6_net 13 = .ok (.getfield 7, 3) := by decide +kernel
theorem dX6_net_16 : decode cX6_net 16 = .ok (.iconst 1, 1) := by decide +kernel
theorem dX6_net_17 : decode cX6_net 17 = .ok (.iaload, 1) := by decide +kernel
theorem dX6_net_18 : decode cX6_net 18 = .ok (.iconst 1, 1) := by decide +kernel
theorem dX6_net_19 : decode cX6_net 19 = .ok (.if_icmp .ne 7, 3) := by decide +kernel
theorem dX6_net_22 : decode cX6_net 22 = .ok (.iconst 0, 1) := by decide +kernel
theorem dX6_net_23 : decode cX6_net 23 = .ok (.goto 4, 3) := by decide +kernel
theorem dX6_net_26 : decode cX6_net 26 = .ok (.iconst 2, 1) := by decide +kernel
theorem dX6_net_27 : decode cX6_net 27 = .ok (.invokevirtual 39, 3) := by decide +kernel
theorem dX6_net_30 : decode cX6_net 30 = .ok (.ifCond .ne 5, 3) := by decide +kernel
theorem dX6_net_33 : decode cX6_net 33 = .ok (.iconst 0, 1) := by decide +kernel
theorem dX6_net_34 : decode cX6_net 34 = .ok (.ireturn, 1) := by decide +kernel
theorem dX6_net_35 : decode cX6_net 35 = .ok (.iload_n 2, 1) := by decide +kernel
theorem dX6_net_36 : decode cX6_net 36 = .ok (.ifCond .eq 15, 3) := by decide +kernel
theorem dX6_net_39 : decode cX6_net 39 = .ok (.aload_n 0, 1) := by decide +kernel
theorem dX6_net_40 : decode cX6_net 40 = .ok (.iconst 1, 1) := by decide +kernel
theorem dX6_net_41 : decode cX6_net 41 = .ok (.iload_n 1, 1) := by decide +kernel
theorem dX6_net_42 : decode cX6_net 42 = .ok (.isub, 1) := by decide +kernel
theorem dX6_net_43 : decode cX6_net 43 = .ok (.bipush 8, 2) := by decide +kernel
theorem dX6_net_45 : decode cX6_net 45 = .ok (.invokevirtual 66, 3) := by decide +kernel
theorem dX6_net_48 : decode cX6_net 48 = .ok (.goto 13, 3) := by decide +kernel
theorem dX6_net_51 : decode cX6_net 51 = .ok (.aload_n 0, 1) := by decide +kernel
theorem dX6_net_52 : decode cX6_net 52 = .ok (.getfield 7, 3) := by decide +kernel
theorem dX6_net_55 : decode cX6_net 55 = .ok (.bipush 38, 2) := by decide +kernel
theorem dX6_net_57 : decode cX6_net 57 = .ok (.iload_n 1, 1) := by decide +kernel
theorem dX6_net_58 : decode cX6_net 58 = .ok (.iadd, 1) := by decide +kernel
theorem dX6_net_59 : decode cX6_net 59 = .ok (.iconst 1, 1) := by decide +kernel
theorem dX6_net_60 : decode cX6_net 60 = .ok (.iastore, 1) := by decide +kernel
theorem dX6_net_61 : decode cX6_net 61 = .ok (.iload_n 2, 1) := by decide +kernel
theorem dX6_net_62 : decode cX6_net 62 = .ok (.ireturn, 1) := by decide +kernel
theorem dX6_find_0 : decode cX6_find 0 = .ok (.aload_n 0, 1) := by decide +kernel
theorem dX6_find_1 : decode cX6_find 1 = .ok (.getfield 7, 3) := by decide +kernel
theorem dX6_find_4 : decode cX6_find 4 = .ok (.iconst 0, 1) := by decide +kernel
theorem dX6_find_5 : decode cX6_find 5 = .ok (.iaload, 1) := by decide +kernel
theorem dX6_find_6 : decode cX6_find 6 = .ok (.iconst 1, 1) := by decide +kernel
theorem dX6_find_7 : decode cX6_find 7 = .ok (.if_icmp .ne 27, 3) := by decide +kernel
theorem dX6_find_10 : decode cX6_find 10 = .ok (.aload_n 0, 1) := by decide +kernel
theorem dX6_find_11 : decode cX6_find 11 = .ok (.getfield 7, 3) := by decide +kernel
theorem dX6_find_14 : decode cX6_find 14 = .ok (.iconst 1, 1) := by decide +kernel
theorem dX6_find_15 : decode cX6_find 15 = .ok (.iaload, 1) := by decide +kernel
theorem dX6_find_16 : decode cX6_find 16 = .ok (.ifCond .ne 18, 3) := by decide +kernel
theorem dX6_find_19 : decode cX6_find 19 = .ok (.aload_n 0, 1) := by decide +kernel
theorem dX6_find_20 : decode cX6_find 20 = .ok (.getfield 7, 3) := by decide +kernel
theorem dX6_find_23 : decode cX6_find 23 = .ok (.bipush 9, 2) := by decide +kernel
theorem dX6_find_25 : decode cX6_find 25 = .ok (.iaload, 1) := by decide +kernel
theorem dX6_find_26 : decode cX6_find 26 = .ok (.iconst (-1), 1) := by decide +kernel
theorem dX6_find_27 : decode cX6_find 27 = .ok (.if_icmp .eq 7, 3) := by decide +kernel
theorem dX6_find_30 : decode cX6_find 30 = .ok (.iconst 1, 1) := by decide +kernel
theorem dX6_find_31 : decode cX6_find 31 = .ok (.goto 4, 3) := by decide +kernel
theorem dX6_find_34 : decode cX6_find 34 = .ok (.iconst 0, 1) := by decide +kernel
theorem dX6_find_35 : decode cX6_find 35 = .ok (.istore_n 1, 1) := by decide +kernel
theorem dX6_find_36 : decode cX6_find 36 = .ok (.aload_n 0, 1) := by decide +kernel
theorem dX6_find_37 : decode cX6_find 37 = .ok (.iload_n 1, 1) := by decide +kernel
theorem dX6_find_38 : decode cX6_find 38 = .ok (.ifCond .eq 7, 3) := by decide +kernel
theorem dX6_find_41 : decode cX6_find 41 = .ok (.iconst 0, 1) := by decide +kernel
theorem dX6_find_42 : decode cX6_find 42 = .ok (.goto 4, 3) := by decide +kernel
theorem dX6_find_45 : decode cX6_find 45 = .ok (.iconst 1, 1) := by decide +kernel
theorem dX6_find_46 : decode cX6_find 46 = .ok (.invokevirtual 39, 3) := by decide +kernel
theorem dX6_find_49 : decode cX6_find 49 = .ok (.ifCond .ne 5, 3) := by decide +kernel
theorem dX6_find_52 : decode cX6_find 52 = .ok (.iconst 0, 1) := by decide +kernel
theorem dX6_find_53 : decode cX6_find 53 = .ok (.ireturn, 1) := by decide +kernel
theorem dX6_find_54 : decode cX6_find 54 = .ok (.aload_n 0, 1) := by decide +kernel
theorem dX6_find_55 : decode cX6_find 55 = .ok (.getfield 7, 3) := by decide +kernel
theorem dX6_find_58 : decode cX6_find 58 = .ok (.bipush 41, 2) := by decide +kernel
theorem dX6_find_60 : decode cX6_find 60 = .ok (.iconst 0, 1) := by decide +kernel
theorem dX6_find_61 : decode cX6_find 61 = .ok (.iastore, 1) := by decide +kernel
theorem dX6_find_62 : decode cX6_find 62 = .ok (.aload_n 0, 1) := by decide +kernel
theorem dX6_find_63 : decode cX6_find 63 = .ok (.getfield 7, 3) := by decide +kernel
theorem dX6_find_66 : decode cX6_find 66 = .ok (.iconst 2, 1) := by decide +kernel
theorem dX6_find_67 : decode cX6_find 67 = .ok (.iaload, 1) := by decide +kernel
theorem dX6_find_68 : decode cX6_find 68 = .ok (.istore_n 2, 1) := by decide +kernel
theorem dX6_find_69 : decode cX6_find 69 = .ok (.aload_n 0, 1) := by decide +kernel
theorem dX6_find_70 : decode cX6_find 70 = .ok (.getfield 7, 3) := by decide +kernel
theorem dX6_find_73 : decode cX6_find 73 = .ok (.bipush 10, 2) := by decide +kernel
theorem dX6_find_75 : decode cX6_find 75 = .ok (.iload_n 2, 1) := by decide +kernel
theorem dX6_find_76 : decode cX6_find 76 = .ok (.iadd, 1) := by decide +kernel
theorem dX6_find_77 : decode cX6_find 77 = .ok (.iaload, 1) := by decide +kernel
theorem dX6_find_78 : decode cX6_find 78 = .ok (.aload_n 0, 1) := by decide +kernel
theorem dX6_find_79 : decode cX6_find 79 = .ok (.getfield 7, 3) := by decide +kernel
theorem dX6_find_82 : decode cX6_find 82 = .ok (.bipush 9, 2) := by decide +kernel
theorem dX6_find_84 : decode cX6_find 84 = .ok (.iaload, 1) := by decide +kernel
theorem dX6_find_85 : decode cX6_find 85 = .ok (.isub, 1) := by decide +kernel
theorem dX6_find_86 : decode cX6_find 86 = .ok (.istore_n 3, 1) := by decide +kernel
theorem dX6_find_87 : decode cX6_find 87 = .ok (.aload_n 0, 1) := by decide +kernel
theorem dX6_find_88 : decode cX6_find 88 = .ok (.getfield 7, 3) := by decide +kernel
theorem dX6_find_91 : decode cX6_find 91 = .ok (.bipush 10, 2) := by decide +kernel
theorem dX6_find_93 : decode cX6_find 93 = .ok (.iload_n 2, 1) := by decide +kernel
theorem dX6_find_94 : decode cX6_find 94 = .ok (.iadd, 1) := by decide +kernel
theorem dX6_find_95 : decode cX6_find 95 = .ok (.dup2, 1) := by decide +kernel
theorem dX6_find_96 : decode cX6_find 96 = .ok (.iaload, 1) := by decide +kernel
theorem dX6_find_97 : decode cX6_find 97 = .ok (.iload_n 3, 1) := by decide +kernel
theorem dX6_find_98 : decode cX6_find 98 = .ok (.isub, 1) := by decide +kernel
theorem dX6_find_99 : decode cX6_find 99 = .ok (.iastore, 1) := by decide +kernel
theorem dX6_find_100 : decode cX6_find 100 = .ok (.aload_n 0, 1) := by decide +kernel
theorem dX6_find_101 : decode cX6_find 101 = .ok (.getfield 7, 3) := by decide +kernel
theorem dX6_find_104 : decode cX6_find 104 = .ok (.iconst 3, 1) := by decide +kernel
theorem dX6_find_105 : decode cX6_find 105 = .ok (.bipush 9, 2) := by decide +kernel
theorem dX6_find_107 : decode cX6_find 107 = .ok (.iastore, 1) := by decide +kernel
theorem dX6_find_108 : decode cX6_find 108 = .ok (.aload_n 0, 1) := by decide +kernel
theorem dX6_find_109 : decode cX6_find 109 = .ok (.iconst 1, 1) := by decide +kernel
theorem dX6_find_110 : decode cX6_find 110 = .ok (.iload_n 2, 1) := by decide +kernel
theorem dX6_find_111 : decode cX6_find 111 = .ok (.isub, 1) := by decide +kernel
theorem dX6_find_112 : decode cX6_find 112 = .ok (.invokevirtual 52, 3) := by decide +kernel
theorem dX6_find_115 : decode cX6_find 115 = .ok (.iload_n 3, 1) := by decide +kernel
theorem dX6_find_116 : decode cX6_find 116 = .ok (.ireturn, 1) := by decide +kernel
theorem dX6_exchange_0 : decode cX6_exchange 0 = .ok (.iload_n 1, 1) := by decide +kernel
theorem dX6_exchange_1 : decode cX6_exchange 1 = .ok (.invokestatic 28, 3) := by decide +kernel
theorem dX6_exchange_4 : decode cX6_exchange 4 = .ok (.ifCond .eq 14, 3) := by decide +kernel
theorem dX6_exchange_7 : decode cX6_exchange 7 = .ok (.iload_n 2, 1) := by decide +kernel
theorem dX6_exchange_8 : decode cX6_exchange 8 = .ok (.invokestatic 32, 3) := by decide +kernel
theorem dX6_exchange_11 : decode cX6_exchange 11 = .ok (.ifCond .eq 7, 3) := by decide +kernel
theorem dX6_exchange_14 : decode cX6_exchange 14 = .ok (.iconst 1, 1) := by decide +kernel
theorem dX6_exchange_15 : decode cX6_exchange 15 = .ok (.goto 4, 3) := by decide +kernel
theorem dX6_exchange_18 : decode cX6_exchange 18 = .ok (.iconst 0, 1) := by decide +kernel
theorem dX6_exchange_19 : decode cX6_exchange 19 = .ok (.istore_n 3, 1) := by decide +kernel
theorem dX6_exchange_20 : decode cX6_exchange 20 = .ok (.iload_n 3, 1) := by decide +kernel
theorem dX6_exchange_21 : decode cX6_exchange 21 = .ok (.ifCond .eq 51, 3) := by decide +kernel
theorem dX6_exchange_24 : decode cX6_exchange 24 = .ok (.aload_n 0, 1) := by decide +kernel
theorem dX6_exchange_25 : decode cX6_exchange 25 = .ok (.getfield 7, 3) := by decide +kernel
theorem dX6_exchange_28 : decode cX6_exchange 28 = .ok (.iconst 0, 1) := by decide +kernel
theorem dX6_exchange_29 : decode cX6_exchange 29 = .ok (.iaload, 1) := by decide +kernel
theorem dX6_exchange_30 : decode cX6_exchange 30 = .ok (.iconst 1, 1) := by decide +kernel
theorem dX6_exchange_31 : decode cX6_exchange 31 = .ok (.if_icmp .ne 41, 3) := by decide +kernel
theorem dX6_exchange_34 : decode cX6_exchange 34 = .ok (.aload_n 0, 1) := by decide +kernel
theorem dX6_exchange_35 : decode cX6_exchange 35 = .ok (.getfield 7, 3) := by decide +kernel
theorem dX6_exchange_38 : decode cX6_exchange 38 = .ok (.iconst 1, 1) := by decide +kernel
theorem dX6_exchange_39 : decode cX6_exchange 39 = .ok (.iaload, 1) := by decide +kernel
theorem dX6_exchange_40 : decode cX6_exchange 40 = .ok (.ifCond .ne 32, 3) := by decide +kernel
theorem dX6_exchange_43 : decode cX6_exchange 43 = .ok (.aload_n 0, 1) := by decide +kernel
theorem dX6_exchange_44 : decode cX6_exchange 44 = .ok (.getfield 7, 3) := by decide +kernel
theorem dX6_exchange_47 : decode cX6_exchange 47 = .ok (.bipush 30, 2) := by decide +kernel
theorem dX6_exchange_49 : decode cX6_exchange 49 = .ok (.iload_n 1, 1) := by decide +kernel
theorem dX6_exchange_50 : decode cX6_exchange 50 = .ok (.iadd, 1) := by decide +kernel
theorem dX6_exchange_51 : decode cX6_exchange 51 = .ok (.iaload, 1) := by decide +kernel
theorem dX6_exchange_52 : decode cX6_exchange 52 = .ok (.ifCond .ne 20, 3) := by decide +kernel
theorem dX6_exchange_55 : decode cX6_exchange 55 = .ok (.aload_n 0, 1) := by decide +kernel
theorem dX6_exchange_56 : decode cX6_exchange 56 = .ok (.getfield 7, 3) := by decide +kernel
theorem dX6_exchange_59 : decode cX6_exchange 59 = .ok (.bipush 26, 2) := by decide +kernel
theorem dX6_exchange_61 : decode cX6_exchange 61 = .ok (.iload_n 1, 1) := by decide +kernel
theorem dX6_exchange_62 : decode cX6_exchange 62 = .ok (.iadd, 1) := by decide +kernel
theorem dX6_exchange_63 : decode cX6_exchange 63 = .ok (.iaload, 1) := by decide +kernel
theorem dX6_exchange_64 : decode cX6_exchange 64 = .ok (.iconst (-1), 1) := by decide +kernel
theorem dX6_exchange_65 : decode cX6_exchange 65 = .ok (.if_icmp .eq 7, 3) := by decide +kernel
theorem dX6_exchange_68 : decode cX6_exchange 68 = .ok (.iconst 1, 1) := by decide +kernel
theorem dX6_exchange_69 : decode cX6_exchange 69 = .ok (.goto 4, 3) := by decide +kernel
theorem dX6_exchange_72 : decode cX6_exchange 72 = .ok (.iconst 0, 1) := by decide +kernel
theorem dX6_exchange_73 : decode cX6_exchange 73 = .ok (.istore 4, 2) := by decide +kernel
theorem dX6_exchange_75 : decode cX6_exchange 75 = .ok (.iload_n 3, 1) := by decide +kernel
theorem dX6_exchange_76 : decode cX6_exchange 76 = .ok (.ifCond .eq 20, 3) := by decide +kernel
theorem dX6_exchange_79 : decode cX6_exchange 79 = .ok (.aload_n 0, 1) := by decide +kernel
theorem dX6_exchange_80 : decode cX6_exchange 80 = .ok (.getfield 7, 3) := by decide +kernel
theorem dX6_exchange_83 : decode cX6_exchange 83 = .ok (.bipush 28, 2) := by decide +kernel
theorem dX6_exchange_85 : decode cX6_exchange 85 = .ok (.iload_n 1, 1) := by decide +kernel
theorem dX6_exchange_86 : decode cX6_exchange 86 = .ok (.iadd, 1) := by decide +kernel
theorem dX6_exchange_87 : decode cX6_exchange 87 = .ok (.iaload, 1) := by decide +kernel
theorem dX6_exchange_88 : decode cX6_exchange 88 = .ok (.iconst (-1), 1) := by decide +kernel
theorem dX6_exchange_89 : decode cX6_exchange 89 = .ok (.if_icmp .eq 7, 3) := by decide +kernel
theorem dX6_exchange_92 : decode cX6_exchange 92 = .ok (.iconst 1, 1) := by decide +kernel
theorem dX6_exchange_93 : decode cX6_exchange 93 = .ok (.goto 4, 3) := by decide +kernel
theorem dX6_exchange_96 : decode cX6_exchange 96 = .ok (.iconst 0, 1) := by decide +kernel
theorem dX6_exchange_97 : decode cX6_exchange 97 = .ok (.istore 5, 2) := by decide +kernel
theorem dX6_exchange_99 : decode cX6_exchange 99 = .ok (.iload 4, 2) := by decide +kernel
theorem dX6_exchange_101 : decode cX6_exchange 101 = .ok (.ifCond .eq 40, 3) := by decide +kernel
theorem dX6_exchange_104 : decode cX6_exchange 104 = .ok (.iload 5, 2) := by decide +kernel
theorem dX6_exchange_106 : decode cX6_exchange 106 = .ok (.ifCond .eq 19, 3) := by decide +kernel
theorem dX6_exchange_109 : decode cX6_exchange 109 = .ok (.iload_n 2, 1) := by decide +kernel
theorem dX6_exchange_110 : decode cX6_exchange 110 = .ok (.aload_n 0, 1) := by decide +kernel
theorem dX6_exchange_111 : decode cX6_exchange 111 = .ok (.getfield 7, 3) := by decide +kernel
theorem dX6_exchange_114 : decode cX6_exchange 114 = .ok (.bipush 28, 2) := by decide +kernel
theorem dX6_exchange_116 : decode cX6_exchange 116 = .ok (.iload_n 1, 1) := by decide +kernel
theorem dX6_exchange_117 : decode cX6_exchange 117 = .ok (.iadd, 1) := by decide +kernel
theorem dX6_exchange_118 : decode cX6_exchange 118 = .ok (.iaload, 1) := by decide +kernel
theorem dX6_exchange_119 : decode cX6_exchange 119 = .ok (.if_icmp .ne 22, 3) := by decide +kernel
theorem dX6_exchange_122 : decode cX6_exchange 122 = .ok (.goto 15, 3) := by decide +kernel
theorem dX6_exchange_125 : decode cX6_exchange 125 = .ok (.aload_n 0, 1) := by decide +kernel
theorem dX6_exchange_126 : decode cX6_exchange 126 = .ok (.iload_n 1, 1) := by decide +kernel
theorem dX6_exchange_127 : decode cX6_exchange 127 = .ok (.iload_n 2, 1) := by decide +kernel
theorem dX6_exchange_128 : decode cX6_exchange 128 = .ok (.invokevirtual 42, 3) := by decide +kernel
theorem dX6_exchange_131 : decode cX6_exchange 131 = .ok (.invokestatic 59, 3) := by decide +kernel
theorem dX6_exchange_134 : decode cX6_exchange 134 = .ok (.ifCond .eq 7, 3) := by decide +kernel
theorem dX6_exchange_137 : decode cX6_exchange 137 = .ok (.iconst 1, 1) := by decide +kernel
theorem dX6_exchange_138 : decode cX6_exchange 138 = .ok (.goto 4, 3) := by decide +kernel
theorem dX6_exchange_141 : decode cX6_exchange 141 = .ok (.iconst 0, 1) := by decide +kernel
theorem dX6_exchange_142 : decode cX6_exchange 142 = .ok (.istore 6, 2) := by decide +kernel
theorem dX6_exchange_144 : decode cX6_exchange 144 = .ok (.aload_n 0, 1) := by decide +kernel
theorem dX6_exchange_145 : decode cX6_exchange 145 = .ok (.iload_n 3, 1) := by decide +kernel
theorem dX6_exchange_146 : decode cX6_exchange 146 = .ok (.ifCond .ne 7, 3) := by decide +kernel
theorem dX6_exchange_149 : decode cX6_exchange 149 = .ok (.iconst 1, 1) := by decide +kernel
theorem dX6_exchange_150 : decode cX6_exchange 150 = .ok (.goto 13, 3) := by decide +kernel
theorem dX6_exchange_153 : decode cX6_exchange 153 = .ok (.iload 6, 2) := by decide +kernel
theorem dX6_exchange_155 : decode cX6_exchange 155 = .ok (.ifCond .eq 7, 3) := by decide +kernel
theorem dX6_exchange_158 : decode cX6_exchange 158 = .ok (.iconst 0, 1) := by decide +kernel
theorem dX6_exchange_159 : decode cX6_exchange 159 = .ok (.goto 4, 3) := by decide +kernel
theorem dX6_exchange_162 : decode cX6_exchange 162 = .ok (.iconst 2, 1) := by decide +kernel
theorem dX6_exchange_163 : decode cX6_exchange 163 = .ok (.invokevirtual 39, 3) := by decide +kernel
theorem dX6_exchange_166 : decode cX6_exchange 166 = .ok (.ifCond .ne 5, 3) := by decide +kernel
theorem dX6_exchange_169 : decode cX6_exchange 169 = .ok (.iconst 0, 1) := by decide +kernel
theorem dX6_exchange_170 : decode cX6_exchange 170 = .ok (.ireturn, 1) := by decide +kernel
theorem dX6_exchange_171 : decode cX6_exchange 171 = .ok (.aload_n 0, 1) := by decide +kernel
theorem dX6_exchange_172 : decode cX6_exchange 172 = .ok (.getfield 7, 3) := by decide +kernel
theorem dX6_exchange_175 : decode cX6_exchange 175 = .ok (.bipush 41, 2) := by decide +kernel
theorem dX6_exchange_177 : decode cX6_exchange 177 = .ok (.iconst 0, 1) := by decide +kernel
theorem dX6_exchange_178 : decode cX6_exchange 178 = .ok (.iastore, 1) := by decide +kernel
theorem dX6_exchange_179 : decode cX6_exchange 179 = .ok (.aload_n 0, 1) := by decide +kernel
theorem dX6_exchange_180 : decode cX6_exchange 180 = .ok (.getfield 7, 3) := by decide +kernel
theorem dX6_exchange_183 : decode cX6_exchange 183 = .ok (.bipush 30, 2) := by decide +kernel
theorem dX6_exchange_185 : decode cX6_exchange 185 = .ok (.iload_n 1, 1) := by decide +kernel
theorem dX6_exchange_186 : decode cX6_exchange 186 = .ok (.iadd, 1) := by decide +kernel
theorem dX6_exchange_187 : decode cX6_exchange 187 = .ok (.iconst 1, 1) := by decide +kernel
theorem dX6_exchange_188 : decode cX6_exchange 188 = .ok (.iastore, 1) := by decide +kernel
theorem dX6_exchange_189 : decode cX6_exchange 189 = .ok (.aload_n 0, 1) := by decide +kernel
theorem dX6_exchange_190 : decode cX6_exchange 190 = .ok (.getfield 7, 3) := by decide +kernel
theorem dX6_exchange_193 : decode cX6_exchange 193 = .ok (.bipush 26, 2) := by decide +kernel
theorem dX6_exchange_195 : decode cX6_exchange 195 = .ok (.iload_n 1, 1) := by decide +kernel
theorem dX6_exchange_196 : decode cX6_exchange 196 = .ok (.iadd, 1) := by decide +kernel
theorem dX6_exchange_197 : decode cX6_exchange 197 = .ok (.iaload, 1) := by decide +kernel
theorem dX6_exchange_198 : decode cX6_exchange 198 = .ok (.istore 7, 2) := by decide +kernel
theorem dX6_exchange_200 : decode cX6_exchange 200 = .ok (.iload 5, 2) := by decide +kernel
theorem dX6_exchange_202 : decode cX6_exchange 202 = .ok (.ifCond .eq 33, 3) := by decide +kernel
theorem dX6_exchange_205 : decode cX6_exchange 205 = .ok (.aload_n 0, 1) := by decide +kernel
theorem dX6_exchange_206 : decode cX6_exchange 206 = .ok (.getfield 7, 3) := by decide +kernel
theorem dX6_exchange_209 : decode cX6_exchange 209 = .ok (.iload_n 1, 1) := by decide +kernel
theorem dX6_exchange_210 : decode cX6_exchange 210 = .ok (.aload_n 0, 1) := by decide +kernel
theorem dX6_exchange_211 : decode cX6_exchange 211 = .ok (.iload_n 1, 1) := by decide +kernel
theorem dX6_exchange_212 : decode cX6_exchange 212 = .ok (.iload 7, 2) := by decide +kernel
theorem dX6_exchange_214 : decode cX6_exchange 214 = .ok (.invokevirtual 42, 3) := by decide +kernel
theorem dX6_exchange_217 : decode cX6_exchange 217 = .ok (.invokestatic 24, 3) := by decide +kernel
theorem dX6_exchange_220 : decode cX6_exchange 220 = .ok (.iload_n 2, 1) := by decide +kernel
theorem dX6_exchange_221 : decode cX6_exchange 221 = .ok (.iastore, 1) := by decide +kernel
theorem dX6_exchange_222 : decode cX6_exchange 222 = .ok (.aload_n 0, 1) := by decide +kernel
theorem dX6_exchange_223 : decode cX6_exchange 223 = .ok (.getfield 7, 3) := by decide +kernel
theorem dX6_exchange_226 : decode cX6_exchange 226 = .ok (.bipush 28, 2) := by decide +kernel
theorem dX6_exchange_228 : decode cX6_exchange 228 = .ok (.iload_n 1, 1) := by decide +kernel
theorem dX6_exchange_229 : decode cX6_exchange 229 = .ok (.iadd, 1) := by decide +kernel
theorem dX6_exchange_230 : decode cX6_exchange 230 = .ok (.iconst (-1), 1) := by decide +kernel
theorem dX6_exchange_231 : decode cX6_exchange 231 = .ok (.iastore, 1) := by decide +kernel
theorem dX6_exchange_232 : decode cX6_exchange 232 = .ok (.goto 30, 3) := by decide +kernel
theorem dX6_exchange_235 : decode cX6_exchange 235 = .ok (.aload_n 0, 1) := by decide +kernel
theorem dX6_exchange_236 : decode cX6_exchange 236 = .ok (.getfield 7, 3) := by decide +kernel
theorem dX6_exchange_239 : decode cX6_exchange 239 = .ok (.iload_n 1, 1) := by decide +kernel
theorem dX6_exchange_240 : decode cX6_exchange 240 = .ok (.aload_n 0, 1) := by decide +kernel
theorem dX6_exchange_241 : decode cX6_exchange 241 = .ok (.iload_n 1, 1) := by decide +kernel
theorem dX6_exchange_242 : decode cX6_exchange 242 = .ok (.iload_n 2, 1) := by decide +kernel
theorem dX6_exchange_243 : decode cX6_exchange 243 = .ok (.invokevirtual 42, 3) := by decide +kernel
theorem dX6_exchange_246 : decode cX6_exchange 246 = .ok (.invokestatic 24, 3) := by decide +kernel
theorem dX6_exchange_249 : decode cX6_exchange 249 = .ok (.iload 7, 2) := by decide +kernel
theorem dX6_exchange_251 : decode cX6_exchange 251 = .ok (.iastore, 1) := by decide +kernel
theorem dX6_exchange_252 : decode cX6_exchange 252 = .ok (.aload_n 0, 1) := by decide +kernel
theorem dX6_exchange_253 : decode cX6_exchange 253 = .ok (.getfield 7, 3) := by decide +kernel
theorem dX6_exchange_256 : decode cX6_exchange 256 = .ok (.bipush 28, 2) := by decide +kernel
theorem dX6_exchange_258 : decode cX6_exchange 258 = .ok (.iload_n 1, 1) := by decide +kernel
theorem dX6_exchange_259 : decode cX6_exchange 259 = .ok (.iadd, 1) := by decide +kernel
theorem dX6_exchange_260 : decode cX6_exchange 260 = .ok (.iload_n 2, 1) := by decide +kernel
theorem dX6_exchange_261 : decode cX6_exchange 261 = .ok (.iastore, 1) := by decide +kernel
theorem dX6_exchange_262 : decode cX6_exchange 262 = .ok (.iload 5, 2) := by decide +kernel
theorem dX6_exchange_264 : decode cX6_exchange 264 = .ok (.ifCond .ne 7, 3) := by decide +kernel
theorem dX6_exchange_267 : decode cX6_exchange 267 = .ok (.iconst 1, 1) := by decide +kernel
theorem dX6_exchange_268 : decode cX6_exchange 268 = .ok (.goto 4, 3) := by decide +kernel
theorem dX6_exchange_271 : decode cX6_exchange 271 = .ok (.iconst 0, 1) := by decide +kernel
theorem dX6_exchange_272 : decode cX6_exchange 272 = .ok (.ireturn, 1) := by decide +kernel
theorem dX6_pair_0 : decode cX6_pair 0 = .ok (.iconst (-1), 1) := by decide +kernel
theorem dX6_pair_1 : decode cX6_pair 1 = .ok (.istore_n 3, 1) := by decide +kernel
theorem dX6_pair_2 : decode cX6_pair 2 = .ok (.iconst 0, 1) := by decide +kernel
theorem dX6_pair_3 : decode cX6_pair 3 = .ok (.istore 4, 2) := by decide +kernel
theorem dX6_pair_5 : decode cX6_pair 5 = .ok (.iload 4, 2) := by decide +kernel
theorem dX6_pair_7 : decode cX6_pair 7 = .ok (.aload_n 0, 1) := by decide +kernel
theorem dX6_pair_8 : decode cX6_pair 8 = .ok (.getfield 7, 3) := by decide +kernel
theorem dX6_pair_11 : decode cX6_pair 11 = .ok (.bipush 78, 2) := by decide +kernel
theorem dX6_pair_13 : decode cX6_pair 13 = .ok (.iload_n 1, 1) := by decide +kernel
theorem dX6_pair_14 : decode cX6_pair 14 = .ok (.iadd, 1) := by decide +kernel
theorem dX6_pair_15 : decode cX6_pair 15 = .ok (.iaload, 1) := by decide +kernel
theorem dX6_pair_16 : decode cX6_pair 16 = .ok (.if_icmp .ge 54, 3) := by decide +kernel
theorem dX6_pair_19 : decode cX6_pair 19 = .ok (.bipush 42, 2) := by decide +kernel
theorem dX6_pair_21 : decode cX6_pair 21 = .ok (.bipush 18, 2) := by decide +kernel
theorem dX6_pair_23 : decode cX6_pair 23 = .ok (.iload_n 1, 1) := by decide +kernel
theorem dX6_pair_24 : decode cX6_pair 24 = .ok (.imul, 1) := by decide +kernel
theorem dX6_pair_25 : decode cX6_pair 25 = .ok (.iadd, 1) := by decide +kernel
theorem dX6_pair_26 : decode cX6_pair 26 = .ok (.iconst 3, 1) := by decide +kernel
theorem dX6_pair_27 : decode cX6_pair 27 = .ok (.iload 4, 2) := by decide +kernel
theorem dX6_pair_29 : decode cX6_pair 29 = .ok (.imul, 1) := by decide +kernel
theorem dX6_pair_30 : decode cX6_pair 30 = .ok (.iadd, 1) := by decide +kernel
theorem dX6_pair_31 : decode cX6_pair 31 = .ok (.istore 5, 2) := by decide +kernel
theorem dX6_pair_33 : decode cX6_pair 33 = .ok (.aload_n 0, 1) := by decide +kernel
theorem dX6_pair_34 : decode cX6_pair 34 = .ok (.getfield 7, 3) := by decide +kernel
theorem dX6_pair_37 : decode cX6_pair 37 = .ok (.iload 5, 2) := by decide +kernel
theorem dX6_pair_39 : decode cX6_pair 39 = .ok (.iaload, 1) := by decide +kernel
theorem dX6_pair_40 : decode cX6_pair 40 = .ok (.iload_n 2, 1) := by decide +kernel
theorem dX6_pair_41 : decode cX6_pair 41 = .ok (.if_icmp .eq 16, 3) := by decide +kernel
theorem dX6_pair_44 : decode cX6_pair 44 = .ok (.aload_n 0, 1) := by decide +kernel
theorem dX6_pair_45 : decode cX6_pair 45 = .ok (.getfield 7, 3) := by decide +kernel
theorem dX6_pair_48 : decode cX6_pair 48 = .ok (.iload 5, 2) := by decide +kernel
theorem dX6_pair_50 : decode cX6_pair 50 = .ok (.iconst 1, 1) := by decide +kernel
theorem dX6_pair_51 : decode cX6_pair 51 = .ok (.iadd, 1) := by decide +kernel
theorem dX6_pair_52 : decode cX6_pair 52 = .ok (.iaload, 1) := by decide +kernel
theorem dX6_pair_53 : decode cX6_pair 53 = .ok (.iload_n 2, 1) := by decide +kernel
theorem dX6_pair_54 : decode cX6_pair 54 = .ok (.if_icmp .ne 8, 3) := by decide +kernel
theorem dX6_pair_57 : decode cX6_pair 57 = .ok (.iload 5, 2) := by decide +kernel
theorem dX6_pair_59 : decode cX6_pair 59 = .ok (.goto 4, 3) := by decide +kernel
theorem dX6_pair_62 : decode cX6_pair 62 = .ok (.iload_n 3, 1) := by decide +kernel
theorem dX6_pair_63 : decode cX6_pair 63 = .ok (.istore_n 3, 1) := by decide +kernel
theorem dX6_pair_64 : decode cX6_pair 64 = .ok (.iinc 4 1, 3) := by decide +kernel
theorem dX6_pair_67 : decode cX6_pair 67 = .ok (.goto (-62), 3) := by decide +kernel
theorem dX6_pair_70 : decode cX6_pair 70 = .ok (.iload_n 3, 1) := by decide +kernel
theorem dX6_pair_71 : decode cX6_pair 71 = .ok (.ireturn, 1) := by decide +kernel
theorem dX6_substitute_0 : decode cX6_substitute 0 = .ok (.iload_n 1, 1) := by decide +kernel
theorem dX6_substitute_1 : decode cX6_substitute 1 = .ok (.invokestatic 28, 3) := by decide +kernel
theorem dX6_substitute_4 : decode cX6_substitute 4 = .ok (.ifCond .eq 21, 3) := by decide +kernel
theorem dX6_substitute_7 : decode cX6_substitute 7 = .ok (.iload_n 2, 1) := by decide +kernel
theorem dX6_substitute_8 : decode cX6_substitute 8 = .ok (.invokestatic 32, 3) := by decide +kernel
theorem dX6_substitute_11 : decode cX6_substitute 11 = .ok (.ifCond .eq 14, 3) := by decide +kernel
theorem dX6_substitute_14 : decode cX6_substitute 14 = .ok (.iload_n 3, 1) := by decide +kernel
theorem dX6_substitute_15 : decode cX6_substitute 15 = .ok (.invokestatic 32, 3) := by decide +kernel
theorem dX6_substitute_18 : decode cX6_substitute 18 = .ok (.ifCond .eq 7, 3) := by decide +kernel
theorem dX6_substitute_21 : decode cX6_substitute 21 = .ok (.iconst 1, 1) := by decide +kernel
theorem dX6_substitute_22 : decode cX6_substitute 22 = .ok (.goto 4, 3) := by decide +kernel
theorem dX6_substitute_25 : decode cX6_substitute 25 = .ok (.iconst 0, 1) := by decide +kernel
theorem dX6_substitute_26 : decode cX6_substitute 26 = .ok (.istore 4, 2) := by decide +kernel
theorem dX6_substitute_28 : decode cX6_substitute 28 = .ok (.iload 4, 2) := by decide +kernel
theorem dX6_substitute_30 : decode cX6_substitute 30 = .ok (.ifCond .eq 40, 3) := by decide +kernel
theorem dX6_substitute_33 : decode cX6_substitute 33 = .ok (.aload_n 0, 1) := by decide +kernel
theorem dX6_substitute_34 : decode cX6_substitute 34 = .ok (.getfield 7, 3) := by decide +kernel
theorem dX6_substitute_37 : decode cX6_substitute 37 = .ok (.iconst 0, 1) := by decide +kernel
theorem dX6_substitute_38 : decode cX6_substitute 38 = .ok (.iaload, 1) := by decide +kernel
theorem dX6_substitute_39 : decode cX6_substitute 39 = .ok (.iconst 1, 1) := by decide +kernel
theorem dX6_substitute_40 : decode cX6_substitute 40 = .ok (.if_icmp .ne 30, 3) := by decide +kernel
theorem dX6_substitute_43 : decode cX6_substitute 43 = .ok (.aload_n 0, 1) := by decide +kernel
theorem dX6_substitute_44 : decode cX6_substitute 44 = .ok (.getfield 7, 3) := by decide +kernel
theorem dX6_substitute_47 : decode cX6_substitute 47 = .ok (.iconst 1, 1) := by decide +kernel
theorem dX6_substitute_48 : decode cX6_substitute 48 = .ok (.iaload, 1) := by decide +kernel
theorem dX6_substitute_49 : decode cX6_substitute 49 = .ok (.ifCond .ne 21, 3) := by decide +kernel
theorem dX6_substitute_52 : decode cX6_substitute 52 = .ok (.aload_n 0, 1) := by decide +kernel
theorem dX6_substitute_53 : decode cX6_substitute 53 = .ok (.getfield 7, 3) := by decide +kernel
theorem dX6_substitute_56 : decode cX6_substitute 56 = .ok (.bipush 32, 2) := by decide +kernel
theorem dX6_substitute_58 : decode cX6_substitute 58 = .ok (.iload_n 1, 1) := by decide +kernel
theorem dX6_substitute_59 : decode cX6_substitute 59 = .ok (.iadd, 1) := by decide +kernel
theorem dX6_substitute_60 : decode cX6_substitute 60 = .ok (.iaload, 1) := by decide +kernel
theorem dX6_substitute_61 : decode cX6_substitute 61 = .ok (.bipush 6, 2) := by decide +kernel
theorem dX6_substitute_63 : decode cX6_substitute 63 = .ok (.if_icmp .ge 7, 3) := by decide +kernel
theorem dX6_substitute_66 : decode cX6_substitute 66 = .ok (.iconst 1, 1) := by decide +kernel
theorem dX6_substitute_67 : decode cX6_substitute 67 = .ok (.goto 4, 3) := by decide +kernel
theorem dX6_substitute_70 : decode cX6_substitute 70 = .ok (.iconst 0, 1) := by decide +kernel
theorem dX6_substitute_71 : decode cX6_substitute 71 = .ok (.istore 5, 2) := by decide +kernel
theorem dX6_substitute_73 : decode cX6_substitute 73 = .ok (.iload 5, 2) := by decide +kernel
theorem dX6_substitute_75 : decode cX6_substitute 75 = .ok (.ifCond .eq 64, 3) := by decide +kernel
theorem dX6_substitute_78 : decode cX6_substitute 78 = .ok (.aload_n 0, 1) := by decide +kernel
theorem dX6_substitute_79 : decode cX6_substitute 79 = .ok (.iload_n 1, 1) := by decide +kernel
theorem dX6_substitute_80 : decode cX6_substitute 80 = .ok (.iload_n 2, 1) := by decide +kernel
theorem dX6_substitute_81 : decode cX6_substitute 81 = .ok (.invokevirtual 42, 3) := by decide +kernel
theorem dX6_substitute_84 : decode cX6_substitute 84 = .ok (.ifCond .le 55, 3) := by decide +kernel
theorem dX6_substitute_87 : decode cX6_substitute 87 = .ok (.iload_n 2, 1) := by decide +kernel
theorem dX6_substitute_88 : decode cX6_substitute 88 = .ok (.aload_n 0, 1) := by decide +kernel
theorem dX6_substitute_89 : decode cX6_substitute 89 = .ok (.getfield 7, 3) := by decide +kernel
theorem dX6_substitute_92 : decode cX6_substitute 92 = .ok (.bipush 26, 2) := by decide +kernel
theorem dX6_substitute_94 : decode cX6_substitute 94 = .ok (.iload_n 1, 1) := by decide +kernel
theorem dX6_substitute_95 : decode cX6_substitute 95 = .ok (.iadd, 1) := by decide +kernel
theorem dX6_substitute_96 : decode cX6_substitute 96 = .ok (.iaload, 1) := by decide +kernel
theorem dX6_substitute_97 : decode cX6_substitute 97 = .ok (.if_icmp .eq 42, 3) := by decide +kernel
theorem dX6_substitute_100 : decode cX6_substitute 100 = .ok (.aload_n 0, 1) := by decide +kernel
theorem dX6_substitute_101 : decode cX6_substitute 101 = .ok (.iload_n 1, 1) := by decide +kernel
theorem dX6_substitute_102 : decode cX6_substitute 102 = .ok (.iload_n 3, 1) := by decide +kernel
theorem dX6_substitute_103 : decode cX6_substitute 103 = .ok (.invokevirtual 42, 3) := by decide +kernel
theorem dX6_substitute_106 : decode cX6_substitute 106 = .ok (.ifCond .ne 33, 3) := by decide +kernel
theorem dX6_substitute_109 : decode cX6_substitute 109 = .ok (.iload_n 3, 1) := by decide +kernel
theorem dX6_substitute_110 : decode cX6_substitute 110 = .ok (.aload_n 0, 1) := by decide +kernel
theorem dX6_substitute_111 : decode cX6_substitute 111 = .ok (.getfield 7, 3) := by decide +kernel
theorem dX6_substitute_114 : decode cX6_substitute 114 = .ok (.bipush 26, 2) := by decide +kernel
theorem dX6_substitute_116 : decode cX6_substitute 116 = .ok (.iload_n 1, 1) := by decide +kernel
theorem dX6_substitute_117 : decode cX6_substitute 117 = .ok (.iadd, 1) := by decide +kernel
theorem dX6_substitute_118 : decode cX6_substitute 118 = .ok (.iaload, 1) := by decide +kernel
theorem dX6_substitute_119 : decode cX6_substitute 119 = .ok (.if_icmp .eq 20, 3) := by decide +kernel
theorem dX6_substitute_122 : decode cX6_substitute 122 = .ok (.iload_n 3, 1) := by decide +kernel
theorem dX6_substitute_123 : decode cX6_substitute 123 = .ok (.aload_n 0, 1) := by decide +kernel
theorem dX6_substitute_124 : decode cX6_substitute 124 = .ok (.getfield 7, 3) := by decide +kernel
theorem dX6_substitute_127 : decode cX6_substitute 127 = .ok (.bipush 28, 2) := by decide +kernel
theorem dX6_substitute_129 : decode cX6_substitute 129 = .ok (.iload_n 1, 1) := by decide +kernel
theorem dX6_substitute_130 : decode cX6_substitute 130 = .ok (.iadd, 1) := by decide +kernel
theorem dX6_substitute_131 : decode cX6_substitute 131 = .ok (.iaload, 1) := by decide +kernel
theorem dX6_substitute_132 : decode cX6_substitute 132 = .ok (.if_icmp .eq 7, 3) := by decide +kernel
theorem dX6_substitute_135 : decode cX6_substitute 135 = .ok (.iconst 1, 1) := by decide +kernel
theorem dX6_substitute_136 : decode cX6_substitute 136 = .ok (.goto 4, 3) := by decide +kernel
theorem dX6_substitute_139 : decode cX6_substitute 139 = .ok (.iconst 0, 1) := by decide +kernel
theorem dX6_substitute_140 : decode cX6_substitute 140 = .ok (.istore 6, 2) := by decide +kernel
theorem dX6_substitute_142 : decode cX6_substitute 142 = .ok (.iload 6, 2) := by decide +kernel
theorem dX6_substitute_144 : decode cX6_substitute 144 = .ok (.ifCond .eq 12, 3) := by decide +kernel
theorem dX6_substitute_147 : decode cX6_substitute 147 = .ok (.aload_n 0, 1) := by decide +kernel
theorem dX6_substitute_148 : decode cX6_substitute 148 = .ok (.iload_n 1, 1) := by decide +kernel
theorem dX6_substitute_149 : decode cX6_substitute 149 = .ok (.iload_n 2, 1) := by decide +kernel
theorem dX6_substitute_150 : decode cX6_substitute 150 = .ok (.invokevirtual 69, 3) := by decide +kernel
theorem dX6_substitute_153 : decode cX6_substitute 153 = .ok (.goto 4, 3) := by decide +kernel
theorem dX6_substitute_156 : decode cX6_substitute 156 = .ok (.iconst (-1), 1) := by decide +kernel
theorem dX6_substitute_157 : decode cX6_substitute 157 = .ok (.istore 7, 2) := by decide +kernel
theorem dX6_substitute_159 : decode cX6_substitute 159 = .ok (.iload 6, 2) := by decide +kernel
theorem dX6_substitute_161 : decode cX6_substitute 161 = .ok (.ifCond .eq 12, 3) := by decide +kernel
theorem dX6_substitute_164 : decode cX6_substitute 164 = .ok (.aload_n 0, 1) := by decide +kernel
theorem dX6_substitute_165 : decode cX6_substitute 165 = .ok (.iload_n 1, 1) := by decide +kernel
theorem dX6_substitute_166 : decode cX6_substitute 166 = .ok (.iload_n 3, 1) := by decide +kernel
theorem dX6_substitute_167 : decode cX6_substitute 167 = .ok (.invokevirtual 69, 3) := by decide +kernel
theorem dX6_substitute_170 : decode cX6_substitute 170 = .ok (.goto 4, 3) := by decide +kernel
theorem dX6_substitute_173 : decode cX6_substitute 173 = .ok (.iconst (-1), 1) := by decide +kernel
theorem dX6_substitute_174 : decode cX6_substitute 174 = .ok (.istore 8, 2) := by decide +kernel
theorem dX6_substitute_176 : decode cX6_substitute 176 = .ok (.iload 7, 2) := by decide +kernel
theorem dX6_substitute_178 : decode cX6_substitute 178 = .ok (.iconst (-1), 1) := by decide +kernel
theorem dX6_substitute_179 : decode cX6_substitute 179 = .ok (.if_icmp .eq 40, 3) := by decide +kernel
theorem dX6_substitute_182 : decode cX6_substitute 182 = .ok (.iload 7, 2) := by decide +kernel
theorem dX6_substitute_184 : decode cX6_substitute 184 = .ok (.iload 8, 2) := by decide +kernel
theorem dX6_substitute_186 : decode cX6_substitute 186 = .ok (.if_icmp .ne 33, 3) := by decide +kernel
theorem dX6_substitute_189 : decode cX6_substitute 189 = .ok (.aload_n 0, 1) := by decide +kernel
theorem dX6_substitute_190 : decode cX6_substitute 190 = .ok (.getfield 7, 3) := by decide +kernel
theorem dX6_substitute_193 : decode cX6_substitute 193 = .ok (.iload 7, 2) := by decide +kernel
theorem dX6_substitute_195 : decode cX6_substitute 195 = .ok (.iconst 2, 1) := by decide +kernel
theorem dX6_substitute_196 : decode cX6_substitute 196 = .ok (.iadd, 1) := by decide +kernel
theorem dX6_substitute_197 : decode cX6_substitute 197 = .ok (.iaload, 1) := by decide +kernel
theorem dX6_substitute_198 : decode cX6_substitute 198 = .ok (.iconst 1, 1) := by decide +kernel
theorem dX6_substitute_199 : decode cX6_substitute 199 = .ok (.if_icmp .ne 20, 3) := by decide +kernel
theorem dX6_substitute_202 : decode cX6_substitute 202 = .ok (.aload_n 0, 1) := by decide +kernel
theorem dX6_substitute_203 : decode cX6_substitute 203 = .ok (.getfield 7, 3) := by decide +kernel
theorem dX6_substitute_206 : decode cX6_substitute 206 = .ok (.iload 7, 2) := by decide +kernel
theorem dX6_substitute_208 : decode cX6_substitute 208 = .ok (.iconst 1, 1) := by decide +kernel
theorem dX6_substitute_209 : decode cX6_substitute 209 = .ok (.iadd, 1) := by decide +kernel
theorem dX6_substitute_210 : decode cX6_substitute 210 = .ok (.iaload, 1) := by decide +kernel
theorem dX6_substitute_211 : decode cX6_substitute 211 = .ok (.iload_n 2, 1) := by decide +kernel
theorem dX6_substitute_212 : decode cX6_substitute 212 = .ok (.if_icmp .ne 7, 3) := by decide +kernel
theorem dX6_substitute_215 : decode cX6_substitute 215 = .ok (.iconst 1, 1) := by decide +kernel
theorem dX6_substitute_216 : decode cX6_substitute 216 = .ok (.goto 4, 3) := by decide +kernel
theorem dX6_substitute_219 : decode cX6_substitute 219 = .ok (.iconst 0, 1) := by decide +kernel
theorem dX6_substitute_220 : decode cX6_substitute 220 = .ok (.istore 9, 2) := by decide +kernel
theorem dX6_substitute_222 : decode cX6_substitute 222 = .ok (.aload_n 0, 1) := by decide +kernel
theorem dX6_substitute_223 : decode cX6_substitute 223 = .ok (.iload 4, 2) := by decide +kernel
theorem dX6_substitute_225 : decode cX6_substitute 225 = .ok (.ifCond .ne 7, 3) := by decide +kernel
theorem dX6_substitute_228 : decode cX6_substitute 228 = .ok (.iconst 1, 1) := by decide +kernel
theorem dX6_substitute_229 : decode cX6_substitute 229 = .ok (.goto 30, 3) := by decide +kernel
theorem dX6_substitute_232 : decode cX6_substitute 232 = .ok (.iload 6, 2) := by decide +kernel
theorem dX6_substitute_234 : decode cX6_substitute 234 = .ok (.ifCond .eq 24, 3) := by decide +kernel
theorem dX6_substitute_237 : decode cX6_substitute 237 = .ok (.iload 9, 2) := by decide +kernel
theorem dX6_substitute_239 : decode cX6_substitute 239 = .ok (.ifCond .ne 15, 3) := by decide +kernel
theorem dX6_substitute_242 : decode cX6_substitute 242 = .ok (.iload 7, 2) := by decide +kernel
theorem dX6_substitute_244 : decode cX6_substitute 244 = .ok (.iconst (-1), 1) := by decide +kernel
theorem dX6_substitute_245 : decode cX6_substitute 245 = .ok (.if_icmp .ne 13, 3) := by decide +kernel
theorem dX6_substitute_248 : decode cX6_substitute 248 = .ok (.iload 8, 2) := by decide +kernel
theorem dX6_substitute_250 : decode cX6_substitute 250 = .ok (.iconst (-1), 1) := by decide +kernel
theorem dX6_substitute_251 : decode cX6_substitute 251 = .ok (.if_icmp .ne 7, 3) := by decide +kernel
theorem dX6_substitute_254 : decode cX6_substitute 254 = .ok (.iconst 0, 1) := by decide +kernel
theorem dX6_substitute_255 : decode cX6_substitute 255 = .ok (.goto 4, 3) := by decide +kernel
theorem dX6_substitute_258 : decode cX6_substitute 258 = .ok (.iconst 2, 1) := by decide +kernel
theorem dX6_substitute_259 : decode cX6_substitute 259 = .ok (.invokevirtual 39, 3) := by decide +kernel
theorem dX6_substitute_262 : decode cX6_substitute 262 = .ok (.ifCond .ne 5, 3) := by decide +kernel
theorem dX6_substitute_265 : decode cX6_substitute 265 = .ok (.iconst 0, 1) := by decide +kernel
theorem dX6_substitute_266 : decode cX6_substitute 266 = .ok (.ireturn, 1) := by decide +kernel
theorem dX6_substitute_267 : decode cX6_substitute 267 = .ok (.aload_n 0, 1) := by decide +kernel
theorem dX6_substitute_268 : decode cX6_substitute 268 = .ok (.getfield 7, 3) := by decide +kernel
theorem dX6_substitute_271 : decode cX6_substitute 271 = .ok (.bipush 41, 2) := by decide +kernel
theorem dX6_substitute_273 : decode cX6_substitute 273 = .ok (.iconst 0, 1) := by decide +kernel
theorem dX6_substitute_274 : decode cX6_substitute 274 = .ok (.iastore, 1) := by decide +kernel
theorem dX6_substitute_275 : decode cX6_substitute 275 = .ok (.iload 9, 2) := by decide +kernel
theorem dX6_substitute_277 : decode cX6_substitute 277 = .ok (.ifCond .eq 16, 3) := by decide +kernel
theorem dX6_substitute_280 : decode cX6_substitute 280 = .ok (.aload_n 0, 1) := by decide +kernel
theorem dX6_substitute_281 : decode cX6_substitute 281 = .ok (.getfield 7, 3) := by decide +kernel
theorem dX6_substitute_284 : decode cX6_substitute 284 = .ok (.iload 7, 2) := by decide +kernel
theorem dX6_substitute_286 : decode cX6_substitute 286 = .ok (.iconst 2, 1) := by decide +kernel
theorem dX6_substitute_287 : decode cX6_substitute 287 = .ok (.iadd, 1) := by decide +kernel
theorem dX6_substitute_288 : decode cX6_substitute 288 = .ok (.iconst 2, 1) := by decide +kernel
theorem dX6_substitute_289 : decode cX6_substitute 289 = .ok (.iastore, 1) := by decide +kernel
theorem dX6_substitute_290 : decode cX6_substitute 290 = .ok (.goto 65, 3) := by decide +kernel
theorem dX6_substitute_293 : decode cX6_substitute 293 = .ok (.bipush 42, 2) := by decide +kernel
theorem dX6_substitute_295 : decode cX6_substitute 295 = .ok (.bipush 18, 2) := by decide +kernel
theorem dX6_substitute_297 : decode cX6_substitute 297 = .ok (.iload_n 1, 1) := by decide +kernel
theorem dX6_substitute_298 : decode cX6_substitute 298 = .ok (.imul, 1) := by decide +kernel
theorem dX6_substitute_299 : decode cX6_substitute 299 = .ok (.iadd, 1) := by decide +kernel
theorem dX6_substitute_300 : decode cX6_substitute 300 = .ok (.iconst 3, 1) := by decide +kernel
theorem dX6_substitute_301 : decode cX6_substitute 301 = .ok (.aload_n 0, 1) := by decide +kernel
theorem dX6_substitute_302 : decode cX6_substitute 302 = .ok (.getfield 7, 3) := by decide +kernel
theorem dX6_substitute_305 : decode cX6_substitute 305 = .ok (.bipush 78, 2) := by decide +kernel
theorem dX6_substitute_307 : decode cX6_substitute 307 = .ok (.iload_n 1, 1) := by decide +kernel
theorem dX6_substitute_308 : decode cX6_substitute 308 = .ok (.iadd, 1) := by decide +kernel
theorem dX6_substitute_309 : decode cX6_substitute 309 = .ok (.iaload, 1) := by decide +kernel
theorem dX6_substitute_310 : decode cX6_substitute 310 = .ok (.imul, 1) := by decide +kernel
theorem dX6_substitute_311 : decode cX6_substitute 311 = .ok (.iadd, 1) := by decide +kernel
theorem dX6_substitute_312 : decode cX6_substitute 312 = .ok (.istore 10, 2) := by decide +kernel
theorem dX6_substitute_314 : decode cX6_substitute 314 = .ok (.aload_n 0, 1) := by decide +kernel
theorem dX6_substitute_315 : decode cX6_substitute 315 = .ok (.getfield 7, 3) := by decide +kernel
theorem dX6_substitute_318 : decode cX6_substitute 318 = .ok (.iload 10, 2) := by decide +kernel
theorem dX6_substitute_320 : decode cX6_substitute 320 = .ok (.iload_n 2, 1) := by decide +kernel
theorem dX6_substitute_321 : decode cX6_substitute 321 = .ok (.iastore, 1) := by decide +kernel
theorem dX6_substitute_322 : decode cX6_substitute 322 = .ok (.aload_n 0, 1) := by decide +kernel
theorem dX6_substitute_323 : decode cX6_substitute 323 = .ok (.getfield 7, 3) := by decide +kernel
theorem dX6_substitute_326 : decode cX6_substitute 326 = .ok (.iload 10, 2) := by decide +kernel
theorem dX6_substitute_328 : decode cX6_substitute 328 = .ok (.iconst 1, 1) := by decide +kernel
theorem dX6_substitute_329 : decode cX6_substitute 329 = .ok (.iadd, 1) := by decide +kernel
theorem dX6_substitute_330 : decode cX6_substitute 330 = .ok (.iload_n 3, 1) := by decide +kernel
theorem dX6_substitute_331 : decode cX6_substitute 331 = .ok (.iastore, 1) := by decide +kernel
theorem dX6_substitute_332 : decode cX6_substitute 332 = .ok (.aload_n 0, 1) := by decide +kernel
theorem dX6_substitute_333 : decode cX6_substitute 333 = .ok (.getfield 7, 3) := by decide +kernel
theorem dX6_substitute_336 : decode cX6_substitute 336 = .ok (.iload 10, 2) := by decide +kernel
theorem dX6_substitute_338 : decode cX6_substitute 338 = .ok (.iconst 2, 1) := by decide +kernel
theorem dX6_substitute_339 : decode cX6_substitute 339 = .ok (.iadd, 1) := by decide +kernel
theorem dX6_substitute_340 : decode cX6_substitute 340 = .ok (.iconst 1, 1) := by decide +kernel
theorem dX6_substitute_341 : decode cX6_substitute 341 = .ok (.iastore, 1) := by decide +kernel
theorem dX6_substitute_342 : decode cX6_substitute 342 = .ok (.aload_n 0, 1) := by decide +kernel
theorem dX6_substitute_343 : decode cX6_substitute 343 = .ok (.getfield 7, 3) := by decide +kernel
theorem dX6_substitute_346 : decode cX6_substitute 346 = .ok (.bipush 78, 2) := by decide +kernel
theorem dX6_substitute_348 : decode cX6_substitute 348 = .ok (.iload_n 1, 1) := by decide +kernel
theorem dX6_substitute_349 : decode cX6_substitute 349 = .ok (.iadd, 1) := by decide +kernel
theorem dX6_substitute_350 : decode cX6_substitute 350 = .ok (.dup2, 1) := by decide +kernel
theorem dX6_substitute_351 : decode cX6_substitute 351 = .ok (.iaload, 1) := by decide +kernel
theorem dX6_substitute_352 : decode cX6_substitute 352 = .ok (.iconst 1, 1) := by decide +kernel
theorem dX6_substitute_353 : decode cX6_substitute 353 = .ok (.iadd, 1) := by decide +kernel
theorem dX6_substitute_354 : decode cX6_substitute 354 = .ok (.iastore, 1) := by decide +kernel
theorem dX6_substitute_355 : decode cX6_substitute 355 = .ok (.aload_n 0, 1) := by decide +kernel
theorem dX6_substitute_356 : decode cX6_substitute 356 = .ok (.getfield 7, 3) := by decide +kernel
theorem dX6_substitute_359 : decode cX6_substitute 359 = .ok (.iload_n 1, 1) := by decide +kernel
theorem dX6_substitute_360 : decode cX6_substitute 360 = .ok (.aload_n 0, 1) := by decide +kernel
theorem dX6_substitute_361 : decode cX6_substitute 361 = .ok (.iload_n 1, 1) := by decide +kernel
theorem dX6_substitute_362 : decode cX6_substitute 362 = .ok (.iload_n 2, 1) := by decide +kernel
theorem dX6_substitute_363 : decode cX6_substitute 363 = .ok (.invokevirtual 42, 3) := by decide +kernel
theorem dX6_substitute_366 : decode cX6_substitute 366 = .ok (.invokestatic 24, 3) := by decide +kernel
theorem dX6_substitute_369 : decode cX6_substitute 369 = .ok (.iload_n 3, 1) := by decide +kernel
theorem dX6_substitute_370 : decode cX6_substitute 370 = .ok (.iastore, 1) := by decide +kernel
theorem dX6_substitute_371 : decode cX6_substitute 371 = .ok (.aload_n 0, 1) := by decide +kernel
theorem dX6_substitute_372 : decode cX6_substitute 372 = .ok (.getfield 7, 3) := by decide +kernel
theorem dX6_substitute_375 : decode cX6_substitute 375 = .ok (.bipush 32, 2) := by decide +kernel
theorem dX6_substitute_377 : decode cX6_substitute 377 = .ok (.iload_n 1, 1) := by decide +kernel
theorem dX6_substitute_378 : decode cX6_substitute 378 = .ok (.iadd, 1) := by decide +kernel
theorem dX6_substitute_379 : decode cX6_substitute 379 = .ok (.dup2, 1) := by decide +kernel
theorem dX6_substitute_380 : decode cX6_substitute 380 = .ok (.iaload, 1) := by decide +kernel
theorem dX6_substitute_381 : decode cX6_substitute 381 = .ok (.iconst 1, 1) := by decide +kernel
theorem dX6_substitute_382 : decode cX6_substitute 382 = .ok (.iadd, 1) := by decide +kernel
theorem dX6_substitute_383 : decode cX6_substitute 383 = .ok (.iastore, 1) := by decide +kernel
theorem dX6_substitute_384 : decode cX6_substitute 384 = .ok (.aload_n 0, 1) := by decide +kernel
theorem dX6_substitute_385 : decode cX6_substitute 385 = .ok (.getfield 7, 3) := by decide +kernel
theorem dX6_substitute_388 : decode cX6_substitute 388 = .ok (.bipush 32, 2) := by decide +kernel
theorem dX6_substitute_390 : decode cX6_substitute 390 = .ok (.iload_n 1, 1) := by decide +kernel
theorem dX6_substitute_391 : decode cX6_substitute 391 = .ok (.iadd, 1) := by decide +kernel
theorem dX6_substitute_392 : decode cX6_substitute 392 = .ok (.iaload, 1) := by decide +kernel
theorem dX6_substitute_393 : decode cX6_substitute 393 = .ok (.ireturn, 1) := by decide +kernel
theorem dX6_challenge_0 : decode cX6_challenge 0 = .ok (.iload_n 1, 1) := by decide +kernel
theorem dX6_challenge_1 : decode cX6_challenge 1 = .ok (.invokestatic 28, 3) := by decide +kernel
theorem dX6_challenge_4 : decode cX6_challenge 4 = .ok (.istore_n 2, 1) := by decide +kernel
theorem dX6_challenge_5 : decode cX6_challenge 5 = .ok (.iload_n 2, 1) := by decide +kernel
theorem dX6_challenge_6 : decode cX6_challenge 6 = .ok (.ifCond .eq 41, 3) := by decide +kernel
theorem dX6_challenge_9 : decode cX6_challenge 9 = .ok (.aload_n 0, 1) := by decide +kernel
theorem dX6_challenge_10 : decode cX6_challenge 10 = .ok (.getfield 7, 3) := by decide +kernel
theorem dX6_challenge_13 : decode cX6_challenge 13 = .ok (.bipush 41, 2) := by decide +kernel
theorem dX6_challenge_15 : decode cX6_challenge 15 = .ok (.iaload, 1) := by decide +kernel
theorem dX6_challenge_16 : decode cX6_challenge 16 = .ok (.iconst 1, 1) := by decide +kernel
theorem dX6_challenge_17 : decode cX6_challenge 17 = .ok (.if_icmp .ne 30, 3) := by decide +kernel
theorem dX6_challenge_20 : decode cX6_challenge 20 = .ok (.aload_n 0, 1) := by decide +kernel
theorem dX6_challenge_21 : decode cX6_challenge 21 = .ok (.getfield 7, 3) := by decide +kernel
theorem dX6_challenge_24 : decode cX6_challenge 24 = .ok (.bipush 40, 2) := by decide +kernel
theorem dX6_challenge_26 : decode cX6_challenge 26 = .ok (.iaload, 1) := by decide +kernel
theorem dX6_challenge_27 : decode cX6_challenge 27 = .ok (.iload_n 1, 1) := by decide +kernel
theorem dX6_challenge_28 : decode cX6_challenge 28 = .ok (.if_icmp .ne 19, 3) := by decide +kernel
theorem dX6_challenge_31 : decode cX6_challenge 31 = .ok (.aload_n 0, 1) := by decide +kernel
theorem dX6_challenge_32 : decode cX6_challenge 32 = .ok (.getfield 7, 3) := by decide +kernel
theorem dX6_challenge_35 : decode cX6_challenge 35 = .ok (.bipush 34, 2) := by decide +kernel
theorem dX6_challenge_37 : decode cX6_challenge 37 = .ok (.iload_n 1, 1) := by decide +kernel
theorem dX6_challenge_38 : decode cX6_challenge 38 = .ok (.iadd, 1) := by decide +kernel
theorem dX6_challenge_39 : decode cX6_challenge 39 = .ok (.iaload, 1) := by decide +kernel
theorem dX6_challenge_40 : decode cX6_challenge 40 = .ok (.ifCond .le 7, 3) := by decide +kernel
theorem dX6_challenge_43 : decode cX6_challenge 43 = .ok (.iconst 1, 1) := by decide +kernel
theorem dX6_challenge_44 : decode cX6_challenge 44 = .ok (.goto 4, 3) := by decide +kernel
theorem dX6_challenge_47 : decode cX6_challenge 47 = .ok (.iconst 0, 1) := by decide +kernel
theorem dX6_challenge_48 : decode cX6_challenge 48 = .ok (.istore_n 3, 1) := by decide +kernel
theorem dX6_challenge_49 : decode cX6_challenge 49 = .ok (.aload_n 0, 1) := by decide +kernel
theorem dX6_challenge_50 : decode cX6_challenge 50 = .ok (.iload_n 2, 1) := by decide +kernel
theorem dX6_challenge_51 : decode cX6_challenge 51 = .ok (.ifCond .ne 7, 3) := by decide +kernel
theorem dX6_challenge_54 : decode cX6_challenge 54 = .ok (.iconst 1, 1) := by decide +kernel
theorem dX6_challenge_55 : decode cX6_challenge 55 = .ok (.goto 12, 3) := by decide +kernel
theorem dX6_challenge_58 : decode cX6_challenge 58 = .ok (.iload_n 3, 1) := by decide +kernel
theorem dX6_challenge_59 : decode cX6_challenge 59 = .ok (.ifCond .eq 7, 3) := by decide +kernel
theorem dX6_challenge_62 : decode cX6_challenge 62 = .ok (.iconst 0, 1) := by decide +kernel
theorem dX6_challenge_63 : decode cX6_challenge 63 = .ok (.goto 4, 3) := by decide +kernel
theorem dX6_challenge_66 : decode cX6_challenge 66 = .ok (.iconst 2, 1) := by decide +kernel
theorem dX6_challenge_67 : decode cX6_challenge 67 = .ok (.invokevirtual 39, 3) := by decide +kernel
theorem dX6_challenge_70 : decode cX6_challenge 70 = .ok (.ifCond .ne 5, 3) := by decide +kernel
theorem dX6_challenge_73 : decode cX6_challenge 73 = .ok (.iconst 0, 1) := by decide +kernel
theorem dX6_challenge_74 : decode cX6_challenge 74 = .ok (.ireturn, 1) := by decide +kernel
theorem dX6_challenge_75 : decode cX6_challenge 75 = .ok (.aload_n 0, 1) := by decide +kernel
theorem dX6_challenge_76 : decode cX6_challenge 76 = .ok (.getfield 7, 3) := by decide +kernel
theorem dX6_challenge_79 : decode cX6_challenge 79 = .ok (.bipush 39, 2) := by decide +kernel
theorem dX6_challenge_81 : decode cX6_challenge 81 = .ok (.iload_n 1, 1) := by decide +kernel
theorem dX6_challenge_82 : decode cX6_challenge 82 = .ok (.isub, 1) := by decide +kernel
theorem dX6_challenge_83 : decode cX6_challenge 83 = .ok (.iaload, 1) := by decide +kernel
theorem dX6_challenge_84 : decode cX6_challenge 84 = .ok (.ifCond .ne 26, 3) := by decide +kernel
theorem dX6_challenge_87 : decode cX6_challenge 87 = .ok (.aload_n 0, 1) := by decide +kernel
theorem dX6_challenge_88 : decode cX6_challenge 88 = .ok (.getfield 7, 3) := by decide +kernel
theorem dX6_challenge_91 : decode cX6_challenge 91 = .ok (.bipush 41, 2) := by decide +kernel
theorem dX6_challenge_93 : decode cX6_challenge 93 = .ok (.iconst 0, 1) := by decide +kernel
theorem dX6_challenge_94 : decode cX6_challenge 94 = .ok (.iastore, 1) := by decide +kernel
theorem dX6_challenge_95 : decode cX6_challenge 95 = .ok (.aload_n 0, 1) := by decide +kernel
theorem dX6_challenge_96 : decode cX6_challenge 96 = .ok (.getfield 7, 3) := by decide +kernel
theorem dX6_challenge_99 : decode cX6_challenge 99 = .ok (.bipush 34, 2) := by decide +kernel
theorem dX6_challenge_101 : decode cX6_challenge 101 = .ok (.iload_n 1, 1) := by decide +kernel
theorem dX6_challenge_102 : decode cX6_challenge 102 = .ok (.iadd, 1) := by decide +kernel
theorem dX6_challenge_103 : decode cX6_challenge 103 = .ok (.dup2, 1) := by decide +kernel
theorem dX6_challenge_104 : decode cX6_challenge 104 = .ok (.iaload, 1) := by decide +kernel
theorem dX6_challenge_105 : decode cX6_challenge 105 = .ok (.iconst 1, 1) := by decide +kernel
theorem dX6_challenge_106 : decode cX6_challenge 106 = .ok (.isub, 1) := by decide +kernel
theorem dX6_challenge_107 : decode cX6_challenge 107 = .ok (.iastore, 1) := by decide +kernel
theorem dX6_challenge_108 : decode cX6_challenge 108 = .ok (.iconst 0, 1) := by decide +kernel
theorem dX6_challenge_109 : decode cX6_challenge 109 = .ok (.ireturn, 1) := by decide +kernel
theorem dX6_challenge_110 : decode cX6_challenge 110 = .ok (.iconst 0, 1) := by decide +kernel
theorem dX6_challenge_111 : decode cX6_challenge 111 = .ok (.istore 4, 2) := by decide +kernel
theorem dX6_challenge_113 : decode cX6_challenge 113 = .ok (.iload 4, 2) := by decide +kernel
theorem dX6_challenge_115 : decode cX6_challenge 115 = .ok (.bipush 92, 2) := by decide +kernel
theorem dX6_challenge_117 : decode cX6_challenge 117 = .ok (.if_icmp .ge 23, 3) := by decide +kernel
theorem dX6_challenge_120 : decode cX6_challenge 120 = .ok (.aload_n 0, 1) := by decide +kernel
theorem dX6_challenge_121 : decode cX6_challenge 121 = .ok (.getfield 7, 3) := by decide +kernel
theorem dX6_challenge_124 : decode cX6_challenge 124 = .ok (.iload 4, 2) := by decide +kernel
theorem dX6_challenge_126 : decode cX6_challenge 126 = .ok (.aload_n 0, 1) := by decide +kernel
theorem dX6_challenge_127 : decode cX6_challenge 127 = .ok (.getfield 13, 3) := by decide +kernel
theorem dX6_challenge_130 : decode cX6_challenge 130 = .ok (.iload 4, 2) := by decide +kernel
theorem dX6_challenge_132 : decode cX6_challenge 132 = .ok (.iaload, 1) := by decide +kernel
theorem dX6_challenge_133 : decode cX6_challenge 133 = .ok (.iastore, 1) := by decide +kernel
theorem dX6_challenge_134 : decode cX6_challenge 134 = .ok (.iinc 4 1, 3) := by decide +kernel
theorem dX6_challenge_137 : decode cX6_challenge 137 = .ok (.goto (-24), 3) := by decide +kernel
theorem dX6_challenge_140 : decode cX6_challenge 140 = .ok (.aload_n 0, 1) := by decide +kernel
theorem dX6_challenge_141 : decode cX6_challenge 141 = .ok (.iload_n 1, 1) := by decide +kernel
theorem dX6_challenge_142 : decode cX6_challenge 142 = .ok (.bipush 8, 2) := by decide +kernel
theorem dX6_challenge_144 : decode cX6_challenge 144 = .ok (.invokevirtual 55, 3) := by decide +kernel
theorem dX6_challenge_147 : decode cX6_challenge 147 = .ok (.aload_n 0, 1) := by decide +kernel
theorem dX6_challenge_148 : decode cX6_challenge 148 = .ok (.getfield 7, 3) := by decide +kernel
theorem dX6_challenge_151 : decode cX6_challenge 151 = .ok (.bipush 41, 2) := by decide +kernel
theorem dX6_challenge_153 : decode cX6_challenge 153 = .ok (.iconst 0, 1) := by decide +kernel
theorem dX6_challenge_154 : decode cX6_challenge 154 = .ok (.iastore, 1) := by decide +kernel
theorem dX6_challenge_155 : decode cX6_challenge 155 = .ok (.iconst 1, 1) := by decide +kernel
theorem dX6_challenge_156 : decode cX6_challenge 156 = .ok (.ireturn, 1) := by decide +kernel
theorem dX6_points_0 : decode cX6_points 0 = .ok (.aload_n 0, 1) := by decide +kernel
theorem dX6_points_1 : decode cX6_points 1 = .ok (.iload_n 1, 1) := by decide +kernel
theorem dX6_points_2 : decode cX6_points 2 = .ok (.invokestatic 28, 3) := by decide +kernel
theorem dX6_points_5 : decode cX6_points 5 = .ok (.ifCond .eq 7, 3) := by decide +kernel
theorem dX6_points_8 : decode cX6_points 8 = .ok (.iconst 0, 1) := by decide +kernel
theorem dX6_points_9 : decode cX6_points 9 = .ok (.goto 4, 3) := by decide +kernel
theorem dX6_points_12 : decode cX6_points 12 = .ok (.iconst 1, 1) := by decide +kernel
theorem dX6_points_13 : decode cX6_points 13 = .ok (.invokevirtual 39, 3) := by decide +kernel
theorem dX6_points_16 : decode cX6_points 16 = .ok (.ifCond .eq 15, 3) := by decide +kernel
theorem dX6_points_19 : decode cX6_points 19 = .ok (.aload_n 0, 1) := by decide +kernel
theorem dX6_points_20 : decode cX6_points 20 = .ok (.getfield 7, 3) := by decide +kernel
theorem dX6_points_23 : decode cX6_points 23 = .ok (.bipush 10, 2) := by decide +kernel
theorem dX6_points_25 : decode cX6_points 25 = .ok (.iload_n 1, 1) := by decide +kernel
theorem dX6_points_26 : decode cX6_points 26 = .ok (.iadd, 1) := by decide +kernel
theorem dX6_points_27 : decode cX6_points 27 = .ok (.iaload, 1) := by decide +kernel
theorem dX6_points_28 : decode cX6_points 28 = .ok (.goto 4, 3) := by decide +kernel
theorem dX6_points_31 : decode cX6_points 31 = .ok (.iconst 0, 1) := by decide +kernel
theorem dX6_points_32 : decode cX6_points 32 = .ok (.ireturn, 1) := by decide +kernel
theorem dX6_pointsAnew_0 : decode cX6_pointsAnew 0 = .ok (.aload_n 0, 1) := by decide +kernel
theorem dX6_pointsAnew_1 : decode cX6_pointsAnew 1 = .ok (.iload_n 1, 1) := by decide +kernel
theorem dX6_pointsAnew_2 : decode cX6_pointsAnew 2 = .ok (.invokestatic 28, 3) := by decide +kernel
theorem dX6_pointsAnew_5 : decode cX6_pointsAnew 5 = .ok (.ifCond .eq 7, 3) := by decide +kernel
theorem dX6_pointsAnew_8 : decode cX6_pointsAnew 8 = .ok (.iconst 0, 1) := by decide +kernel
theorem dX6_pointsAnew_9 : decode cX6_pointsAnew 9 = .ok (.goto 4, 3) := by decide +kernel
theorem dX6_pointsAnew_12 : decode cX6_pointsAnew 12 = .ok (.iconst 1, 1) := by decide +kernel
theorem dX6_pointsAnew_13 : decode cX6_pointsAnew 13 = .ok (.invokevirtual 39, 3) := by decide +kernel
theorem dX6_pointsAnew_16 : decode cX6_pointsAnew 16 = .ok (.ifCond .eq 15, 3) := by decide +kernel
theorem dX6_pointsAnew_19 : decode cX6_pointsAnew 19 = .ok (.aload_n 0, 1) := by decide +kernel
theorem dX6_pointsAnew_20 : decode cX6_pointsAnew 20 = .ok (.getfield 7, 3) := by decide +kernel
theorem dX6_pointsAnew_23 : decode cX6_pointsAnew 23 = .ok (.bipush 10, 2) := by decide +kernel
theorem dX6_pointsAnew_25 : decode cX6_pointsAnew 25 = .ok (.iload_n 1, 1) := by decide +kernel
theorem dX6_pointsAnew_26 : decode cX6_pointsAnew 26 = .ok (.iadd, 1) := by decide +kernel
theorem dX6_pointsAnew_27 : decode cX6_pointsAnew 27 = .ok (.iaload, 1) := by decide +kernel
theorem dX6_pointsAnew_28 : decode cX6_pointsAnew 28 = .ok (.goto 4, 3) := by decide +kernel
theorem dX6_pointsAnew_31 : decode cX6_pointsAnew 31 = .ok (.iconst 0, 1) := by decide +kernel
theorem dX6_pointsAnew_32 : decode cX6_pointsAnew 32 = .ok (.ireturn, 1) := by decide +kernel
theorem dX6_sets_0 : decode cX6_sets 0 = .ok (.aload_n 0, 1) := by decide +kernel
theorem dX6_sets_1 : decode cX6_sets 1 = .ok (.iload_n 1, 1) := by decide +kernel
theorem dX6_sets_2 : decode cX6_sets 2 = .ok (.invokestatic 28, 3) := by decide +kernel
theorem dX6_sets_5 : decode cX6_sets 5 = .ok (.ifCond .eq 7, 3) := by decide +kernel
theorem dX6_sets_8 : decode cX6_sets 8 = .ok (.iconst 0, 1) := by decide +kernel
theorem dX6_sets_9 : decode cX6_sets 9 = .ok (.goto 4, 3) := by decide +kernel
theorem dX6_sets_12 : decode cX6_sets 12 = .ok (.iconst 1, 1) := by decide +kernel
theorem dX6_sets_13 : decode cX6_sets 13 = .ok (.invokevirtual 39, 3) := by decide +kernel
theorem dX6_sets_16 : decode cX6_sets 16 = .ok (.ifCond .eq 15, 3) := by decide +kernel
theorem dX6_sets_19 : decode cX6_sets 19 = .ok (.aload_n 0, 1) := by decide +kernel
theorem dX6_sets_20 : decode cX6_sets 20 = .ok (.getfield 7, 3) := by decide +kernel
theorem dX6_sets_23 : decode cX6_sets 23 = .ok (.bipush 12, 2) := by decide +kernel
theorem dX6_sets_25 : decode cX6_sets 25 = .ok (.iload_n 1, 1) := by decide +kernel
theorem dX6_sets_26 : decode cX6_sets 26 = .ok (.iadd, 1) := by decide +kernel
theorem dX6_sets_27 : decode cX6_sets 27 = .ok (.iaload, 1) := by decide +kernel
theorem dX6_sets_28 : decode cX6_sets 28 = .ok (.goto 4, 3) := by decide +kernel
theorem dX6_sets_31 : decode cX6_sets 31 = .ok (.iconst 0, 1) := by decide +kernel
theorem dX6_sets_32 : decode cX6_sets 32 = .ok (.ireturn, 1) := by decide +kernel
theorem dX6_isPlace_0 : decode cX6_isPlace 0 = .ok (.iload_n 0, 1) := by decide +kernel
theorem dX6_isPlace_1 : decode cX6_isPlace 1 = .ok (.invokestatic 28, 3) := by decide +kernel
theorem dX6_isPlace_4 : decode cX6_isPlace 4 = .ok (.ifCond .eq 17, 3) := by decide +kernel
theorem dX6_isPlace_7 : decode cX6_isPlace 7 = .ok (.iload_n 1, 1) := by decide +kernel
theorem dX6_isPlace_8 : decode cX6_isPlace 8 = .ok (.iconst 1, 1) := by decide +kernel
theorem dX6_isPlace_9 : decode cX6_isPlace 9 = .ok (.bipush 6, 2) := by decide +kernel
theorem dX6_isPlace_11 : decode cX6_isPlace 11 = .ok (.invokestatic 20, 3) := by decide +kernel
theorem dX6_isPlace_14 : decode cX6_isPlace 14 = .ok (.ifCond .eq 7, 3) := by decide +kernel
theorem dX6_isPlace_17 : decode cX6_isPlace 17 = .ok (.iconst 1, 1) := by decide +kernel
theorem dX6_isPlace_18 : decode cX6_isPlace 18 = .ok (.goto 4, 3) := by decide +kernel
theorem dX6_isPlace_21 : decode cX6_isPlace 21 = .ok (.iconst 0, 1) := by decide +kernel
theorem dX6_isPlace_22 : decode cX6_isPlace 22 = .ok (.ireturn, 1) := by decide +kernel
theorem dX6_at_0 : decode cX6_at 0 = .ok (.aload_n 0, 1) := by decide +kernel
theorem dX6_at_1 : decode cX6_at 1 = .ok (.iload_n 1, 1) := by decide +kernel
theorem dX6_at_2 : decode cX6_at 2 = .ok (.iload_n 2, 1) := by decide +kernel
theorem dX6_at_3 : decode cX6_at 3 = .ok (.invokestatic 72, 3) := by decide +kernel
theorem dX6_at_6 : decode cX6_at 6 = .ok (.ifCond .eq 7, 3) := by decide +kernel
theorem dX6_at_9 : decode cX6_at 9 = .ok (.iconst 0, 1) := by decide +kernel
theorem dX6_at_10 : decode cX6_at 10 = .ok (.goto 4, 3) := by decide +kernel
theorem dX6_at_13 : decode cX6_at 13 = .ok (.iconst 1, 1) := by decide +kernel
theorem dX6_at_14 : decode cX6_at 14 = .ok (.invokevirtual 39, 3) := by decide +kernel
theorem dX6_at_17 : decode cX6_at 17 = .ok (.ifCond .eq 16, 3) := by decide +kernel
theorem dX6_at_20 : decode cX6_at 20 = .ok (.aload_n 0, 1) := by decide +kernel
theorem dX6_at_21 : decode cX6_at 21 = .ok (.getfield 7, 3) := by decide +kernel
theorem dX6_at_24 : decode cX6_at 24 = .ok (.iload_n 1, 1) := by decide +kernel
theorem dX6_at_25 : decode cX6_at 25 = .ok (.iload_n 2, 1) := by decide +kernel
theorem dX6_at_26 : decode cX6_at 26 = .ok (.invokestatic 24, 3) := by decide +kernel
theorem dX6_at_29 : decode cX6_at 29 = .ok (.iaload, 1) := by decide +kernel
theorem dX6_at_30 : decode cX6_at 30 = .ok (.goto 4, 3) := by decide +kernel
theorem dX6_at_33 : decode cX6_at 33 = .ok (.iconst 0, 1) := by decide +kernel
theorem dX6_at_34 : decode cX6_at 34 = .ok (.ireturn, 1) := by decide +kernel
theorem dX6_atAnew_0 : decode cX6_atAnew 0 = .ok (.aload_n 0, 1) := by decide +kernel
theorem dX6_atAnew_1 : decode cX6_atAnew 1 = .ok (.iload_n 1, 1) := by decide +kernel
theorem dX6_atAnew_2 : decode cX6_atAnew 2 = .ok (.iload_n 2, 1) := by decide +kernel
theorem dX6_atAnew_3 : decode cX6_atAnew 3 = .ok (.invokestatic 72, 3) := by decide +kernel
theorem dX6_atAnew_6 : decode cX6_atAnew 6 = .ok (.ifCond .eq 7, 3) := by decide +kernel
theorem dX6_atAnew_9 : decode cX6_atAnew 9 = .ok (.iconst 0, 1) := by decide +kernel
theorem dX6_atAnew_10 : decode cX6_atAnew 10 = .ok (.goto 4, 3) := by decide +kernel
theorem dX6_atAnew_13 : decode cX6_atAnew 13 = .ok (.iconst 1, 1) := by decide +kernel
theorem dX6_atAnew_14 : decode cX6_atAnew 14 = .ok (.invokevirtual 39, 3) := by decide +kernel
theorem dX6_atAnew_17 : decode cX6_atAnew 17 = .ok (.ifCond .ne 7, 3) := by decide +kernel
theorem dX6_atAnew_20 : decode cX6_atAnew 20 = .ok (.iconst 0, 1) := by decide +kernel
theorem dX6_atAnew_21 : decode cX6_atAnew 21 = .ok (.goto 27, 3) := by decide +kernel
theorem dX6_atAnew_24 : decode cX6_atAnew 24 = .ok (.aload_n 0, 1) := by decide +kernel
theorem dX6_atAnew_25 : decode cX6_atAnew 25 = .ok (.getfield 7, 3) := by decide +kernel
theorem dX6_atAnew_28 : decode cX6_atAnew 28 = .ok (.iconst 0, 1) := by decide +kernel
theorem dX6_atAnew_29 : decode cX6_atAnew 29 = .ok (.iaload, 1) := by decide +kernel
theorem dX6_atAnew_30 : decode cX6_atAnew 30 = .ok (.iconst 1, 1) := by decide +kernel
theorem dX6_atAnew_31 : decode cX6_atAnew 31 = .ok (.if_icmp .ne 16, 3) := by decide +kernel
theorem dX6_atAnew_34 : decode cX6_atAnew 34 = .ok (.aload_n 0, 1) := by decide +kernel
theorem dX6_atAnew_35 : decode cX6_atAnew 35 = .ok (.getfield 7, 3) := by decide +kernel
theorem dX6_atAnew_38 : decode cX6_atAnew 38 = .ok (.iload_n 1, 1) := by decide +kernel
theorem dX6_atAnew_39 : decode cX6_atAnew 39 = .ok (.iload_n 2, 1) := by decide +kernel
theorem dX6_atAnew_40 : decode cX6_atAnew 40 = .ok (.invokestatic 24, 3) := by decide +kernel
theorem dX6_atAnew_43 : decode cX6_atAnew 43 = .ok (.iaload, 1) := by decide +kernel
theorem dX6_atAnew_44 : decode cX6_atAnew 44 = .ok (.goto 4, 3) := by decide +kernel
theorem dX6_atAnew_47 : decode cX6_atAnew 47 = .ok (.iconst (-1), 1) := by decide +kernel
theorem dX6_atAnew_48 : decode cX6_atAnew 48 = .ok (.ireturn, 1) := by decide +kernel
theorem dX6_about_0 : decode cX6_about 0 = .ok (.aload_n 0, 1) := by decide +kernel
theorem dX6_about_1 : decode cX6_about 1 = .ok (.iload_n 1, 1) := by decide +kernel
theorem dX6_about_2 : decode cX6_about 2 = .ok (.iconst 0, 1) := by decide +kernel
theorem dX6_about_3 : decode cX6_about 3 = .ok (.iconst 4, 1) := by decide +kernel
theorem dX6_about_4 : decode cX6_about 4 = .ok (.invokestatic 20, 3) := by decide +kernel
theorem dX6_about_7 : decode cX6_about 7 = .ok (.ifCond .eq 7, 3) := by decide +kernel
theorem dX6_about_10 : decode cX6_about 10 = .ok (.iconst 0, 1) := by decide +kernel
theorem dX6_about_11 : decode cX6_about 11 = .ok (.goto 4, 3) := by decide +kernel
theorem dX6_about_14 : decode cX6_about 14 = .ok (.iconst 1, 1) := by decide +kernel
theorem dX6_about_15 : decode cX6_about 15 = .ok (.invokevirtual 39, 3) := by decide +kernel
theorem dX6_about_18 : decode cX6_about 18 = .ok (.ifCond .ne 5, 3) := by decide +kernel
theorem dX6_about_21 : decode cX6_about 21 = .ok (.iconst 0, 1) := by decide +kernel
theorem dX6_about_22 : decode cX6_about 22 = .ok (.ireturn, 1) := by decide +kernel
theorem dX6_about_23 : decode cX6_about 23 = .ok (.iload_n 1, 1) := by decide +kernel
theorem dX6_about_24 : decode cX6_about 24 = .ok (.ifCond .ne 12, 3) := by decide +kernel
theorem dX6_about_27 : decode cX6_about 27 = .ok (.aload_n 0, 1) := by decide +kernel
theorem dX6_about_28 : decode cX6_about 28 = .ok (.getfield 7, 3) := by decide +kernel
theorem dX6_about_31 : decode cX6_about 31 = .ok (.iconst 0, 1) := by decide +kernel
theorem dX6_about_32 : decode cX6_about 32 = .ok (.iaload, 1) := by decide +kernel
theorem dX6_about_33 : decode cX6_about 33 = .ok (.goto 79, 3) := by decide +kernel
theorem dX6_about_36 : decode cX6_about 36 = .ok (.iload_n 1, 1) := by decide +kernel
theorem dX6_about_37 : decode cX6_about 37 = .ok (.iconst 1, 1) := by decide +kernel
theorem dX6_about_38 : decode cX6_about 38 = .ok (.if_icmp .ne 12, 3) := by decide +kernel
theorem dX6_about_41 : decode cX6_about 41 = .ok (.aload_n 0, 1) := by decide +kernel
theorem dX6_about_42 : decode cX6_about 42 = .ok (.getfield 7, 3) := by decide +kernel
theorem dX6_about_45 : decode cX6_about 45 = .ok (.iconst 1, 1) := by decide +kernel
theorem dX6_about_46 : decode cX6_about 46 = .ok (.iaload, 1) := by decide +kernel
theorem dX6_about_47 : decode cX6_about 47 = .ok (.goto 65, 3) := by decide +kernel
theorem dX6_about_50 : decode cX6_about 50 = .ok (.iload_n 1, 1) := by decide +kernel
theorem dX6_about_51 : decode cX6_about 51 = .ok (.iconst 2, 1) := by decide +kernel
theorem dX6_about_52 : decode cX6_about 52 = .ok (.if_icmp .ne 26, 3) := by decide +kernel
theorem dX6_about_55 : decode cX6_about 55 = .ok (.aload_n 0, 1) := by decide +kernel
theorem dX6_about_56 : decode cX6_about 56 = .ok (.getfield 7, 3) := by decide +kernel
theorem dX6_about_59 : decode cX6_about 59 = .ok (.iconst 0, 1) := by decide +kernel
theorem dX6_about_60 : decode cX6_about 60 = .ok (.iaload, 1) := by decide +kernel
theorem dX6_about_61 : decode cX6_about 61 = .ok (.iconst 1, 1) := by decide +kernel
theorem dX6_about_62 : decode cX6_about 62 = .ok (.if_icmp .ne 12, 3) := by decide +kernel
theorem dX6_about_65 : decode cX6_about 65 = .ok (.aload_n 0, 1) := by decide +kernel
theorem dX6_about_66 : decode cX6_about 66 = .ok (.getfield 7, 3) := by decide +kernel
theorem dX6_about_69 : decode cX6_about 69 = .ok (.iconst 2, 1) := by decide +kernel
theorem dX6_about_70 : decode cX6_about 70 = .ok (.iaload, 1) := by decide +kernel
theorem dX6_about_71 : decode cX6_about 71 = .ok (.goto 41, 3) := by decide +kernel
theorem dX6_about_74 : decode cX6_about 74 = .ok (.iconst (-1), 1) := by decide +kernel
theorem dX6_about_75 : decode cX6_about 75 = .ok (.goto 37, 3) := by decide +kernel
theorem dX6_about_78 : decode cX6_about 78 = .ok (.iload_n 1, 1) := by decide +kernel
theorem dX6_about_79 : decode cX6_about 79 = .ok (.iconst 3, 1) := by decide +kernel
theorem dX6_about_80 : decode cX6_about 80 = .ok (.if_icmp .ne 12, 3) := by decide +kernel
theorem dX6_about_83 : decode cX6_about 83 = .ok (.aload_n 0, 1) := by decide +kernel
theorem dX6_about_84 : decode cX6_about 84 = .ok (.getfield 7, 3) := by decide +kernel
theorem dX6_about_87 : decode cX6_about 87 = .ok (.iconst 3, 1) := by decide +kernel
theorem dX6_about_88 : decode cX6_about 88 = .ok (.iaload, 1) := by decide +kernel
theorem dX6_about_89 : decode cX6_about 89 = .ok (.goto 23, 3) := by decide +kernel
theorem dX6_about_92 : decode cX6_about 92 = .ok (.aload_n 0, 1) := by decide +kernel
theorem dX6_about_93 : decode cX6_about 93 = .ok (.getfield 7, 3) := by decide +kernel
theorem dX6_about_96 : decode cX6_about 96 = .ok (.iconst 1, 1) := by decide +kernel
theorem dX6_about_97 : decode cX6_about 97 = .ok (.iaload, 1) := by decide +kernel
theorem dX6_about_98 : decode cX6_about 98 = .ok (.iconst 1, 1) := by decide +kernel
theorem dX6_about_99 : decode cX6_about 99 = .ok (.if_icmp .ne 12, 3) := by decide +kernel
theorem dX6_about_102 : decode cX6_about 102 = .ok (.aload_n 0, 1) := by decide +kernel
theorem dX6_about_103 : decode cX6_about 103 = .ok (.getfield 7, 3) := by decide +kernel
theorem dX6_about_106 : decode cX6_about 106 = .ok (.iconst 5, 1) := by decide +kernel
theorem dX6_about_107 : decode cX6_about 107 = .ok (.iaload, 1) := by decide +kernel
theorem dX6_about_108 : decode cX6_about 108 = .ok (.goto 4, 3) := by decide +kernel
theorem dX6_about_111 : decode cX6_about 111 = .ok (.iconst (-1), 1) := by decide +kernel
theorem dX6_about_112 : decode cX6_about 112 = .ok (.ireturn, 1) := by decide +kernel
theorem dX6_of_0 : decode cX6_of 0 = .ok (.aload_n 0, 1) := by decide +kernel
theorem dX6_of_1 : decode cX6_of 1 = .ok (.iload_n 1, 1) := by decide +kernel
theorem dX6_of_2 : decode cX6_of 2 = .ok (.invokestatic 28, 3) := by decide +kernel
theorem dX6_of_5 : decode cX6_of 5 = .ok (.ifCond .ne 7, 3) := by decide +kernel
theorem dX6_of_8 : decode cX6_of 8 = .ok (.iconst 1, 1) := by decide +kernel
theorem dX6_of_9 : decode cX6_of 9 = .ok (.goto 17, 3) := by decide +kernel
theorem dX6_of_12 : decode cX6_of 12 = .ok (.iload_n 2, 1) := by decide +kernel
theorem dX6_of_13 : decode cX6_of 13 = .ok (.iconst 0, 1) := by decide +kernel
theorem dX6_of_14 : decode cX6_of 14 = .ok (.iconst 1, 1) := by decide +kernel
theorem dX6_of_15 : decode cX6_of 15 = .ok (.invokestatic 20, 3) := by decide +kernel
theorem dX6_of_18 : decode cX6_of 18 = .ok (.ifCond .eq 7, 3) := by decide +kernel
theorem dX6_of_21 : decode cX6_of 21 = .ok (.iconst 0, 1) := by decide +kernel
theorem dX6_of_22 : decode cX6_of 22 = .ok (.goto 4, 3) := by decide +kernel
theorem dX6_of_25 : decode cX6_of 25 = .ok (.iconst 2, 1) := by decide +kernel
theorem dX6_of_26 : decode cX6_of 26 = .ok (.invokevirtual 39, 3) := by decide +kernel
theorem dX6_of_29 : decode cX6_of 29 = .ok (.ifCond .ne 5, 3) := by decide +kernel
theorem dX6_of_32 : decode cX6_of 32 = .ok (.iconst 0, 1) := by decide +kernel
theorem dX6_of_33 : decode cX6_of 33 = .ok (.ireturn, 1) := by decide +kernel
theorem dX6_of_34 : decode cX6_of 34 = .ok (.iload_n 2, 1) := by decide +kernel
theorem dX6_of_35 : decode cX6_of 35 = .ok (.ifCond .ne 15, 3) := by decide +kernel
theorem dX6_of_38 : decode cX6_of 38 = .ok (.aload_n 0, 1) := by decide +kernel
theorem dX6_of_39 : decode cX6_of 39 = .ok (.getfield 7, 3) := by decide +kernel
theorem dX6_of_42 : decode cX6_of 42 = .ok (.bipush 32, 2) := by decide +kernel
theorem dX6_of_44 : decode cX6_of 44 = .ok (.iload_n 1, 1) := by decide +kernel
theorem dX6_of_45 : decode cX6_of 45 = .ok (.iadd, 1) := by decide +kernel
theorem dX6_of_46 : decode cX6_of 46 = .ok (.iaload, 1) := by decide +kernel
theorem dX6_of_47 : decode cX6_of 47 = .ok (.goto 12, 3) := by decide +kernel
theorem dX6_of_50 : decode cX6_of 50 = .ok (.aload_n 0, 1) := by decide +kernel
theorem dX6_of_51 : decode cX6_of 51 = .ok (.getfield 7, 3) := by decide +kernel
theorem dX6_of_54 : decode cX6_of 54 = .ok (.bipush 34, 2) := by decide +kernel
theorem dX6_of_56 : decode cX6_of 56 = .ok (.iload_n 1, 1) := by decide +kernel
theorem dX6_of_57 : decode cX6_of 57 = .ok (.iadd, 1) := by decide +kernel
theorem dX6_of_58 : decode cX6_of 58 = .ok (.iaload, 1) := by decide +kernel
theorem dX6_of_59 : decode cX6_of 59 = .ok (.ireturn, 1) := by decide +kernel
theorem dX6_lost_0 : decode cX6_lost 0 = .ok (.aload_n 0, 1) := by decide +kernel
theorem dX6_lost_1 : decode cX6_lost 1 = .ok (.iload_n 1, 1) := by decide +kernel
theorem dX6_lost_2 : decode cX6_lost 2 = .ok (.invokestatic 28, 3) := by decide +kernel
theorem dX6_lost_5 : decode cX6_lost 5 = .ok (.ifCond .ne 7, 3) := by decide +kernel
theorem dX6_lost_8 : decode cX6_lost 8 = .ok (.iconst 1, 1) := by decide +kernel
theorem dX6_lost_9 : decode cX6_lost 9 = .ok (.goto 17, 3) := by decide +kernel
theorem dX6_lost_12 : decode cX6_lost 12 = .ok (.iload_n 2, 1) := by decide +kernel
theorem dX6_lost_13 : decode cX6_lost 13 = .ok (.iconst 0, 1) := by decide +kernel
theorem dX6_lost_14 : decode cX6_lost 14 = .ok (.iconst 5, 1) := by decide +kernel
theorem dX6_lost_15 : decode cX6_lost 15 = .ok (.invokestatic 20, 3) := by decide +kernel
theorem dX6_lost_18 : decode cX6_lost 18 = .ok (.ifCond .eq 7, 3) := by decide +kernel
theorem dX6_lost_21 : decode cX6_lost 21 = .ok (.iconst 0, 1) := by decide +kernel
theorem dX6_lost_22 : decode cX6_lost 22 = .ok (.goto 4, 3) := by decide +kernel
theorem dX6_lost_25 : decode cX6_lost 25 = .ok (.iconst 2, 1) := by decide +kernel
theorem dX6_lost_26 : decode cX6_lost 26 = .ok (.invokevirtual 39, 3) := by decide +kernel
theorem dX6_lost_29 : decode cX6_lost 29 = .ok (.ifCond .ne 5, 3) := by decide +kernel
theorem dX6_lost_32 : decode cX6_lost 32 = .ok (.iconst 0, 1) := by decide +kernel
theorem dX6_lost_33 : decode cX6_lost 33 = .ok (.ireturn, 1) := by decide +kernel
theorem dX6_lost_34 : decode cX6_lost 34 = .ok (.aload_n 0, 1) := by decide +kernel
theorem dX6_lost_35 : decode cX6_lost 35 = .ok (.getfield 7, 3) := by decide +kernel
theorem dX6_lost_38 : decode cX6_lost 38 = .ok (.bipush 80, 2) := by decide +kernel
theorem dX6_lost_40 : decode cX6_lost 40 = .ok (.bipush 6, 2) := by decide +kernel
theorem dX6_lost_42 : decode cX6_lost 42 = .ok (.iload_n 1, 1) := by decide +kernel
theorem dX6_lost_43 : decode cX6_lost 43 = .ok (.imul, 1) := by decide +kernel
theorem dX6_lost_44 : decode cX6_lost 44 = .ok (.iadd, 1) := by decide +kernel
theorem dX6_lost_45 : decode cX6_lost 45 = .ok (.iload_n 2, 1) := by decide +kernel
theorem dX6_lost_46 : decode cX6_lost 46 = .ok (.iadd, 1) := by decide +kernel
theorem dX6_lost_47 : decode cX6_lost 47 = .ok (.iaload, 1) := by decide +kernel
theorem dX6_lost_48 : decode cX6_lost 48 = .ok (.ireturn, 1) := by decide +kernel
end
section
/-! a method that throws costs its cell only where it throws: vz_ is vx_ (exceptions that leave a method) with no new cell on the way that returns; vz_back, vz_runV, vz_runS, vz_ofW follow vx_back, vx_runV, vx_runS, vx_ofW -/
section VZ
def vz_Q (Qc : Array Value → State → Outcome → State → Prop) (XC : String → State → State → Prop) (mc ms : Nat) (free : Addr → Prop) : Array Value → State → Outcome → State → Prop := fun a st o t =>
  (Qc a st o t ∧ ∃ L, FrameEnd st o t L 0 0 ∧ ∀ q ∈ L, free q.base) ∨ ∃ q, o = .threw q ∧ vx_T XC st q t mc ms free
def vz_Met (l : Launch) (y : MethodName) (ws : List Cond) (rm : Room) (Pc : Array Value → State → Prop) (Qc : Array Value → State → Outcome → State → Prop) (XC : String → State → State → Prop) (mc ms : Nat) (free : Addr → Prop) : Prop :=
  MetFree l y (headSpec ws rm) Pc (fun _ _ _ _ _ => True) (vz_Q Qc XC mc ms free)
section PayerZ
variable {l : Launch} {R : Room} {p : Program} {e : Env} {below : List Frame} {s : State} {sargs : Array Value} {y : MethodName} {len W9 : Nat}
theorem vz_back {ws : List Cond} {rm : Room} {Pc : Array Value → State → Prop} {Qc : Array Value → State → Outcome → State → Prop} {XC : String → State → State → Prop} {mc ms : Nat} {free : Addr → Prop} {bytes : ByteArray} {maxL : Nat} {ret : Option FieldType}
    (hM : vz_Met l y ws rm Pc Qc XC mc ms free) (hblind : FrameBlind Pc) (hrc : rm.cells = mc) (hrs : rm.slots = ms)
    (hframes : rm.frames + 1 ≤ R.frames) (hlocals : W9 + (maxL + 11) + rm.locals ≤ R.locals)
    (hws : ∀ w ∈ ws, ∀ a' U, s.WarmedH U.vm → w.before a' U = true) (hcode : Cond.code y bytes maxL ret ∈ ws) (hinit : ∀ a' U, s.WarmedH U.vm → (Cond.initialized y.cls).before a' U = true) :
    vx_Back l R p e below s sargs y len W9 (PreOf R mc ms Pc) (PostOf Qc 0 0 free) (vx_Post XC mc ms free) := by
  intro m meth c A g ig mk a X hg hsize hdg hW hn hp
  have h1 : (headSpec ws rm).pre.before a A.U = true := atoms_intro fun w hw => hws w hw _ _ X.warmed
  have h2 : (Cond.code y bytes maxL ret).before a A.U = true := hws _ hcode _ _ X.warmed
  have h3 : (Cond.initialized y.cls).before a A.U = true := hinit _ _ X.warmed
  have h4 : A.cells + (headSpec ws rm).room.cells ≤ R.cells := by rw [show (headSpec ws rm).room.cells = mc from hrc]; exact hp.1
  have h5 : A.slots + (headSpec ws rm).room.slots ≤ R.slots := by rw [show (headSpec ws rm).room.slots = ms from hrs]; exact hp.2.1
  have hPc : Pc a (A.U.calling g mk a) := hblind _ _ _ _ hp.2.2
  obtain ⟨U, Ls, c0, s0⟩ := A
  dsimp only [Pt.U, Pt.locs, Pt.cells, Pt.slots] at h1 h2 h3 h4 h5 X hn hPc ⊢
  obtain ⟨methY, cY, hmY, hcY, -, hlY, -, -, -, -⟩ := Cond.code_spec hn h2
  obtain ⟨kY, hkY, -⟩ := className_of_methodNamed hn
  have hinitY : kY.init = .initialized := Cond.initialized_spec (findClass_of_methodNamed hn) hkY h3
  have h : At U g.method c below := by rw [hg]; exact X.here
  have hlocals9 : W9 + (maxL + 11) + (headSpec ws rm).room.locals ≤ R.locals := hlocals
  have happ : (headSpec ws rm).appliesLoose y e.platform (U.calling g mk a) = true :=
    Spec.appliesLoose_calling (g := g) h hdg hn hkY hinitY
      (X.room_calling (g := g) (R' := (headSpec ws rm).room) hsize hmY hcY hframes (by rw [hlY]; omega) h4 h5) h1
  obtain ⟨mid, hmid⟩ := h.above
  have hfr : (U.setTop g).frames = (.java g :: mid) ++ below := by rw [State.frames_setTop' g h.top, hmid]; rfl
  obtain ⟨o, s₂, hsteps, -, hend, hq⟩ := Steps.callFree hM p X.admits X.cas X.clock (acts := []) hfr happ hPc trivial
  have hq' : vz_Q Qc XC mc ms free a (U.calling g mk a) o s₂ := hq
  rw [State.frames_setTop' g h.top] at hend
  obtain ⟨g₀, hg0⟩ := Option.isSome_iff_exists.mp h.top
  obtain ⟨r, hr⟩ := State.topJava?_eq_some.mp hg0
  have hr' : (({ U with heap := s₂.heap, slotsUsed := s₂.slotsUsed } : State).setVm s₂.vm).frames = .java g₀ :: r := hr
  rcases hq' with ⟨hqc, L, hfe, hL⟩ | ⟨q, rfl, E, ce, L, hx, hce, hcv, hcl, hW₂, hsm, hL⟩
  · obtain ⟨⟨v, rfl⟩, hW₂, e2, q2, q3, q4, q5, q6⟩ := id hfe
    have e3 : s₂ = ({ (U.calling g mk a).setFrames s₂.frames with heap := s₂.heap, slotsUsed := s₂.slotsUsed } : State).setVm s₂.vm := by
      have : s₂ = ({ s₂ with vm := (U.calling g mk a).vm } : State).setVm s₂.vm := rfl
      rw [e2] at this
      exact this
    obtain ⟨c₂, i₂, len₂, hc₂, hd₂, hf₂⟩ := hend
    have hW' : U.WarmedH s₂.vm := hW₂
    have hcc : c₂ = c := by
      have h1 : s₂.code? g.method = U.code? g.method := by
        rw [State.code?_eq, State.code?_eq, hW'.alike.method?]
      exact Option.some.inj (hc₂.symm.trans (h1.trans h.code))
    subst hcc
    have hlen : len₂ = len := by rw [hdg] at hd₂; cases hd₂; rfl
    subst hlen
    have hs₂ : s₂ = (({ U with heap := s₂.heap, slotsUsed := s₂.slotsUsed } : State).setVm s₂.vm).setTop { g with pc := g.pc + len₂, stack := v.toList ++ g.stack } := by
      refine e3.trans ?_
      rw [hf₂, State.calling_eq h.top, State.setFrames_setFrames, State.setTop_of_frames _ hr', hr]
      rfl
    have hsame : U.sameButNew ({ U with heap := s₂.heap, slotsUsed := s₂.slotsUsed } : State) L 0 0 := by
      refine ⟨?_, q2, q3, q4, q5, q6⟩
      obtain ⟨t, ht, -⟩ := State.frames_cons hr
      show ({ U with heap := s₂.heap, slotsUsed := s₂.slotsUsed } : State) = { U.setFrames U.frames with heap := s₂.heap, slotsUsed := s₂.slotsUsed }
      rw [State.setFrames_self ht]
    subst hg
    refine Or.inl ⟨v, ⟨(({ U with heap := s₂.heap, slotsUsed := s₂.slotsUsed } : State).setVm s₂.vm), Ls ++ L, c0 + 0, s0 + 0⟩,
      ⟨X.admits, X.cas, X.clock, X.frames, X.room, X.hears, X.method, X.code, (X.here.setHeapUsed s₂.heap s₂.slotsUsed).setVm hW'.alike, X.tail, State.WarmedH.trans X.warmed hW', X.limits, X.bytes, X.same.trans (hsame.setVm s.vm)⟩,
      ⟨g, mk, s₂, L, rfl, rfl, hqc, rfl, hL, rfl, rfl⟩, ?_⟩
    show Steps p.tables e below _ ((({ U with heap := s₂.heap, slotsUsed := s₂.slotsUsed } : State).setVm s₂.vm).setTop { g with pc := g.pc + len₂, stack := v.toList ++ g.stack })
    rw [← hs₂]
    exact hsteps
  · obtain ⟨e2, q2, q3, q4, q5, q6⟩ := id hsm
    have e3 : s₂ = ({ (U.calling g mk a).setFrames s₂.frames with heap := s₂.heap, slotsUsed := s₂.slotsUsed } : State).setVm s₂.vm := by
      have : s₂ = ({ s₂ with vm := (U.calling g mk a).vm } : State).setVm s₂.vm := rfl
      rw [e2] at this
      exact this
    have hf₂ : s₂.frames = .throwing q :: .java g :: U.frames.tail := hend
    have hW' : U.WarmedH s₂.vm := hW₂
    have hs₂ : s₂ = ((({ U with heap := s₂.heap, slotsUsed := s₂.slotsUsed } : State).setVm s₂.vm).setTop g).pushFrame (.throwing q) := by
      refine e3.trans ?_
      rw [hf₂, State.calling_eq h.top, State.setFrames_setFrames, State.pushFrame, State.frames_setTop _ hr', State.setTop_of_frames _ hr', State.setFrames_setFrames, hr]
      rfl
    have hsame : U.sameButNew ({ U with heap := s₂.heap, slotsUsed := s₂.slotsUsed } : State) L mc ms := by
      refine ⟨?_, q2, q3, q4, q5, q6⟩
      obtain ⟨t, ht, -⟩ := State.frames_cons hr
      show ({ U with heap := s₂.heap, slotsUsed := s₂.slotsUsed } : State) = { U.setFrames U.frames with heap := s₂.heap, slotsUsed := s₂.slotsUsed }
      rw [State.setFrames_self ht]
    subst hg
    refine Or.inr ⟨q, ⟨(({ U with heap := s₂.heap, slotsUsed := s₂.slotsUsed } : State).setVm s₂.vm), Ls ++ L, c0 + mc, s0 + ms⟩,
      ⟨X.admits, X.cas, X.clock, X.frames, X.room, X.hears, X.method, X.code, (X.here.setHeapUsed s₂.heap s₂.slotsUsed).setVm hW'.alike, X.tail, State.WarmedH.trans X.warmed hW', X.limits, X.bytes, X.same.trans (hsame.setVm s.vm)⟩,
      ⟨g, mk, s₂, L, E, ce, rfl, rfl, hx, hce, hcv, hcl, rfl, hL, rfl, rfl⟩, ?_⟩
    show Steps p.tables e below _ (((({ U with heap := s₂.heap, slotsUsed := s₂.slotsUsed } : State).setVm s₂.vm).setTop g).pushFrame (.throwing q))
    rw [← hs₂]
    exact hsteps
end PayerZ
def vz_Run (p : Program) (l : Launch) (e : Env) (R : Room) (s : State) (m : MethodId) (args : Array Value) (below : List Frame) (meth : Method) (c : Code) (H : Heap) (locs : List Loc) (cells slots mc ms : Nat) (g : JFrame) (rest : List Value) (Qa : State → Outcome → State → Prop) (XC : String → State → State → Prop) (free : Addr → Prop) : Prop :=
  ∀ T : State, T.heap = H → Stand p l e R s m args below meth c T locs cells slots →
    (∃ (v : Option Value) (st₀ t T' : State) (L : List Loc), st₀.heap = H ∧ Stand p l e R s m args below meth c T' (locs ++ L) cells slots ∧ (∀ q ∈ L, free q.base) ∧ T'.heap = t.heap ∧ T'.vm = t.vm ∧ Qa st₀ (.returned v) t ∧
      Goes p e below T g T' { g with pc := g.pc + 3, stack := v.toList ++ rest }) ∨
    (∃ (q : Addr) (st₀ t T' : State) (L : List Loc) (E : String) (ce : Cell), st₀.heap = H ∧ Stand p l e R s m args below meth c T' (locs ++ L) (cells + mc) (slots + ms) ∧ (∀ z ∈ L, free z.base) ∧ T'.heap = t.heap ∧ T'.vm = t.vm ∧ XC E st₀ t ∧ t.heap[q]? = some ce ∧ ce.vm = .none ∧ s.vm.findClass E = some ce.cls ∧
      Steps p.tables e below (T.setTop g) ((T'.setTop { g with stack := rest }).pushFrame (.throwing q)))
section RunsZ
variable {p : Program} {l : Launch} {e : Env} {R : Room} {s : State} {m : MethodId} {args : Array Value} {below : List Frame} {meth : Method} {c : Code} {H : Heap} {locs : List Loc} {cells slots : Nat}
variable {y : MethodName} {bytes cc : ByteArray} {maxL nL mc ms n index : Nat} {ret : Option FieldType} {ws : List Cond} {rm : Room} {Pc : Array Value → State → Prop} {Qc : Array Value → State → Outcome → State → Prop} {XC : String → State → State → Prop} {free : Addr → Prop} {Ts : List Cond} {own C : String} {b : Addr} {As rest : List Value} {g : JFrame}
theorem vz_callBack (cb : CallB R s args own index y bytes maxL ret ws rm mc ms n) (hM : vz_Met l y ws rm Pc Qc XC mc ms free) (hbl : FrameBlind Pc) : vx_Back l R p e below s args y 3 8 (PreOf R mc ms Pc) (PostOf Qc 0 0 free) (vx_Post XC mc ms free) := by
  obtain ⟨hrc, hrs, hfr, hlo, hws, hcw, -, hini, -⟩ := cb
  exact vz_back (bytes := bytes) (maxL := maxL) (ret := ret) hM hbl hrc hrs hfr hlo hws hcw (fun a' U hW => word_at hW (Or.inl (by first | rfl | simp [Cond.onTables, Cond.keeps, Cond.steady])) hini)
theorem vz_runV (S : CallFix p m c cc nL s args Ts own) (hM : vz_Met l y ws rm Pc Qc XC mc ms free) (cw : CallW R s args own C index y bytes maxL ret ws rm mc ms n) (hp : PreV s H C b Pc As)
    (hg : g.method = m) (hn : As.length = n) (hsize : g.locals.size = nL) (hstack : g.stack = As.reverse ++ .ref b :: rest) (hW : 2 * g.monitorRoom + (rest.map fun v => v.category).sum ≤ 8) (hdg : decode cc g.pc = .ok (.invokevirtual index, 3)) (hf : cells + mc ≤ R.cells ∧ slots + ms ≤ R.slots) :
    vz_Run p l e R s m args below meth c H locs cells slots mc ms g rest (Qc (Value.ref b :: As).toArray) XC free := by
  have hK : vx_Back l R p e below s args y 3 8 (PreOf R mc ms Pc) (PostOf Qc 0 0 free) (vx_Post XC mc ms free) := vz_callBack cw.1 hM hp.1
  obtain ⟨⟨-, -, -, -, -, -, hcode, -, hy, hlen, hl⟩, hin, hse⟩ := cw
  obtain ⟨hx, hb, hml, ho, -⟩ := S
  obtain ⟨-, ⟨cellB, hcB, hoB, hclB⟩, hPc⟩ := hp
  intro T hT X
  rcases vx_callV X hx (C := C) (bytes := bytes) (maxL := maxL) (ret := ret) ho hl hin hse hcode hy hK (by rw [hT]; exact hcB) hoB hclB hg (hsize.trans hml.symm) (argsL := As) (rest := rest) (fun sig h => hn.trans (hlen sig h)) hstack hW (by rw [hb]; exact hdg)
    (fun vm₁ hW₁ => ⟨hf.1, hf.2, hPc (T.setVm vm₁) hT hW₁⟩) with ⟨v, vm₁, ⟨U', l2, c2, s2⟩, hW₁, X', ⟨g', mk, t, L, e1, e2, hq, h1, hL, h2, h3⟩, st⟩ | ⟨q, vm₁, ⟨U', l2, c2, s2⟩, hW₁, X', ⟨g', mk, t, L, E, ce, e1, e2, hq, hce, hcv, hcl, h1, hL, h2, h3⟩, st⟩
  · dsimp only [Pt.U, Pt.locs, Pt.cells, Pt.slots] at X' e1 e2 h1 h2 h3 st
    subst h1; subst h2; subst h3
    exact Or.inl ⟨v, (T.setVm vm₁).calling g' mk (Value.ref b :: As).toArray, t, U', L, hT, X', hL, e1, e2, hq, st⟩
  · dsimp only [Pt.U, Pt.locs, Pt.cells, Pt.slots] at X' e1 e2 h1 h2 h3 st hcl
    subst h1; subst h2; subst h3
    exact Or.inr ⟨q, (T.setVm vm₁).calling g' mk (Value.ref b :: As).toArray, t, U', L, E, ce, hT, X', hL, e1, e2, hq, hce, hcv, vx_cls hW₁ hcl, st⟩
theorem vz_runS (S : CallFix p m c cc nL s args Ts own) (hM : vz_Met l y ws rm Pc Qc XC mc ms free) (cw : CallB R s args own index y bytes maxL ret ws rm mc ms n ∧ (Cond.static y).before args s = true) (hp : PreS s H Pc As)
    (hg : g.method = m) (hn : As.length = n) (hsize : g.locals.size = nL) (hstack : g.stack = As.reverse ++ rest) (hW : 2 * g.monitorRoom + (rest.map fun v => v.category).sum ≤ 8) (hdg : decode cc g.pc = .ok (.invokestatic index, 3)) (hf : cells + mc ≤ R.cells ∧ slots + ms ≤ R.slots) :
    vz_Run p l e R s m args below meth c H locs cells slots mc ms g rest (Qc As.toArray) XC free := by
  have hK : vx_Back l R p e below s args y 3 8 (PreOf R mc ms Pc) (PostOf Qc 0 0 free) (vx_Post XC mc ms free) := vz_callBack cw.1 hM hp.1
  obtain ⟨⟨-, -, -, -, -, -, hcode, hini, hy, hlen, hl⟩, hstt⟩ := cw
  obtain ⟨hx, hb, hml, ho, -⟩ := S
  intro T hT X
  rcases vx_callS X hx (bytes := bytes) (maxL := maxL) (ret := ret) ho hl hstt hini hcode hy hK hg (hsize.trans hml.symm) (argsL := As) (rest := rest) (fun sig h => hn.trans (hlen sig h)) hstack hW (by rw [hb]; exact hdg)
    (fun vm₁ hW₁ => ⟨hf.1, hf.2, hp.2 (T.setVm vm₁) hT hW₁⟩) with ⟨v, vm₁, ⟨U', l2, c2, s2⟩, hW₁, X', ⟨g', mk, t, L, e1, e2, hq, h1, hL, h2, h3⟩, st⟩ | ⟨q, vm₁, ⟨U', l2, c2, s2⟩, hW₁, X', ⟨g', mk, t, L, E, ce, e1, e2, hq, hce, hcv, hcl, h1, hL, h2, h3⟩, st⟩
  · dsimp only [Pt.U, Pt.locs, Pt.cells, Pt.slots] at X' e1 e2 h1 h2 h3 st
    subst h1; subst h2; subst h3
    exact Or.inl ⟨v, (T.setVm vm₁).calling g' mk As.toArray, t, U', L, hT, X', hL, e1, e2, hq, st⟩
  · dsimp only [Pt.U, Pt.locs, Pt.cells, Pt.slots] at X' e1 e2 h1 h2 h3 st hcl
    subst h1; subst h2; subst h3
    exact Or.inr ⟨q, (T.setVm vm₁).calling g' mk As.toArray, t, U', L, E, ce, hT, X', hL, e1, e2, hq, hce, hcv, vx_cls hW₁ hcl, st⟩
end RunsZ
section EndsZ
variable {p : Program} {l : Launch} {e : Env} {R : Room} {s : State} {m : MethodId} {args : Array Value} {below : List Frame} {meth : Method} {c : Code} {H : Heap} {locs : List Loc} {cells slots : Nat} {Q : State → Prop}
variable {mc ms : Nat} {free : Addr → Prop} {ls : Array Slot} {st0 rest : List Value}
variable {Qc : Array Value → State → Outcome → State → Prop} {XC : String → State → State → Prop}
def vz_MQ (below : List Frame) (Qc : Array Value → State → Outcome → State → Prop) (XC : String → State → State → Prop) (a : Array Value) (s : State) (mc ms : Nat) (free : Addr → Prop) : State → Prop := fun t =>
  ∃ o, t.status = .running ∧ Ended t below o ∧ vz_Q Qc XC mc ms free a s o t
theorem vz_ret {g : JFrame} {mc ms : Nat} (k : W p l e R s m args below meth c H locs cells slots (MQ below Qc args s 0 0 free) g) : W p l e R s m args below meth c H locs cells slots (vz_MQ below Qc XC args s mc ms free) g := by
  intro T hT X
  obtain ⟨t, a1, o, b1, b2, b3, b4⟩ := k T hT X
  exact ⟨t, a1, o, b1, b2, Or.inl ⟨b3, b4⟩⟩
theorem vz_thr {g : JFrame} {mc ms : Nat} (k : W p l e R s m args below meth c H locs cells slots (vx_MQ below (fun _ _ _ _ => False) XC args s mc ms free) g) : W p l e R s m args below meth c H locs cells slots (vz_MQ below Qc XC args s mc ms free) g := by
  intro T hT X
  obtain ⟨t, a1, o, b1, b2, b3⟩ := k T hT X
  refine ⟨t, a1, o, b1, b2, Or.inr ?_⟩
  rcases b3 with b3 | b3
  · exact b3.1.elim
  · exact b3
end EndsZ
section BodiesZ
variable {l : Launch}
theorem vz_ofW {y : MethodName} {ws ws' : List Cond} {rm : Room} {Pc : Array Value → State → Prop} {Qc : Array Value → State → Outcome → State → Prop} {XC : String → State → State → Prop} {mc ms : Nat} {free : Addr → Prop} {cc : ByteArray} {maxL : Nat} {ret : Option FieldType}
    (hy : plainName y.cls = true) (hw : ws = Cond.code y cc maxL ret :: ws')
    (body : ∀ p e s m args below meth c s₁, BodyLoose p l y (headSpec ws rm) cc maxL ret e s m args below meth c s₁ → c.maxLocals = maxL → (∀ x ∈ c.exceptionTable.toList, False) → Pc args s →
      W p l e (headSpec ws rm).room s m args below meth c s.heap [] 0 0 (vz_MQ below Qc XC args s mc ms free) (entryFrame m args maxL)) : vz_Met l y ws rm Pc Qc XC mc ms free := by
  refine MetFree.of_bodyS (code := cc) (maxLocals := maxL) (ret := ret) hy ?_ ?_
  · intro args s m h hn
    obtain ⟨meth, c, h1, h2, h3, h4, h5, h6, -, -⟩ := Cond.code_spec hn (atoms_spec (ws := ws) h _ (by rw [hw]; exact List.mem_cons_self))
    exact ⟨meth, c, h1, h2, h3, h4, h5, h6⟩
  · intro p e s m args below meth c s₁ B hml hP _
    have hh0 : s₁.heap = s.heap := by rw [B.state]; rfl
    have ht : ∀ x ∈ c.exceptionTable.toList, False := by
      obtain ⟨meth9, c9, h1, h2, -, -, -, -, h7, -⟩ := Cond.code_spec B.named (atoms_spec (ws := ws) B.pre _ (by rw [hw]; exact List.mem_cons_self))
      cases Option.some.inj (h1.symm.trans B.method)
      cases Option.some.inj (h2.symm.trans (Stand.of_body B).code)
      intro x hx
      rw [Array.isEmpty_iff.mp h7] at hx
      cases hx
    obtain ⟨t, a1, o, b1, b2, b3⟩ := body p e s m args below meth c s₁ B hml ht hP s₁ hh0 (Stand.of_body B)
    exact ⟨t, o, a1, b1, b2, b3⟩end BodiesZ
end VZ
/-! methods that throw: the answer is (0, value, world) or (number of the exception, 0, world) -/
def gEx (k : Int32) : String := if k = 1 then "java/lang/IndexOutOfBoundsException" else if k = 2 then "java/lang/IllegalArgumentException" else "java/lang/IllegalStateException"
abbrev gXC (D : va_G) (cI cJ : ClassId) (ad : Nat → Nat) (A : Nat → Prop) (q : Int32 × Int32 × gSt) : String → State → State → Prop := vx_X (fun (_ : Unit) => q.1 ≠ 0) (fun E _ t => E = gEx q.1 ∧ va_P D vwCl (gw cI cJ ad q.2.2) t.heap) A
abbrev gQi (D : va_G) (cI cJ : ClassId) (ad : Nat → Nat) (A : Nat → Prop) (q : Int32 × Int32 × gSt) : Array Value → State → Outcome → State → Prop := va_Qi (fun r1 (_ : Unit) => q.1 = 0 ∧ r1 = q.2.1) (fun _ t => va_P D vwCl (gw cI cJ ad q.2.2) t.heap) A
abbrev gQv (D : va_G) (cI cJ : ClassId) (ad : Nat → Nat) (A : Nat → Prop) (q : Int32 × Int32 × gSt) : Array Value → State → Outcome → State → Prop := va_Qv (fun (_ : Unit) => q.1 = 0) (fun _ t => va_P D vwCl (gw cI cJ ad q.2.2) t.heap) A
def gMxi (l : Launch) (D : va_G) (cI cJ : ClassId) (ad : Nat → Nat) (y : MethodName) (yb : ByteArray) (yn : Nat) (yret : Option FieldType) (rm : Room) (av : List Value) (F : gSt → Option (Int32 × Int32 × gSt)) : Prop :=
  ∀ (σ : gSt) (q : Int32 × Int32 × gSt) (sz : Nat), F σ = some q → vz_Met l y (.code y yb yn yret :: gT) rm (va_Pc av (gPre D cI cJ ad σ sz)) (gQi D cI cJ ad (gA ad sz) q) (gXC D cI cJ ad (gA ad sz) q) 1 6 (gA ad sz)
def gMxv (l : Launch) (D : va_G) (cI cJ : ClassId) (ad : Nat → Nat) (y : MethodName) (yb : ByteArray) (yn : Nat) (yret : Option FieldType) (rm : Room) (av : List Value) (F : gSt → Option (Int32 × Int32 × gSt)) : Prop :=
  ∀ (σ : gSt) (q : Int32 × Int32 × gSt) (sz : Nat), F σ = some q → vz_Met l y (.code y yb yn yret :: gT) rm (va_Pc av (gPre D cI cJ ad σ sz)) (gQv D cI cJ ad (gA ad sz) q) (gXC D cI cJ ad (gA ad sz) q) 1 6 (gA ad sz)
/-- a call of a method that throws, in one that lets it go on -/
def gbx (X0 : Option (Int32 × Int32 × gSt)) (K : gSt → Option (Int32 × Int32 × gSt)) : Option (Int32 × Int32 × gSt) := match X0 with
  | none => none
  | some q => if q.1 = 0 then K q.2.2 else some (q.1, 0, q.2.2)
section GT
variable {p : Program} {l : Launch} {e : Env} {R : Room} {s : State} {m : MethodId} {args : Array Value} {below : List Frame} {meth : Method} {c : Code} {D : va_G} {cI cJ : ClassId} {ad : Nat → Nat} {A : Nat → Prop} {cc : ByteArray} {nL : Nat} {own : String} {cells slots : Nat} {Q : State → Prop} {σ : gSt} {pc : Nat} {L L' : List (Nat × Value)} {st : List Value}
theorem gP_kept {H H1 : Heap} {ws : va_W} (hP : va_P D vwCl ws H) (h : ∀ q : Nat, q < H.size → H1[q]? = H[q]?) : va_P D vwCl ws H1 := fun k q hq => (hP k q hq).kept (h q.1 (hP k q hq).lt)
theorem g_throw {Qc : Array Value → State → Outcome → State → Prop} {q : Int32 × Int32 × gSt} (C : gC p s m args meth c D cI cJ ad A cc nL own) (hl : l.stackTraces = false) (hnt : ∀ x ∈ c.exceptionTable.toList, False) {cls text : String} {names : List String} {ik is ic : Nat} (k : Int32) (hk0 : k ≠ 0) (hE : gEx k = cls)
    (hcls : Bundle.fit cls = true) (hnames : ∀ n ∈ names, Bundle.fit n = true) (hk : Cond.classLink own ik cls ∈ gT) (hini : Cond.initialized cls ∈ gT) (hstr : (own, is, text) ∈ gStr) (hat : ∀ w ∈ vx_atS own ic cls names, w ∈ gT ∨ w ∈ gNest)
    (d0 : decode cc pc = .ok (.new ik, 3)) (d3 : decode cc (pc + 3) = .ok (.dup, 1)) (d4 : decode cc (pc + 4) = .ok (.ldc is, 2)) (d6 : decode cc (pc + 6) = .ok (.invokespecial ic, 3)) (d9 : decode cc (pc + 9) = .ok (.athrow, 1))
    (hR1 : names.length + 3 < R.frames) (hR2 : (st.map fun v => v.category).sum + (13 * (names.length + 1) + 43) ≤ R.locals) (hR3 : 1 ≤ R.cells ∧ 6 ≤ R.slots) :
    gX (some (k, 0, σ)) q (gG p l e R s m args below meth c D cI cJ ad A nL 0 0 (vz_MQ below Qc (gXC D cI cJ ad A q) args s 1 6 A) σ pc L st) := by
  intro hX H locs ls hls hP hS
  cases hX
  obtain ⟨hx, hb, hml, hown, hts, hK, hA, hA2, hi, hB, hZ, hlk⟩ := C
  have hn : ∀ w, w ∈ gT ∨ w ∈ gNest → w.before args s = true := fun w h => h.elim (hts w) (fun h2 => va_Nw.use (gNest_tab w h2) (gB_nest hB h2))
  have ho : ∀ w, w ∈ gT ∨ w ∈ gNest → vx_ot w = true := fun w h => by
    unfold vx_ot
    rcases h with h | h
    · rw [gT_good h, Bool.or_true]
    · rw [gNest_tab w h, Bool.true_or]
  obtain ⟨sa, hsa⟩ := hB.2.2 _ hstr
  refine vz_thr ?_
  refine vx_throwS hx hb hl hown hcls hnames (hts _ hk) (hts _ hini) hsa (fun w hw => hn w (hat w hw)) (fun w hw => ?_) hZ.1 hZ.2 hS (hls.1.trans hml.symm) d0 d3 d4 d6 d9 (fun x hx => (hnt x hx).elim) hR1 hR2 (by omega) (by omega) hlk (fun t hvm hsz hh => ⟨(), hk0, ⟨hE.symm, gP_kept hP hh⟩, ?_⟩) hS.2.2 (Nat.le_refl _) (Nat.le_refl _)
  · rcases List.mem_cons.mp hw with rfl | hw
    · exact ho _ (Or.inl hk)
    · rcases List.mem_cons.mp hw with rfl | hw
      · exact ho _ (Or.inl hini)
      · exact ho w (hat w hw)
  · exact ⟨Nat.le_trans hS.1 hsz, fun q h1 h2 => by rw [hh q (Nat.lt_of_lt_of_le h1 hS.1)]; exact hS.2.1 q h1 h2⟩
theorem g_xireti {q : Int32 × Int32 × gSt} (C : gC p s m args meth c D cI cJ ad A cc nL own) {v : Int32} (hr : meth.sig.returnType = some .int) (hdg : decode cc pc = .ok (.ireturn, 1)) : gX (some ((0 : Int32), v, σ)) q (gG p l e R s m args below meth c D cI cJ ad A nL 0 0 (vz_MQ below (gQi D cI cJ ad A q) (gXC D cI cJ ad A q) args s 1 6 A) σ pc L [.int v]) := by
  intro hX H locs ls hl hP hS
  cases hX
  have hlk : meth.locks = false := C.2.2.2.2.2.2.2.2.2.2.2
  exact vz_ret ((W.iret C.1 C.2.1 hr (fun t ht hW => ⟨⟨v, (), rfl, ⟨rfl, rfl⟩, by show va_P D vwCl _ t.heap; rw [ht]; exact hP⟩, hS.F ht⟩) hS.2.2 hdg hlk))
theorem g_xiretz {q : Int32 × Int32 × gSt} (C : gC p s m args meth c D cI cJ ad A cc nL own) {v : Int32} (hv : v = 0 ∨ v = 1) (hr : meth.sig.returnType = some .boolean) (hdg : decode cc pc = .ok (.ireturn, 1)) : gX (some ((0 : Int32), v, σ)) q (gG p l e R s m args below meth c D cI cJ ad A nL 0 0 (vz_MQ below (gQi D cI cJ ad A q) (gXC D cI cJ ad A q) args s 1 6 A) σ pc L [.int v]) := by
  intro hX H locs ls hl hP hS
  cases hX
  have hlk : meth.locks = false := C.2.2.2.2.2.2.2.2.2.2.2
  exact vz_ret ((W.zret C.1 C.2.1 hr (gz_n hv) (fun t ht hW => ⟨⟨v, (), rfl, ⟨rfl, rfl⟩, by show va_P D vwCl _ t.heap; rw [ht]; exact hP⟩, hS.F ht⟩) hS.2.2 hdg hlk))
theorem g_xretv {q : Int32 × Int32 × gSt} (C : gC p s m args meth c D cI cJ ad A cc nL own) (hr : meth.sig.returnType = none) (hdg : decode cc pc = .ok (.return_, 1)) : gX (some ((0 : Int32), (0 : Int32), σ)) q (gG p l e R s m args below meth c D cI cJ ad A nL 0 0 (vz_MQ below (gQv D cI cJ ad A q) (gXC D cI cJ ad A q) args s 1 6 A) σ pc L []) := by
  intro hX H locs ls hl hP hS
  cases hX
  have hlk : meth.locks = false := C.2.2.2.2.2.2.2.2.2.2.2
  exact vz_ret ((W.vret C.1 C.2.1 hr (fun t ht hW => ⟨⟨(), rfl, rfl, by show va_P D vwCl _ t.heap; rw [ht]; exact hP⟩, hS.F ht⟩) hS.2.2 hdg hlk))
theorem gRunVx (C : gC p s m args meth c D cI cJ ad A cc nL own) {idx c0 o n : Nat} {CN : String} {T : u_T} {y : MethodName} {yb : ByteArray} {yn : Nat} {yret : Option FieldType} {rm : Room} {As : List Value} {Qc : Array Value → State → Outcome → State → Prop} {XC : String → State → State → Prop} {free : Addr → Prop} {H : Heap} {locs : List Loc} {ls : Array Slot} {stk : List Value}
    (hM : vz_Met l y (.code y yb yn yret :: gT) rm (va_Pc (.ref (ad o) :: As) (gPre D cI cJ ad σ H.size)) Qc XC 1 6 free) (hrm : rm.cells = 1 ∧ rm.slots = 6) (hcl : gCl c0 CN T) (ho : gKd o = c0) (hw : gWv own idx CN y yb yn yret n) (hR : rm.frames + 1 ≤ R.frames ∧ 8 + (yn + 11) + rm.locals ≤ R.locals) (hn : As.length = n)
    (hl : lv_has ls nL L) (hP : va_P D vwCl (gw cI cJ ad σ) H) (hS : va_S A s.heap H locs) (hstk : stk = As.reverse ++ .ref (ad o) :: st) (hcat : (st.map fun v => v.category).sum ≤ 8) (hdg : decode cc pc = .ok (.invokevirtual idx, 3)) (hf : cells + 1 ≤ R.cells ∧ slots + 6 ≤ R.slots) :
    vz_Run p l e R s m args below meth c H locs cells slots 1 6 (F0 m pc ls stk) st (Qc (Value.ref (ad o) :: As).toArray) XC free := by
  obtain ⟨w1, w2, w3, w4, w5, w6⟩ := hw
  have hts := C.2.2.2.2.1
  have cw : CallW R s args own CN idx y yb yn yret (.code y yb yn yret :: gT) rm 1 6 n :=
    ⟨callB_of n hts (gGood (fun _ h => h) w5) rfl hrm.1 hrm.2 (by rw [w6.1]; exact hts _ w4) (hts _ w1) w6.2 hR, hts _ w2, hts _ w3⟩
  exact vz_runV ⟨C.1, C.2.1, C.2.2.1, C.2.2.2.1, hts⟩ hM cw ⟨gPre_blind, va_recv (q := (CN, T, gNf c0)) C.2.2.2.2.2.1 hP hcl.2.1 (gw_obj ho hcl.2.2), fun U hU hW => ⟨rfl, gPre_at C hP hS hU hW⟩⟩ rfl hn hl.1 hstk (lv_room hcat) hdg hf
theorem gRunSx (C : gC p s m args meth c D cI cJ ad A cc nL own) {idx n : Nat} {y : MethodName} {yb : ByteArray} {yn : Nat} {yret : Option FieldType} {rm : Room} {As : List Value} {Qc : Array Value → State → Outcome → State → Prop} {XC : String → State → State → Prop} {free : Addr → Prop} {H : Heap} {locs : List Loc} {ls : Array Slot} {stk : List Value}
    (hM : vz_Met l y (.code y yb yn yret :: gT) rm (va_Pc As (gPre D cI cJ ad σ H.size)) Qc XC 1 6 free) (hrm : rm.cells = 1 ∧ rm.slots = 6) (hw : gWs own idx y yb yn yret n) (hR : rm.frames + 1 ≤ R.frames ∧ 8 + (yn + 11) + rm.locals ≤ R.locals) (hn : As.length = n)
    (hl : lv_has ls nL L) (hP : va_P D vwCl (gw cI cJ ad σ) H) (hS : va_S A s.heap H locs) (hstk : stk = As.reverse ++ st) (hcat : (st.map fun v => v.category).sum ≤ 8) (hdg : decode cc pc = .ok (.invokestatic idx, 3)) (hf : cells + 1 ≤ R.cells ∧ slots + 6 ≤ R.slots) :
    vz_Run p l e R s m args below meth c H locs cells slots 1 6 (F0 m pc ls stk) st (Qc As.toArray) XC free := by
  obtain ⟨w1, w2, w3, w4, w6⟩ := hw
  have hts := C.2.2.2.2.1
  exact vz_runS ⟨C.1, C.2.1, C.2.2.1, C.2.2.2.1, hts⟩ hM ⟨callB_of n hts (gGood (fun _ h => h) w4) rfl hrm.1 hrm.2 (hts _ w3) (hts _ w1) w6 hR, hts _ w2⟩ ⟨gPre_blind, fun U hU hW => ⟨rfl, gPre_at C hP hS hU hW⟩⟩ rfl hn hl.1 hstk (lv_room hcat) hdg hf
/-- behind such a call, where nothing is caught: on, or out -/
theorem gConXv (C : gC p s m args meth c D cI cJ ad A cc nL own) (hnt : ∀ x ∈ c.exceptionTable.toList, False) {H : Heap} {locs : List Loc} {ls : Array Slot} {stk : List Value} {q0 q : Int32 × Int32 × gSt} {a : Array Value} {Qc : Array Value → State → Outcome → State → Prop} {K : gSt → Option (Int32 × Int32 × gSt)} (hl : lv_has ls nL L) (hS : va_S A s.heap H locs)
    (hr : vz_Run p l e R s m args below meth c H locs 0 0 1 6 (F0 m pc ls stk) st (gQv D cI cJ ad (gA ad H.size) q0 a) (gXC D cI cJ ad (gA ad H.size) q0) (gA ad H.size))
    (hX : gbx (some q0) K = some q)
    (k : ∀ σ', gX (K σ') q (gG p l e R s m args below meth c D cI cJ ad A nL 0 0 (vz_MQ below Qc (gXC D cI cJ ad A q) args s 1 6 A) σ' (pc + 3) L st)) : W p l e R s m args below meth c H locs 0 0 (vz_MQ below Qc (gXC D cI cJ ad A q) args s 1 6 A) (F0 m pc ls stk) := by
  intro T hT X
  rcases hr T hT X with ⟨v, st₀, t, T', L9, h0, X', hL, e1, e2, ⟨⟨u, hv, hp, hb⟩, hF⟩, stp⟩ | ⟨q9, st₀, t, T', L9, E, ce, h0, X', hL, e1, e2, ⟨u, hp, ⟨hE, hb⟩, hF⟩, hce, hcv, hcl, stp⟩
  · cases hv
    obtain ⟨k1, k2, k3⟩ := vx_keep h0 e1 hS (fun q _ h => gA_sub C hS q h) (gA_sub C hS) hL hF
    have hX2 : K q0.2.2 = some q := by
      have h9 : gbx (some q0) K = K q0.2.2 := if_pos hp
      rw [← h9]; exact hX
    obtain ⟨t2, a1, b1⟩ := k _ hX2 T'.heap (locs ++ L9) ls hl (by rw [e1]; exact hb) k3 T' rfl X'
    exact ⟨t2, stp t2 a1, b1⟩
  · obtain ⟨k1, k2, k3⟩ := vx_keep h0 e1 hS (fun q _ h => gA_sub C hS q h) (gA_sub C hS) hL hF
    have hX2 : some (q0.1, (0 : Int32), q0.2.2) = some q := by
      have h9 : gbx (some q0) K = some (q0.1, (0 : Int32), q0.2.2) := if_neg hp
      rw [← h9]; exact hX
    cases hX2
    have hlk : meth.locks = false := C.2.2.2.2.2.2.2.2.2.2.2
    have h1 := vx_out (p := p) (l := l) (e := e) (R := R) (s := s) (m := m) (args := args) (below := below) (meth := meth) (c := c) (H := T'.heap) (locs := locs ++ L9) (cells := 0 + 1) (slots := 0 + 6) (free := A) (ls := ls) (rest := st) (Qc := fun _ _ _ _ => False) (XC := gXC D cI cJ ad A (q0.1, (0 : Int32), q0.2.2)) (pc := pc) (E := E) (ce := ce) (q := q9) (mc := 1) (ms := 6) (fun x hx => (hnt x hx).elim) hlk (by rw [e1]; exact hce) hcv hcl
      (fun t1 ht1 _ => ⟨(), hp, ⟨hE, by show va_P D vwCl _ t1.heap; rw [ht1, e1]; exact hb⟩, k3.F ht1⟩) k3.2.2 (Nat.le_refl _) (Nat.le_refl _)
    obtain ⟨t2, a1, o, b1, b2, b3⟩ := h1 T' rfl X'
    refine ⟨t2, stp.trans a1, o, b1, b2, Or.inr ?_⟩
    rcases b3 with b3 | b3
    · exact b3.1.elim
    · exact b3
theorem g_callvx (C : gC p s m args meth c D cI cJ ad A cc nL own) (hnt : ∀ x ∈ c.exceptionTable.toList, False) {idx c0 o n : Nat} {CN : String} {T : u_T} {y : MethodName} {yb : ByteArray} {yn : Nat} {yret : Option FieldType} {rm : Room} {As : List Value} {F : gSt → Option (Int32 × Int32 × gSt)} {K : gSt → Option (Int32 × Int32 × gSt)} {stk : List Value} {q : Int32 × Int32 × gSt} {Qc : Array Value → State → Outcome → State → Prop}
    (hM : gMxv l D cI cJ ad y yb yn yret rm (.ref (ad o) :: As) F) (hrm : rm.cells = 1 ∧ rm.slots = 6) (hcl : gCl c0 CN T) (ho : gKd o = c0) (hw : gWv own idx CN y yb yn yret n) (hR : rm.frames + 1 ≤ R.frames ∧ 8 + (yn + 11) + rm.locals ≤ R.locals) (hn : As.length = n) (hstk : stk = As.reverse ++ .ref (ad o) :: st) (hcat : (st.map fun v => v.category).sum ≤ 8) (hdg : decode cc pc = .ok (.invokevirtual idx, 3)) (hf : 0 + 1 ≤ R.cells ∧ 0 + 6 ≤ R.slots)
    (k : ∀ σ', gX (K σ') q (gG p l e R s m args below meth c D cI cJ ad A nL 0 0 (vz_MQ below Qc (gXC D cI cJ ad A q) args s 1 6 A) σ' (pc + 3) L st)) : gX (gbx (F σ) K) q (gG p l e R s m args below meth c D cI cJ ad A nL 0 0 (vz_MQ below Qc (gXC D cI cJ ad A q) args s 1 6 A) σ pc L stk) := by
  intro hX
  cases hF : F σ with
  | none => rw [hF] at hX; cases hX
  | some q0 =>
    rw [hF] at hX
    intro H locs ls hl hP hS
    exact gConXv C hnt hl hS (gRunVx C (hM _ _ _ hF) hrm hcl ho hw hR hn hl hP hS hstk hcat hdg hf) hX k
theorem g_callsx (C : gC p s m args meth c D cI cJ ad A cc nL own) (hnt : ∀ x ∈ c.exceptionTable.toList, False) {idx n : Nat} {y : MethodName} {yb : ByteArray} {yn : Nat} {yret : Option FieldType} {rm : Room} {As : List Value} {F : gSt → Option (Int32 × Int32 × gSt)} {K : gSt → Option (Int32 × Int32 × gSt)} {stk : List Value} {q : Int32 × Int32 × gSt} {Qc : Array Value → State → Outcome → State → Prop}
    (hM : gMxv l D cI cJ ad y yb yn yret rm As F) (hrm : rm.cells = 1 ∧ rm.slots = 6) (hw : gWs own idx y yb yn yret n) (hR : rm.frames + 1 ≤ R.frames ∧ 8 + (yn + 11) + rm.locals ≤ R.locals) (hn : As.length = n) (hstk : stk = As.reverse ++ st) (hcat : (st.map fun v => v.category).sum ≤ 8) (hdg : decode cc pc = .ok (.invokestatic idx, 3)) (hf : 0 + 1 ≤ R.cells ∧ 0 + 6 ≤ R.slots)
    (k : ∀ σ', gX (K σ') q (gG p l e R s m args below meth c D cI cJ ad A nL 0 0 (vz_MQ below Qc (gXC D cI cJ ad A q) args s 1 6 A) σ' (pc + 3) L st)) : gX (gbx (F σ) K) q (gG p l e R s m args below meth c D cI cJ ad A nL 0 0 (vz_MQ below Qc (gXC D cI cJ ad A q) args s 1 6 A) σ pc L stk) := by
  intro hX
  cases hF : F σ with
  | none => rw [hF] at hX; cases hX
  | some q0 =>
    rw [hF] at hX
    intro H locs ls hl hP hS
    exact gConXv C hnt hl hS (gRunSx C (hM _ _ _ hF) hrm hw hR hn hl hP hS hstk hcat hdg hf) hX k
theorem gStartXi {y : MethodName} {yb : ByteArray} {yn : Nat} {yret : Option FieldType} {rm : Room} {av : List Value} {F : gSt → Option (Int32 × Int32 × gSt)} {L0 : List (Nat × Value)} (own : String) (hy : plainName y.cls = true) (hyc : y.cls = own) (hL0 : lv_args 0 av = L0) (hlen : (lg_sl av).length ≤ yn)
    (body : ∀ (p : Program) (e : Env) (s : State) (m : MethodId) (args : Array Value) (below : List Frame) (meth : Method) (c : Code) (sz : Nat) (σ : gSt) (q : Int32 × Int32 × gSt), gC p s m args meth c D cI cJ ad (gA ad sz) yb yn own → meth.sig.returnType = yret → (∀ x ∈ c.exceptionTable.toList, False) →
      gX (F σ) q (gG p l e rm s m args below meth c D cI cJ ad (gA ad sz) yn 0 0 (vz_MQ below (gQi D cI cJ ad (gA ad sz) q) (gXC D cI cJ ad (gA ad sz) q) args s 1 6 (gA ad sz)) σ 0 L0 [])) : gMxi l D cI cJ ad y yb yn yret rm av F := by
  intro σ q sz hF
  refine vz_ofW (cc := yb) (maxL := yn) (ret := yret) hy rfl ?_
  intro p e s m args below meth c s₁ B hml hnt hv
  obtain ⟨rfl, hsz, hP, hK, hi, hB, hZ⟩ := hv
  have hts := atoms_spec (ws := .code y yb yn yret :: gT) B.pre
  have hown : s.vm.findClass own = some m.cls := by rw [← hyc]; exact findClass_of_methodNamed B.named
  have hl := lv_entry av (n := yn) hlen
  rw [lg_entry_eq]
  rw [hL0] at hl
  subst hsz
  exact body p e s m _ below meth c s.heap.size σ q ⟨B.exec, B.bytes, hml, hown, fun w hw => hts w (List.mem_cons_of_mem _ hw), hK, fun q h => Or.inr h, fun k hk => Or.inl ⟨k, hk, rfl⟩, hi, hB, hZ, B.notSynchronized⟩ B.returns hnt hF s.heap [] _ hl hP va_S.rf
theorem gStartXv {y : MethodName} {yb : ByteArray} {yn : Nat} {yret : Option FieldType} {rm : Room} {av : List Value} {F : gSt → Option (Int32 × Int32 × gSt)} {L0 : List (Nat × Value)} (own : String) (hy : plainName y.cls = true) (hyc : y.cls = own) (hL0 : lv_args 0 av = L0) (hlen : (lg_sl av).length ≤ yn)
    (body : ∀ (p : Program) (e : Env) (s : State) (m : MethodId) (args : Array Value) (below : List Frame) (meth : Method) (c : Code) (sz : Nat) (σ : gSt) (q : Int32 × Int32 × gSt), gC p s m args meth c D cI cJ ad (gA ad sz) yb yn own → meth.sig.returnType = yret → (∀ x ∈ c.exceptionTable.toList, False) →
      gX (F σ) q (gG p l e rm s m args below meth c D cI cJ ad (gA ad sz) yn 0 0 (vz_MQ below (gQv D cI cJ ad (gA ad sz) q) (gXC D cI cJ ad (gA ad sz) q) args s 1 6 (gA ad sz)) σ 0 L0 [])) : gMxv l D cI cJ ad y yb yn yret rm av F := by
  intro σ q sz hF
  refine vz_ofW (cc := yb) (maxL := yn) (ret := yret) hy rfl ?_
  intro p e s m args below meth c s₁ B hml hnt hv
  obtain ⟨rfl, hsz, hP, hK, hi, hB, hZ⟩ := hv
  have hts := atoms_spec (ws := .code y yb yn yret :: gT) B.pre
  have hown : s.vm.findClass own = some m.cls := by rw [← hyc]; exact findClass_of_methodNamed B.named
  have hl := lv_entry av (n := yn) hlen
  rw [lg_entry_eq]
  rw [hL0] at hl
  subst hsz
  exact body p e s m _ below meth c s.heap.size σ q ⟨B.exec, B.bytes, hml, hown, fun w hw => hts w (List.mem_cons_of_mem _ hw), hK, fun q h => Or.inr h, fun k hk => Or.inl ⟨k, hk, rfl⟩, hi, hB, hZ, B.notSynchronized⟩ B.returns hnt hF s.heap [] _ hl hP va_S.rf
end GT
/-! places: the sides and the courts -/
def gIsSide (k : Nat) : Prop := k = 2 ∨ k = 5 ∨ k = 9 ∨ k = 12 ∨ k = 20 ∨ k = 23
def gIsCourt (k : Nat) : Prop := k = 1 ∨ k = 8 ∨ k = 19
theorem gRs_2 {k a b : Nat} (h : gRs.getD k [] = [some a, some b]) : ∀ j, 2 ≤ j → gRf k j = none := by
  intro j hj
  unfold gRf
  rw [h, List.getD_eq_getElem?_getD, List.getElem?_eq_none (by simpa using hj)]
  rfl
theorem gSd {k : Nat} (h : gIsSide k) : gKd k = 4 ∧ gRf k 0 = some (k + 1) ∧ gRf k 1 = some (k + 2) ∧ (∀ j, 2 ≤ j → gRf k j = none) ∧ gKd (k + 1) = 7 ∧ gKd (k + 2) = 7 ∧ gLn (k + 1) = 7 ∧ gLn (k + 2) = 21 := by
  rcases h with rfl | rfl | rfl | rfl | rfl | rfl <;> exact ⟨rfl, rfl, rfl, gRs_2 rfl, rfl, rfl, rfl, rfl⟩
theorem gs2 : gIsSide 2 := Or.inl rfl
theorem gs5 : gIsSide 5 := Or.inr (Or.inl rfl)
theorem gs9 : gIsSide 9 := Or.inr (Or.inr (Or.inl rfl))
theorem gs12 : gIsSide 12 := Or.inr (Or.inr (Or.inr (Or.inl rfl)))
theorem gs20 : gIsSide 20 := Or.inr (Or.inr (Or.inr (Or.inr (Or.inl rfl))))
theorem gs23 : gIsSide 23 := Or.inr (Or.inr (Or.inr (Or.inr (Or.inr rfl))))
theorem gc1 : gIsCourt 1 := Or.inl rfl
theorem gc8 : gIsCourt 8 := Or.inr (Or.inl rfl)
theorem gc19 : gIsCourt 19 := Or.inr (Or.inr rfl)
theorem gCt {k : Nat} (h : gIsCourt k) : gKd k = 0 ∧ gRf k 0 = some (k + 1) ∧ gRf k 1 = some (k + 4) ∧ (∀ j, 2 ≤ j → gRf k j = none) ∧ gIsSide (k + 1) ∧ gIsSide (k + 4) := by
  rcases h with rfl | rfl | rfl
  · exact ⟨rfl, rfl, rfl, gRs_2 rfl, gs2, gs5⟩
  · exact ⟨rfl, rfl, rfl, gRs_2 rfl, gs9, gs12⟩
  · exact ⟨rfl, rfl, rfl, gRs_2 rfl, gs20, gs23⟩
section GN
variable {p : Program} {l : Launch} {e : Env} {R : Room} {s : State} {m : MethodId} {args : Array Value} {below : List Frame} {meth : Method} {c : Code} {D : va_G} {cI cJ : ClassId} {ad : Nat → Nat} {A : Nat → Prop} {cc : ByteArray} {nL : Nat} {own : String} {cells slots : Nat} {Q : State → Prop} {σ : gSt} {pc : Nat} {L L' : List (Nat × Value)} {st : List Value}
variable {ρ : Type} {X X1 X2 : Option ρ} {res : ρ}
theorem g_name {v : Int32} {K : Int32 → Option ρ} (k : ∀ x : Int32, gX (K x) res (gG p l e R s m args below meth c D cI cJ ad A nL cells slots Q σ pc L (.int x :: st))) : gX (gl v K) res (gG p l e R s m args below meth c D cI cJ ad A nL cells slots Q σ pc L (.int v :: st)) := k v
theorem g_iaddK (C : gC p s m args meth c D cI cJ ad A cc nL own) {x y v : Int32} (hdg : decode cc pc = .ok (.iadd, 1)) (hv : x + y = v) (k : gX X res (gG p l e R s m args below meth c D cI cJ ad A nL cells slots Q σ (pc + 1) L (.int v :: st))) : gX X res (gG p l e R s m args below meth c D cI cJ ad A nL cells slots Q σ pc L (.int y :: .int x :: st)) := by
  subst hv
  exact g_iadd C hdg k
theorem g_isubK (C : gC p s m args meth c D cI cJ ad A cc nL own) {x y v : Int32} (hdg : decode cc pc = .ok (.isub, 1)) (hv : x - y = v) (k : gX X res (gG p l e R s m args below meth c D cI cJ ad A nL cells slots Q σ (pc + 1) L (.int v :: st))) : gX X res (gG p l e R s m args below meth c D cI cJ ad A nL cells slots Q σ pc L (.int y :: .int x :: st)) := by
  subst hv
  exact g_isub C hdg k
theorem g_imulK (C : gC p s m args meth c D cI cJ ad A cc nL own) {x y v : Int32} (hdg : decode cc pc = .ok (.imul, 1)) (hv : x * y = v) (k : gX X res (gG p l e R s m args below meth c D cI cJ ad A nL cells slots Q σ (pc + 1) L (.int v :: st))) : gX X res (gG p l e R s m args below meth c D cI cJ ad A nL cells slots Q σ pc L (.int y :: .int x :: st)) := by
  subst hv
  exact g_imul C hdg k
end GN
end
section
/-! by program (wip/whole/gen): the words and calls that the methods' walks use, their pictures and contracts -/
theorem gin0 : ∀ w ∈ u_ws RX0 TX0 (gNf 0), w ∈ gT := fun w h => gT_in ((show ∀ w ∈ u_ws RX0 TX0 (gNf 0), w ∈ lw_tbl by decide +kernel) w h) ((show ∀ w ∈ u_ws RX0 TX0 (gNf 0), goodWord w = true by decide +kernel) w h)
theorem gcl0 : gCl 0 RX0 TX0 := ⟨gin0, rfl, by decide⟩
theorem gft0 : gFt 0 TX0 tyX0 := ⟨tyX0_ok, nmX0⟩
theorem gin1 : ∀ w ∈ u_ws RX1 TX1 (gNf 1), w ∈ gT := fun w h => gT_in ((show ∀ w ∈ u_ws RX1 TX1 (gNf 1), w ∈ lw_tbl by decide +kernel) w h) ((show ∀ w ∈ u_ws RX1 TX1 (gNf 1), goodWord w = true by decide +kernel) w h)
theorem gcl1 : gCl 1 RX1 TX1 := ⟨gin1, rfl, by decide⟩
theorem gft1 : gFt 1 TX1 tyX1 := ⟨tyX1_ok, nmX1⟩
theorem gin2 : ∀ w ∈ u_ws RX2 TX2 (gNf 2), w ∈ gT := fun w h => gT_in ((show ∀ w ∈ u_ws RX2 TX2 (gNf 2), w ∈ lw_tbl by decide +kernel) w h) ((show ∀ w ∈ u_ws RX2 TX2 (gNf 2), goodWord w = true by decide +kernel) w h)
theorem gcl2 : gCl 2 RX2 TX2 := ⟨gin2, rfl, by decide⟩
theorem gft2 : gFt 2 TX2 tyX2 := ⟨tyX2_ok, nmX2⟩
theorem gin3 : ∀ w ∈ u_ws RX3 TX3 (gNf 3), w ∈ gT := fun w h => gT_in ((show ∀ w ∈ u_ws RX3 TX3 (gNf 3), w ∈ lw_tbl by decide +kernel) w h) ((show ∀ w ∈ u_ws RX3 TX3 (gNf 3), goodWord w = true by decide +kernel) w h)
theorem gcl3 : gCl 3 RX3 TX3 := ⟨gin3, rfl, by decide⟩
theorem gft3 : gFt 3 TX3 tyX3 := ⟨tyX3_ok, nmX3⟩
theorem gin4 : ∀ w ∈ u_ws RX4 TX4 (gNf 4), w ∈ gT := fun w h => gT_in ((show ∀ w ∈ u_ws RX4 TX4 (gNf 4), w ∈ lw_tbl by decide +kernel) w h) ((show ∀ w ∈ u_ws RX4 TX4 (gNf 4), goodWord w = true by decide +kernel) w h)
theorem gcl4 : gCl 4 RX4 TX4 := ⟨gin4, rfl, by decide⟩
theorem gft4 : gFt 4 TX4 tyX4 := ⟨tyX4_ok, nmX4⟩
theorem gin5 : ∀ w ∈ u_ws RX5 TX5 (gNf 5), w ∈ gT := fun w h => gT_in ((show ∀ w ∈ u_ws RX5 TX5 (gNf 5), w ∈ lw_tbl by decide +kernel) w h) ((show ∀ w ∈ u_ws RX5 TX5 (gNf 5), goodWord w = true by decide +kernel) w h)
theorem gcl5 : gCl 5 RX5 TX5 := ⟨gin5, rfl, by decide⟩
theorem gft5 : gFt 5 TX5 tyX5 := ⟨tyX5_ok, nmX5⟩
theorem gin6 : ∀ w ∈ u_ws RX6 TX6 (gNf 6), w ∈ gT := fun w h => gT_in ((show ∀ w ∈ u_ws RX6 TX6 (gNf 6), w ∈ lw_tbl by decide +kernel) w h) ((show ∀ w ∈ u_ws RX6 TX6 (gNf 6), goodWord w = true by decide +kernel) w h)
theorem gcl6 : gCl 6 RX6 TX6 := ⟨gin6, rfl, by decide⟩
theorem gft6 : gFt 6 TX6 tyX6 := ⟨tyX6_ok, nmX6⟩
theorem qw1 : Cond.fieldLink RX0 18 (TX0 1).1 (TX0 1).2.1 (TX0 1).2.2.1 ∈ gT := gT_in (by decide +kernel) (by decide +kernel)
theorem qw2 : Cond.fieldLink RX0 12 (TX0 0).1 (TX0 0).2.1 (TX0 0).2.2.1 ∈ gT := gT_in (by decide +kernel) (by decide +kernel)
theorem qw3 : Cond.fieldLink RX0 21 (TX0 2).1 (TX0 2).2.1 (TX0 2).2.2.1 ∈ gT := gT_in (by decide +kernel) (by decide +kernel)
theorem qn4 : Cond.fieldLinkNest RX0 28 (TX4 5).1 (TX4 5).2.1 (TX4 5).2.2.1 "Rotationary" ∈ gNest := by decide +kernel
theorem qw5 : Cond.fieldLink RX4 43 (TX4 4).1 (TX4 4).2.1 (TX4 4).2.2.1 ∈ gT := gT_in (by decide +kernel) (by decide +kernel)
theorem qw6 : Cond.fieldLink RX4 46 (TX4 6).1 (TX4 6).2.1 (TX4 6).2.2.1 ∈ gT := gT_in (by decide +kernel) (by decide +kernel)
theorem qw7 : Cond.fieldLink RX4 49 (TX4 7).1 (TX4 7).2.1 (TX4 7).2.2.1 ∈ gT := gT_in (by decide +kernel) (by decide +kernel)
theorem qw8 : Cond.fieldLink RX4 25 (TX4 8).1 (TX4 8).2.1 (TX4 8).2.2.1 ∈ gT := gT_in (by decide +kernel) (by decide +kernel)
theorem qw9 : Cond.fieldLink RX4 52 (TX4 9).1 (TX4 9).2.1 (TX4 9).2.2.1 ∈ gT := gT_in (by decide +kernel) (by decide +kernel)
theorem qw10 : Cond.fieldLink RX4 15 (TX4 1).1 (TX4 1).2.1 (TX4 1).2.2.1 ∈ gT := gT_in (by decide +kernel) (by decide +kernel)
theorem qn11 : Cond.methodLinkNest RX4 28 yX5_putIn "Rotationary" ∈ gNest := by decide +kernel
theorem qw12 : Cond.static yX5_putIn ∈ gT := gT_in (by decide +kernel) (by decide +kernel)
theorem qw13 : Cond.initialized yX5_putIn.cls ∈ gT := gT_in (by decide +kernel) (by decide +kernel)
theorem qw14 : Cond.code yX5_putIn cX5_putIn 3 none ∈ gT := gT_in (by decide +kernel) (by decide +kernel)
theorem qw15 : Cond.methodLink RX0 31 yX4_startSet ∈ gT := gT_in (by decide +kernel) (by decide +kernel)
theorem qw16 : Cond.instanceMethod yX4_startSet ∈ gT := gT_in (by decide +kernel) (by decide +kernel)
theorem qw17 : Cond.selects RX4 yX4_startSet yX4_startSet ∈ gT := gT_in (by decide +kernel) (by decide +kernel)
theorem qw18 : Cond.initialized RX4 ∈ gT := gT_in (by decide +kernel) (by decide +kernel)
theorem qw19 : Cond.code yX4_startSet cX4_startSet 2 none ∈ gT := gT_in (by decide +kernel) (by decide +kernel)
theorem qw20 : Cond.fieldLink RX0 25 (TX0 3).1 (TX0 3).2.1 (TX0 3).2.2.1 ∈ gT := gT_in (by decide +kernel) (by decide +kernel)
theorem qw21 : Cond.fieldLink RX4 9 (TX4 0).1 (TX4 0).2.1 (TX4 0).2.2.1 ∈ gT := gT_in (by decide +kernel) (by decide +kernel)
theorem qn22 : Cond.methodLinkNest RX4 32 yX5_valueIn "Rotationary" ∈ gNest := by decide +kernel
theorem qw23 : Cond.static yX5_valueIn ∈ gT := gT_in (by decide +kernel) (by decide +kernel)
theorem qw24 : Cond.initialized yX5_valueIn.cls ∈ gT := gT_in (by decide +kernel) (by decide +kernel)
theorem qw25 : Cond.code yX5_valueIn cX5_valueIn 2 (some .int) ∈ gT := gT_in (by decide +kernel) (by decide +kernel)
theorem qw26 : Cond.methodLink RX0 34 yX0_sideOf ∈ gT := gT_in (by decide +kernel) (by decide +kernel)
theorem qw27 : Cond.instanceMethod yX0_sideOf ∈ gT := gT_in (by decide +kernel) (by decide +kernel)
theorem qw28 : Cond.selects RX0 yX0_sideOf yX0_sideOf ∈ gT := gT_in (by decide +kernel) (by decide +kernel)
theorem qw29 : Cond.initialized RX0 ∈ gT := gT_in (by decide +kernel) (by decide +kernel)
theorem qw30 : Cond.code yX0_sideOf cX0_sideOf 2 (some (.object "Rotationary$Side")) ∈ gT := gT_in (by decide +kernel) (by decide +kernel)
theorem qw31 : Cond.methodLink RX0 38 yX4_shirtIn ∈ gT := gT_in (by decide +kernel) (by decide +kernel)
theorem qw32 : Cond.instanceMethod yX4_shirtIn ∈ gT := gT_in (by decide +kernel) (by decide +kernel)
theorem qw33 : Cond.selects RX4 yX4_shirtIn yX4_shirtIn ∈ gT := gT_in (by decide +kernel) (by decide +kernel)
theorem qw34 : Cond.code yX4_shirtIn cX4_shirtIn 2 (some .int) ∈ gT := gT_in (by decide +kernel) (by decide +kernel)
theorem qn35 : Cond.fieldLinkNest RX0 42 (TX4 4).1 (TX4 4).2.1 (TX4 4).2.2.1 "Rotationary" ∈ gNest := by decide +kernel
theorem qn36 : Cond.fieldLinkNest RX0 45 (TX4 9).1 (TX4 9).2.1 (TX4 9).2.2.1 "Rotationary" ∈ gNest := by decide +kernel
theorem qw37 : Cond.fieldLink RX4 22 (TX4 3).1 (TX4 3).2.1 (TX4 3).2.2.1 ∈ gT := gT_in (by decide +kernel) (by decide +kernel)
theorem qw38 : Cond.methodLink RX4 36 yX4_shirtIn ∈ gT := gT_in (by decide +kernel) (by decide +kernel)
theorem qw39 : Cond.methodLink RX4 56 yX4_put ∈ gT := gT_in (by decide +kernel) (by decide +kernel)
theorem qw40 : Cond.instanceMethod yX4_put ∈ gT := gT_in (by decide +kernel) (by decide +kernel)
theorem qw41 : Cond.selects RX4 yX4_put yX4_put ∈ gT := gT_in (by decide +kernel) (by decide +kernel)
theorem qw42 : Cond.code yX4_put cX4_put 3 none ∈ gT := gT_in (by decide +kernel) (by decide +kernel)
theorem qw43 : Cond.methodLink RX4 60 yX4_isLiberoIn ∈ gT := gT_in (by decide +kernel) (by decide +kernel)
theorem qw44 : Cond.instanceMethod yX4_isLiberoIn ∈ gT := gT_in (by decide +kernel) (by decide +kernel)
theorem qw45 : Cond.selects RX4 yX4_isLiberoIn yX4_isLiberoIn ∈ gT := gT_in (by decide +kernel) (by decide +kernel)
theorem qw46 : Cond.code yX4_isLiberoIn cX4_isLiberoIn 1 (some .boolean) ∈ gT := gT_in (by decide +kernel) (by decide +kernel)
theorem qw47 : Cond.fieldLink RX4 18 (TX4 2).1 (TX4 2).2.1 (TX4 2).2.2.1 ∈ gT := gT_in (by decide +kernel) (by decide +kernel)
theorem qw48 : Cond.methodLink RX0 49 yX4_rotate ∈ gT := gT_in (by decide +kernel) (by decide +kernel)
theorem qw49 : Cond.instanceMethod yX4_rotate ∈ gT := gT_in (by decide +kernel) (by decide +kernel)
theorem qw50 : Cond.selects RX4 yX4_rotate yX4_rotate ∈ gT := gT_in (by decide +kernel) (by decide +kernel)
theorem qw51 : Cond.code yX4_rotate cX4_rotate 3 none ∈ gT := gT_in (by decide +kernel) (by decide +kernel)
theorem qw52 : Cond.methodLink RX0 52 yX0_givePoint ∈ gT := gT_in (by decide +kernel) (by decide +kernel)
theorem qw53 : Cond.instanceMethod yX0_givePoint ∈ gT := gT_in (by decide +kernel) (by decide +kernel)
theorem qw54 : Cond.selects RX0 yX0_givePoint yX0_givePoint ∈ gT := gT_in (by decide +kernel) (by decide +kernel)
theorem qw55 : Cond.code yX0_givePoint cX0_givePoint 3 none ∈ gT := gT_in (by decide +kernel) (by decide +kernel)
theorem qw56 : Cond.methodLink RX0 56 yX0_setsPlayed ∈ gT := gT_in (by decide +kernel) (by decide +kernel)
theorem qw57 : Cond.instanceMethod yX0_setsPlayed ∈ gT := gT_in (by decide +kernel) (by decide +kernel)
theorem qw58 : Cond.selects RX0 yX0_setsPlayed yX0_setsPlayed ∈ gT := gT_in (by decide +kernel) (by decide +kernel)
theorem qw59 : Cond.code yX0_setsPlayed cX0_setsPlayed 1 (some .int) ∈ gT := gT_in (by decide +kernel) (by decide +kernel)
theorem qw60 : Cond.methodLink RX0 60 yX4_clearOrder ∈ gT := gT_in (by decide +kernel) (by decide +kernel)
theorem qw61 : Cond.instanceMethod yX4_clearOrder ∈ gT := gT_in (by decide +kernel) (by decide +kernel)
theorem qw62 : Cond.selects RX4 yX4_clearOrder yX4_clearOrder ∈ gT := gT_in (by decide +kernel) (by decide +kernel)
theorem qw63 : Cond.code yX4_clearOrder cX4_clearOrder 2 none ∈ gT := gT_in (by decide +kernel) (by decide +kernel)
theorem qw64 : Cond.fieldLink RX4 68 (TX4 5).1 (TX4 5).2.1 (TX4 5).2.2.1 ∈ gT := gT_in (by decide +kernel) (by decide +kernel)
theorem qw65 : Cond.methodLink RX0 63 yX4_copyFrom ∈ gT := gT_in (by decide +kernel) (by decide +kernel)
theorem qw66 : Cond.instanceMethod yX4_copyFrom ∈ gT := gT_in (by decide +kernel) (by decide +kernel)
theorem qw67 : Cond.selects RX4 yX4_copyFrom yX4_copyFrom ∈ gT := gT_in (by decide +kernel) (by decide +kernel)
theorem qw68 : Cond.code yX4_copyFrom cX4_copyFrom 3 none ∈ gT := gT_in (by decide +kernel) (by decide +kernel)
theorem qw69 : Cond.fieldLink RX1 9 (TX1 0).1 (TX1 0).2.1 (TX1 0).2.2.1 ∈ gT := gT_in (by decide +kernel) (by decide +kernel)
theorem qw70 : Cond.fieldLink RX1 15 (TX1 1).1 (TX1 1).2.1 (TX1 1).2.2.1 ∈ gT := gT_in (by decide +kernel) (by decide +kernel)
theorem qw71 : Cond.fieldLink RX1 19 (TX1 2).1 (TX1 2).2.1 (TX1 2).2.2.1 ∈ gT := gT_in (by decide +kernel) (by decide +kernel)
theorem qw72 : Cond.fieldLink RX1 22 (TX1 3).1 (TX1 3).2.1 (TX1 3).2.2.1 ∈ gT := gT_in (by decide +kernel) (by decide +kernel)
theorem qw73 : Cond.fieldLink RX1 25 (TX1 4).1 (TX1 4).2.1 (TX1 4).2.2.1 ∈ gT := gT_in (by decide +kernel) (by decide +kernel)
theorem qw74 : Cond.fieldLink RX1 28 (TX1 5).1 (TX1 5).2.1 (TX1 5).2.2.1 ∈ gT := gT_in (by decide +kernel) (by decide +kernel)
theorem qw75 : Cond.fieldLink RX1 31 (TX1 6).1 (TX1 6).2.1 (TX1 6).2.2.1 ∈ gT := gT_in (by decide +kernel) (by decide +kernel)
theorem qw76 : Cond.fieldLink RX2 12 (TX2 0).1 (TX2 0).2.1 (TX2 0).2.2.1 ∈ gT := gT_in (by decide +kernel) (by decide +kernel)
theorem qn77 : Cond.fieldLinkNest RX2 62 (TX0 0).1 (TX0 0).2.1 (TX0 0).2.2.1 "Rotationary" ∈ gNest := by decide +kernel
theorem qw78 : Cond.methodLink RX2 66 yX4_clearOrder ∈ gT := gT_in (by decide +kernel) (by decide +kernel)
theorem qn79 : Cond.fieldLinkNest RX2 71 (TX0 1).1 (TX0 1).2.1 (TX0 1).2.2.1 "Rotationary" ∈ gNest := by decide +kernel
theorem qw80 : Cond.fieldLink RX2 18 (TX2 1).1 (TX2 1).2.1 (TX2 1).2.2.1 ∈ gT := gT_in (by decide +kernel) (by decide +kernel)
theorem qn81 : Cond.methodLinkNest RX2 74 yX5_putIn "Rotationary" ∈ gNest := by decide +kernel
theorem qw82 : Cond.fieldLink RX2 22 (TX2 2).1 (TX2 2).2.1 (TX2 2).2.2.1 ∈ gT := gT_in (by decide +kernel) (by decide +kernel)
theorem qw83 : Cond.fieldLink RX3 9 (TX3 0).1 (TX3 0).2.1 (TX3 0).2.2.1 ∈ gT := gT_in (by decide +kernel) (by decide +kernel)
theorem qn84 : Cond.methodLinkNest RX3 23 yX5_valueIn "Rotationary" ∈ gNest := by decide +kernel
theorem qw85 : Cond.methodLink RX2 54 yX2_rowOf ∈ gT := gT_in (by decide +kernel) (by decide +kernel)
theorem qw86 : Cond.instanceMethod yX2_rowOf ∈ gT := gT_in (by decide +kernel) (by decide +kernel)
theorem qw87 : Cond.selects RX2 yX2_rowOf yX2_rowOf ∈ gT := gT_in (by decide +kernel) (by decide +kernel)
theorem qw88 : Cond.initialized RX2 ∈ gT := gT_in (by decide +kernel) (by decide +kernel)
theorem qw89 : Cond.code yX2_rowOf cX2_rowOf 2 (some (.array .int)) ∈ gT := gT_in (by decide +kernel) (by decide +kernel)
theorem qn90 : Cond.methodLinkNest RX2 58 yX5_valueIn "Rotationary" ∈ gNest := by decide +kernel
theorem qw91 : Cond.methodLink RX2 78 yX0_sideOf ∈ gT := gT_in (by decide +kernel) (by decide +kernel)
theorem qn92 : Cond.fieldLinkNest RX2 113 (TX4 6).1 (TX4 6).2.1 (TX4 6).2.2.1 "Rotationary" ∈ gNest := by decide +kernel
theorem qw93 : Cond.methodLink RX2 116 yX2_lostBy ∈ gT := gT_in (by decide +kernel) (by decide +kernel)
theorem qw94 : Cond.instanceMethod yX2_lostBy ∈ gT := gT_in (by decide +kernel) (by decide +kernel)
theorem qw95 : Cond.selects RX2 yX2_lostBy yX2_lostBy ∈ gT := gT_in (by decide +kernel) (by decide +kernel)
theorem qw96 : Cond.code yX2_lostBy cX2_lostBy 3 (some .int) ∈ gT := gT_in (by decide +kernel) (by decide +kernel)
theorem qw97 : Cond.methodLink RX4 40 yX4_placeOf ∈ gT := gT_in (by decide +kernel) (by decide +kernel)
theorem qw98 : Cond.instanceMethod yX4_placeOf ∈ gT := gT_in (by decide +kernel) (by decide +kernel)
theorem qw99 : Cond.selects RX4 yX4_placeOf yX4_placeOf ∈ gT := gT_in (by decide +kernel) (by decide +kernel)
theorem qw100 : Cond.code yX4_placeOf cX4_placeOf 3 (some .int) ∈ gT := gT_in (by decide +kernel) (by decide +kernel)
theorem qw101 : Cond.methodLink RX2 82 yX4_put ∈ gT := gT_in (by decide +kernel) (by decide +kernel)
theorem qn102 : Cond.fieldLinkNest RX2 86 (TX4 2).1 (TX4 2).2.1 (TX4 2).2.2.1 "Rotationary" ∈ gNest := by decide +kernel
theorem qw103 : Cond.methodLink RX2 89 yX0_startSet ∈ gT := gT_in (by decide +kernel) (by decide +kernel)
theorem qw104 : Cond.instanceMethod yX0_startSet ∈ gT := gT_in (by decide +kernel) (by decide +kernel)
theorem qw105 : Cond.selects RX0 yX0_startSet yX0_startSet ∈ gT := gT_in (by decide +kernel) (by decide +kernel)
theorem qw106 : Cond.code yX0_startSet cX0_startSet 2 none ∈ gT := gT_in (by decide +kernel) (by decide +kernel)
theorem qw107 : Cond.methodLink RX2 93 yX0_takeService ∈ gT := gT_in (by decide +kernel) (by decide +kernel)
theorem qw108 : Cond.instanceMethod yX0_takeService ∈ gT := gT_in (by decide +kernel) (by decide +kernel)
theorem qw109 : Cond.selects RX0 yX0_takeService yX0_takeService ∈ gT := gT_in (by decide +kernel) (by decide +kernel)
theorem qw110 : Cond.code yX0_takeService cX0_takeService 4 (some .boolean) ∈ gT := gT_in (by decide +kernel) (by decide +kernel)
theorem qw111 : Cond.methodLink RX2 97 yX2_countLost ∈ gT := gT_in (by decide +kernel) (by decide +kernel)
theorem qw112 : Cond.instanceMethod yX2_countLost ∈ gT := gT_in (by decide +kernel) (by decide +kernel)
theorem qw113 : Cond.selects RX2 yX2_countLost yX2_countLost ∈ gT := gT_in (by decide +kernel) (by decide +kernel)
theorem qw114 : Cond.code yX2_countLost cX2_countLost 3 none ∈ gT := gT_in (by decide +kernel) (by decide +kernel)
theorem qw115 : Cond.methodLink RX2 100 yX0_givePoint ∈ gT := gT_in (by decide +kernel) (by decide +kernel)
theorem qw116 : Cond.methodLink RX2 103 yX0_takeBack ∈ gT := gT_in (by decide +kernel) (by decide +kernel)
theorem qw117 : Cond.instanceMethod yX0_takeBack ∈ gT := gT_in (by decide +kernel) (by decide +kernel)
theorem qw118 : Cond.selects RX0 yX0_takeBack yX0_takeBack ∈ gT := gT_in (by decide +kernel) (by decide +kernel)
theorem qw119 : Cond.code yX0_takeBack cX0_takeBack 3 (some .int) ∈ gT := gT_in (by decide +kernel) (by decide +kernel)
theorem qw120 : Cond.methodLink RX2 107 yX4_swapLibero ∈ gT := gT_in (by decide +kernel) (by decide +kernel)
theorem qw121 : Cond.instanceMethod yX4_swapLibero ∈ gT := gT_in (by decide +kernel) (by decide +kernel)
theorem qw122 : Cond.selects RX4 yX4_swapLibero yX4_swapLibero ∈ gT := gT_in (by decide +kernel) (by decide +kernel)
theorem qw123 : Cond.code yX4_swapLibero cX4_swapLibero 2 none ∈ gT := gT_in (by decide +kernel) (by decide +kernel)
theorem qw124 : Cond.methodLink RX2 110 yX4_swapByPair ∈ gT := gT_in (by decide +kernel) (by decide +kernel)
theorem qw125 : Cond.instanceMethod yX4_swapByPair ∈ gT := gT_in (by decide +kernel) (by decide +kernel)
theorem qw126 : Cond.selects RX4 yX4_swapByPair yX4_swapByPair ∈ gT := gT_in (by decide +kernel) (by decide +kernel)
theorem qw127 : Cond.code yX4_swapByPair cX4_swapByPair 4 none ∈ gT := gT_in (by decide +kernel) (by decide +kernel)
theorem qw128 : Cond.methodLink RX2 25 yX2_clear ∈ gT := gT_in (by decide +kernel) (by decide +kernel)
theorem qw129 : Cond.instanceMethod yX2_clear ∈ gT := gT_in (by decide +kernel) (by decide +kernel)
theorem qw130 : Cond.selects RX2 yX2_clear yX2_clear ∈ gT := gT_in (by decide +kernel) (by decide +kernel)
theorem qw131 : Cond.code yX2_clear cX2_clear 2 none ∈ gT := gT_in (by decide +kernel) (by decide +kernel)
theorem qn132 : Cond.fieldLinkNest RX2 28 (TX3 1).1 (TX3 1).2.1 (TX3 1).2.2.1 "Rotationary" ∈ gNest := by decide +kernel
theorem qw133 : Cond.methodLink RX2 34 yX3_signAt ∈ gT := gT_in (by decide +kernel) (by decide +kernel)
theorem qw134 : Cond.instanceMethod yX3_signAt ∈ gT := gT_in (by decide +kernel) (by decide +kernel)
theorem qw135 : Cond.selects RX3 yX3_signAt yX3_signAt ∈ gT := gT_in (by decide +kernel) (by decide +kernel)
theorem qw136 : Cond.initialized RX3 ∈ gT := gT_in (by decide +kernel) (by decide +kernel)
theorem qw137 : Cond.code yX3_signAt cX3_signAt 2 (some .int) ∈ gT := gT_in (by decide +kernel) (by decide +kernel)
theorem qw138 : Cond.methodLink RX2 38 yX3_kindOf ∈ gT := gT_in (by decide +kernel) (by decide +kernel)
theorem qw139 : Cond.static yX3_kindOf ∈ gT := gT_in (by decide +kernel) (by decide +kernel)
theorem qw140 : Cond.initialized yX3_kindOf.cls ∈ gT := gT_in (by decide +kernel) (by decide +kernel)
theorem qw141 : Cond.code yX3_kindOf cX3_kindOf 1 (some .int) ∈ gT := gT_in (by decide +kernel) (by decide +kernel)
theorem qw142 : Cond.methodLink RX2 41 yX3_teamOf ∈ gT := gT_in (by decide +kernel) (by decide +kernel)
theorem qw143 : Cond.static yX3_teamOf ∈ gT := gT_in (by decide +kernel) (by decide +kernel)
theorem qw144 : Cond.initialized yX3_teamOf.cls ∈ gT := gT_in (by decide +kernel) (by decide +kernel)
theorem qw145 : Cond.code yX3_teamOf cX3_teamOf 1 (some .int) ∈ gT := gT_in (by decide +kernel) (by decide +kernel)
theorem qw146 : Cond.methodLink RX2 44 yX3_oneOf ∈ gT := gT_in (by decide +kernel) (by decide +kernel)
theorem qw147 : Cond.static yX3_oneOf ∈ gT := gT_in (by decide +kernel) (by decide +kernel)
theorem qw148 : Cond.initialized yX3_oneOf.cls ∈ gT := gT_in (by decide +kernel) (by decide +kernel)
theorem qw149 : Cond.code yX3_oneOf cX3_oneOf 1 (some .int) ∈ gT := gT_in (by decide +kernel) (by decide +kernel)
theorem qw150 : Cond.methodLink RX2 47 yX3_twoOf ∈ gT := gT_in (by decide +kernel) (by decide +kernel)
theorem qw151 : Cond.static yX3_twoOf ∈ gT := gT_in (by decide +kernel) (by decide +kernel)
theorem qw152 : Cond.initialized yX3_twoOf.cls ∈ gT := gT_in (by decide +kernel) (by decide +kernel)
theorem qw153 : Cond.code yX3_twoOf cX3_twoOf 1 (some .int) ∈ gT := gT_in (by decide +kernel) (by decide +kernel)
theorem qw154 : Cond.methodLink RX2 50 yX2_follow ∈ gT := gT_in (by decide +kernel) (by decide +kernel)
theorem qw155 : Cond.instanceMethod yX2_follow ∈ gT := gT_in (by decide +kernel) (by decide +kernel)
theorem qw156 : Cond.selects RX2 yX2_follow yX2_follow ∈ gT := gT_in (by decide +kernel) (by decide +kernel)
theorem qw157 : Cond.code yX2_follow cX2_follow 6 none ∈ gT := gT_in (by decide +kernel) (by decide +kernel)
theorem qw158 : Cond.fieldLink RX3 13 (TX3 1).1 (TX3 1).2.1 (TX3 1).2.2.1 ∈ gT := gT_in (by decide +kernel) (by decide +kernel)
theorem qn159 : Cond.methodLinkNest RX3 17 yX5_putIn "Rotationary" ∈ gNest := by decide +kernel
theorem qw160 : Cond.methodLink RX4 64 yX4_isBehind ∈ gT := gT_in (by decide +kernel) (by decide +kernel)
theorem qw161 : Cond.instanceMethod yX4_isBehind ∈ gT := gT_in (by decide +kernel) (by decide +kernel)
theorem qw162 : Cond.selects RX4 yX4_isBehind yX4_isBehind ∈ gT := gT_in (by decide +kernel) (by decide +kernel)
theorem qw163 : Cond.code yX4_isBehind cX4_isBehind 3 (some .boolean) ∈ gT := gT_in (by decide +kernel) (by decide +kernel)
theorem qw164 : Cond.classLink RX5 238 "java/lang/IndexOutOfBoundsException" ∈ gT := gT_in (by decide +kernel) (by decide +kernel)
theorem qw165 : Cond.initialized "java/lang/IndexOutOfBoundsException" ∈ gT := gT_in (by decide +kernel) (by decide +kernel)
theorem qw166 : Cond.fieldLink RX5 10 (TX5 0).1 (TX5 0).2.1 (TX5 0).2.2.1 ∈ gT := gT_in (by decide +kernel) (by decide +kernel)
theorem qw167 : Cond.methodLink RX5 222 yX0_isSetOn ∈ gT := gT_in (by decide +kernel) (by decide +kernel)
theorem qw168 : Cond.instanceMethod yX0_isSetOn ∈ gT := gT_in (by decide +kernel) (by decide +kernel)
theorem qw169 : Cond.selects RX0 yX0_isSetOn yX0_isSetOn ∈ gT := gT_in (by decide +kernel) (by decide +kernel)
theorem qw170 : Cond.code yX0_isSetOn cX0_isSetOn 1 (some .boolean) ∈ gT := gT_in (by decide +kernel) (by decide +kernel)
theorem qw171 : Cond.methodLink RX5 247 yX0_isMatchOver ∈ gT := gT_in (by decide +kernel) (by decide +kernel)
theorem qw172 : Cond.instanceMethod yX0_isMatchOver ∈ gT := gT_in (by decide +kernel) (by decide +kernel)
theorem qw173 : Cond.selects RX0 yX0_isMatchOver yX0_isMatchOver ∈ gT := gT_in (by decide +kernel) (by decide +kernel)
theorem qw174 : Cond.code yX0_isMatchOver cX0_isMatchOver 1 (some .boolean) ∈ gT := gT_in (by decide +kernel) (by decide +kernel)
theorem qw175 : Cond.classLink RX5 85 "java/lang/IllegalStateException" ∈ gT := gT_in (by decide +kernel) (by decide +kernel)
theorem qw176 : Cond.initialized "java/lang/IllegalStateException" ∈ gT := gT_in (by decide +kernel) (by decide +kernel)
theorem qw177 : Cond.methodLink RX5 44 yX5_checkTeam ∈ gT := gT_in (by decide +kernel) (by decide +kernel)
theorem qw178 : Cond.static yX5_checkTeam ∈ gT := gT_in (by decide +kernel) (by decide +kernel)
theorem qw179 : Cond.initialized yX5_checkTeam.cls ∈ gT := gT_in (by decide +kernel) (by decide +kernel)
theorem qw180 : Cond.code yX5_checkTeam cX5_checkTeam 1 none ∈ gT := gT_in (by decide +kernel) (by decide +kernel)
theorem qw181 : Cond.methodLink RX5 48 yX5_checkPlace ∈ gT := gT_in (by decide +kernel) (by decide +kernel)
theorem qw182 : Cond.static yX5_checkPlace ∈ gT := gT_in (by decide +kernel) (by decide +kernel)
theorem qw183 : Cond.initialized yX5_checkPlace.cls ∈ gT := gT_in (by decide +kernel) (by decide +kernel)
theorem qw184 : Cond.code yX5_checkPlace cX5_checkPlace 1 none ∈ gT := gT_in (by decide +kernel) (by decide +kernel)
theorem qw185 : Cond.methodLink RX5 51 yX5_checkShirt ∈ gT := gT_in (by decide +kernel) (by decide +kernel)
theorem qw186 : Cond.static yX5_checkShirt ∈ gT := gT_in (by decide +kernel) (by decide +kernel)
theorem qw187 : Cond.initialized yX5_checkShirt.cls ∈ gT := gT_in (by decide +kernel) (by decide +kernel)
theorem qw188 : Cond.code yX5_checkShirt cX5_checkShirt 1 none ∈ gT := gT_in (by decide +kernel) (by decide +kernel)
theorem qw189 : Cond.methodLink RX5 54 yX5_checkAheadOfSet ∈ gT := gT_in (by decide +kernel) (by decide +kernel)
theorem qw190 : Cond.instanceMethod yX5_checkAheadOfSet ∈ gT := gT_in (by decide +kernel) (by decide +kernel)
theorem qw191 : Cond.selects RX5 yX5_checkAheadOfSet yX5_checkAheadOfSet ∈ gT := gT_in (by decide +kernel) (by decide +kernel)
theorem qw192 : Cond.initialized RX5 ∈ gT := gT_in (by decide +kernel) (by decide +kernel)
theorem qw193 : Cond.code yX5_checkAheadOfSet cX5_checkAheadOfSet 1 none ∈ gT := gT_in (by decide +kernel) (by decide +kernel)
theorem qw194 : Cond.methodLink RX5 57 yX0_sideOf ∈ gT := gT_in (by decide +kernel) (by decide +kernel)
theorem qw195 : Cond.methodLink RX5 61 yX4_shirtIn ∈ gT := gT_in (by decide +kernel) (by decide +kernel)
theorem qw196 : Cond.methodLink RX5 67 yX4_put ∈ gT := gT_in (by decide +kernel) (by decide +kernel)
theorem qw197 : Cond.fieldLink RX5 40 (TX5 6).1 (TX5 6).2.1 (TX5 6).2.2.1 ∈ gT := gT_in (by decide +kernel) (by decide +kernel)
theorem qn198 : Cond.fieldLinkNest RX5 71 (TX4 2).1 (TX4 2).2.1 (TX4 2).2.2.1 "Rotationary" ∈ gNest := by decide +kernel
theorem qw199 : Cond.fieldLink RX5 29 (TX5 3).1 (TX5 3).2.1 (TX5 3).2.2.1 ∈ gT := gT_in (by decide +kernel) (by decide +kernel)
theorem qw200 : Cond.methodLink RX5 101 yX3_write ∈ gT := gT_in (by decide +kernel) (by decide +kernel)
theorem qw201 : Cond.instanceMethod yX3_write ∈ gT := gT_in (by decide +kernel) (by decide +kernel)
theorem qw202 : Cond.selects RX3 yX3_write yX3_write ∈ gT := gT_in (by decide +kernel) (by decide +kernel)
theorem qw203 : Cond.code yX3_write cX3_write 5 none ∈ gT := gT_in (by decide +kernel) (by decide +kernel)
theorem qn204 : Cond.fieldLinkNest RX5 74 (TX0 0).1 (TX0 0).2.1 (TX0 0).2.2.1 "Rotationary" ∈ gNest := by decide +kernel
theorem qw205 : Cond.methodLink RX5 78 yX4_isReady ∈ gT := gT_in (by decide +kernel) (by decide +kernel)
theorem qw206 : Cond.instanceMethod yX4_isReady ∈ gT := gT_in (by decide +kernel) (by decide +kernel)
theorem qw207 : Cond.selects RX4 yX4_isReady yX4_isReady ∈ gT := gT_in (by decide +kernel) (by decide +kernel)
theorem qw208 : Cond.code yX4_isReady cX4_isReady 3 (some .boolean) ∈ gT := gT_in (by decide +kernel) (by decide +kernel)
theorem qn209 : Cond.fieldLinkNest RX5 82 (TX0 1).1 (TX0 1).2.1 (TX0 1).2.2.1 "Rotationary" ∈ gNest := by decide +kernel
theorem qw210 : Cond.methodLink RX5 92 yX0_startSet ∈ gT := gT_in (by decide +kernel) (by decide +kernel)
theorem qw211 : Cond.methodLink RX5 95 yX3_cutTo ∈ gT := gT_in (by decide +kernel) (by decide +kernel)
theorem qw212 : Cond.instanceMethod yX3_cutTo ∈ gT := gT_in (by decide +kernel) (by decide +kernel)
theorem qw213 : Cond.selects RX3 yX3_cutTo yX3_cutTo ∈ gT := gT_in (by decide +kernel) (by decide +kernel)
theorem qw214 : Cond.code yX3_cutTo cX3_cutTo 2 none ∈ gT := gT_in (by decide +kernel) (by decide +kernel)
theorem qw215 : Cond.methodLink RX5 98 yX5_writeOrder ∈ gT := gT_in (by decide +kernel) (by decide +kernel)
theorem qw216 : Cond.instanceMethod yX5_writeOrder ∈ gT := gT_in (by decide +kernel) (by decide +kernel)
theorem qw217 : Cond.selects RX5 yX5_writeOrder yX5_writeOrder ∈ gT := gT_in (by decide +kernel) (by decide +kernel)
theorem qw218 : Cond.code yX5_writeOrder cX5_writeOrder 4 none ∈ gT := gT_in (by decide +kernel) (by decide +kernel)
theorem qw219 : Cond.fieldLink RX5 105 (TX5 7).1 (TX5 7).2.1 (TX5 7).2.2.1 ∈ gT := gT_in (by decide +kernel) (by decide +kernel)
theorem qw220 : Cond.methodLink RX5 108 yX0_setsPlayed ∈ gT := gT_in (by decide +kernel) (by decide +kernel)
theorem qw221 : Cond.fieldLink RX5 22 (TX5 2).1 (TX5 2).2.1 (TX5 2).2.2.1 ∈ gT := gT_in (by decide +kernel) (by decide +kernel)
theorem qn222 : Cond.fieldLinkNest RX5 158 (TX1 0).1 (TX1 0).2.1 (TX1 0).2.2.1 "Rotationary" ∈ gNest := by decide +kernel
theorem qw223 : Cond.methodLink RX5 112 yX5_checkBetweenRallies ∈ gT := gT_in (by decide +kernel) (by decide +kernel)
theorem qw224 : Cond.instanceMethod yX5_checkBetweenRallies ∈ gT := gT_in (by decide +kernel) (by decide +kernel)
theorem qw225 : Cond.selects RX5 yX5_checkBetweenRallies yX5_checkBetweenRallies ∈ gT := gT_in (by decide +kernel) (by decide +kernel)
theorem qw226 : Cond.code yX5_checkBetweenRallies cX5_checkBetweenRallies 1 none ∈ gT := gT_in (by decide +kernel) (by decide +kernel)
theorem qn227 : Cond.fieldLinkNest RX5 115 (TX0 2).1 (TX0 2).2.1 (TX0 2).2.2.1 "Rotationary" ∈ gNest := by decide +kernel
theorem qw228 : Cond.methodLink RX5 118 yX4_placeOf ∈ gT := gT_in (by decide +kernel) (by decide +kernel)
theorem qw229 : Cond.methodLink RX5 123 yX1_start ∈ gT := gT_in (by decide +kernel) (by decide +kernel)
theorem qw230 : Cond.instanceMethod yX1_start ∈ gT := gT_in (by decide +kernel) (by decide +kernel)
theorem qw231 : Cond.selects RX1 yX1_start yX1_start ∈ gT := gT_in (by decide +kernel) (by decide +kernel)
theorem qw232 : Cond.initialized RX1 ∈ gT := gT_in (by decide +kernel) (by decide +kernel)
theorem qw233 : Cond.code yX1_start cX1_start 3 none ∈ gT := gT_in (by decide +kernel) (by decide +kernel)
theorem qw234 : Cond.methodLink RX5 126 yX0_takeService ∈ gT := gT_in (by decide +kernel) (by decide +kernel)
theorem qw235 : Cond.methodLink RX5 262 yX0_hasWonSet ∈ gT := gT_in (by decide +kernel) (by decide +kernel)
theorem qw236 : Cond.instanceMethod yX0_hasWonSet ∈ gT := gT_in (by decide +kernel) (by decide +kernel)
theorem qw237 : Cond.selects RX0 yX0_hasWonSet yX0_hasWonSet ∈ gT := gT_in (by decide +kernel) (by decide +kernel)
theorem qw238 : Cond.code yX0_hasWonSet cX0_hasWonSet 4 (some .boolean) ∈ gT := gT_in (by decide +kernel) (by decide +kernel)
theorem qw239 : Cond.methodLink RX5 265 yX0_endSet ∈ gT := gT_in (by decide +kernel) (by decide +kernel)
theorem qw240 : Cond.instanceMethod yX0_endSet ∈ gT := gT_in (by decide +kernel) (by decide +kernel)
theorem qw241 : Cond.selects RX0 yX0_endSet yX0_endSet ∈ gT := gT_in (by decide +kernel) (by decide +kernel)
theorem qw242 : Cond.code yX0_endSet cX0_endSet 2 none ∈ gT := gT_in (by decide +kernel) (by decide +kernel)
theorem qw243 : Cond.fieldLink RX5 16 (TX5 1).1 (TX5 1).2.1 (TX5 1).2.2.1 ∈ gT := gT_in (by decide +kernel) (by decide +kernel)
theorem qw244 : Cond.methodLink RX5 204 yX0_copyFrom ∈ gT := gT_in (by decide +kernel) (by decide +kernel)
theorem qw245 : Cond.instanceMethod yX0_copyFrom ∈ gT := gT_in (by decide +kernel) (by decide +kernel)
theorem qw246 : Cond.selects RX0 yX0_copyFrom yX0_copyFrom ∈ gT := gT_in (by decide +kernel) (by decide +kernel)
theorem qw247 : Cond.code yX0_copyFrom cX0_copyFrom 2 none ∈ gT := gT_in (by decide +kernel) (by decide +kernel)
theorem qn248 : Cond.fieldLinkNest RX5 256 (TX3 1).1 (TX3 1).2.1 (TX3 1).2.2.1 "Rotationary" ∈ gNest := by decide +kernel
theorem qw249 : Cond.fieldLink RX5 208 (TX5 5).1 (TX5 5).2.1 (TX5 5).2.2.1 ∈ gT := gT_in (by decide +kernel) (by decide +kernel)
theorem qw250 : Cond.methodLink RX5 259 yX0_givePoint ∈ gT := gT_in (by decide +kernel) (by decide +kernel)
theorem qw251 : Cond.methodLink RX5 170 yX5_endSetIfWonBy ∈ gT := gT_in (by decide +kernel) (by decide +kernel)
theorem qw252 : Cond.instanceMethod yX5_endSetIfWonBy ∈ gT := gT_in (by decide +kernel) (by decide +kernel)
theorem qw253 : Cond.selects RX5 yX5_endSetIfWonBy yX5_endSetIfWonBy ∈ gT := gT_in (by decide +kernel) (by decide +kernel)
theorem qw254 : Cond.code yX5_endSetIfWonBy cX5_endSetIfWonBy 2 none ∈ gT := gT_in (by decide +kernel) (by decide +kernel)
theorem qw255 : Cond.classLink RX5 130 "java/lang/IllegalArgumentException" ∈ gT := gT_in (by decide +kernel) (by decide +kernel)
theorem qw256 : Cond.initialized "java/lang/IllegalArgumentException" ∈ gT := gT_in (by decide +kernel) (by decide +kernel)
theorem qw257 : Cond.methodLink RX5 135 yX5_checkRally ∈ gT := gT_in (by decide +kernel) (by decide +kernel)
theorem qw258 : Cond.instanceMethod yX5_checkRally ∈ gT := gT_in (by decide +kernel) (by decide +kernel)
theorem qw259 : Cond.selects RX5 yX5_checkRally yX5_checkRally ∈ gT := gT_in (by decide +kernel) (by decide +kernel)
theorem qw260 : Cond.code yX5_checkRally cX5_checkRally 1 none ∈ gT := gT_in (by decide +kernel) (by decide +kernel)
theorem qw261 : Cond.methodLink RX5 138 yX1_faultOf ∈ gT := gT_in (by decide +kernel) (by decide +kernel)
theorem qw262 : Cond.instanceMethod yX1_faultOf ∈ gT := gT_in (by decide +kernel) (by decide +kernel)
theorem qw263 : Cond.selects RX1 yX1_faultOf yX1_faultOf ∈ gT := gT_in (by decide +kernel) (by decide +kernel)
theorem qw264 : Cond.code yX1_faultOf cX1_faultOf 4 (some .int) ∈ gT := gT_in (by decide +kernel) (by decide +kernel)
theorem qw265 : Cond.methodLink RX5 142 yX4_faultOf ∈ gT := gT_in (by decide +kernel) (by decide +kernel)
theorem qw266 : Cond.instanceMethod yX4_faultOf ∈ gT := gT_in (by decide +kernel) (by decide +kernel)
theorem qw267 : Cond.selects RX4 yX4_faultOf yX4_faultOf ∈ gT := gT_in (by decide +kernel) (by decide +kernel)
theorem qw268 : Cond.code yX4_faultOf cX4_faultOf 5 (some .int) ∈ gT := gT_in (by decide +kernel) (by decide +kernel)
theorem qw269 : Cond.methodLink RX5 145 yX1_note ∈ gT := gT_in (by decide +kernel) (by decide +kernel)
theorem qw270 : Cond.instanceMethod yX1_note ∈ gT := gT_in (by decide +kernel) (by decide +kernel)
theorem qw271 : Cond.selects RX1 yX1_note yX1_note ∈ gT := gT_in (by decide +kernel) (by decide +kernel)
theorem qw272 : Cond.code yX1_note cX1_note 5 none ∈ gT := gT_in (by decide +kernel) (by decide +kernel)
theorem qw273 : Cond.methodLink RX5 149 yX5_endRally ∈ gT := gT_in (by decide +kernel) (by decide +kernel)
theorem qw274 : Cond.instanceMethod yX5_endRally ∈ gT := gT_in (by decide +kernel) (by decide +kernel)
theorem qw275 : Cond.selects RX5 yX5_endRally yX5_endRally ∈ gT := gT_in (by decide +kernel) (by decide +kernel)
theorem qw276 : Cond.code yX5_endRally cX5_endRally 3 none ∈ gT := gT_in (by decide +kernel) (by decide +kernel)
theorem qn277 : Cond.fieldLinkNest RX5 152 (TX1 1).1 (TX1 1).2.1 (TX1 1).2.2.1 "Rotationary" ∈ gNest := by decide +kernel
theorem qw278 : Cond.methodLink RX5 155 yX1_noteNet ∈ gT := gT_in (by decide +kernel) (by decide +kernel)
theorem qw279 : Cond.instanceMethod yX1_noteNet ∈ gT := gT_in (by decide +kernel) (by decide +kernel)
theorem qw280 : Cond.selects RX1 yX1_noteNet yX1_noteNet ∈ gT := gT_in (by decide +kernel) (by decide +kernel)
theorem qw281 : Cond.code yX1_noteNet cX1_noteNet 2 none ∈ gT := gT_in (by decide +kernel) (by decide +kernel)
theorem qn282 : Cond.fieldLinkNest RX5 162 (TX0 3).1 (TX0 3).2.1 (TX0 3).2.2.1 "Rotationary" ∈ gNest := by decide +kernel
theorem qw283 : Cond.methodLink RX5 167 yX0_takeBack ∈ gT := gT_in (by decide +kernel) (by decide +kernel)
theorem qw284 : Cond.methodLink RX5 173 yX4_canExchange ∈ gT := gT_in (by decide +kernel) (by decide +kernel)
theorem qw285 : Cond.instanceMethod yX4_canExchange ∈ gT := gT_in (by decide +kernel) (by decide +kernel)
theorem qw286 : Cond.selects RX4 yX4_canExchange yX4_canExchange ∈ gT := gT_in (by decide +kernel) (by decide +kernel)
theorem qw287 : Cond.code yX4_canExchange cX4_canExchange 2 (some .boolean) ∈ gT := gT_in (by decide +kernel) (by decide +kernel)
theorem qw288 : Cond.methodLink RX5 178 yX4_swapLibero ∈ gT := gT_in (by decide +kernel) (by decide +kernel)
theorem qw289 : Cond.methodLink RX5 181 yX4_isLiberoIn ∈ gT := gT_in (by decide +kernel) (by decide +kernel)
theorem qw290 : Cond.methodLink RX5 184 yX4_canSubstitute ∈ gT := gT_in (by decide +kernel) (by decide +kernel)
theorem qw291 : Cond.instanceMethod yX4_canSubstitute ∈ gT := gT_in (by decide +kernel) (by decide +kernel)
theorem qw292 : Cond.selects RX4 yX4_canSubstitute yX4_canSubstitute ∈ gT := gT_in (by decide +kernel) (by decide +kernel)
theorem qw293 : Cond.code yX4_canSubstitute cX4_canSubstitute 4 (some .boolean) ∈ gT := gT_in (by decide +kernel) (by decide +kernel)
theorem qw294 : Cond.methodLink RX5 190 yX4_swapByPair ∈ gT := gT_in (by decide +kernel) (by decide +kernel)
theorem qn295 : Cond.fieldLinkNest RX5 193 (TX4 7).1 (TX4 7).2.1 (TX4 7).2.2.1 "Rotationary" ∈ gNest := by decide +kernel
theorem qn296 : Cond.fieldLinkNest RX5 196 (TX4 8).1 (TX4 8).2.1 (TX4 8).2.2.1 "Rotationary" ∈ gNest := by decide +kernel
theorem qw297 : Cond.methodLink RX5 201 yX1_isNetNotedOf ∈ gT := gT_in (by decide +kernel) (by decide +kernel)
theorem qw298 : Cond.instanceMethod yX1_isNetNotedOf ∈ gT := gT_in (by decide +kernel) (by decide +kernel)
theorem qw299 : Cond.selects RX1 yX1_isNetNotedOf yX1_isNetNotedOf ∈ gT := gT_in (by decide +kernel) (by decide +kernel)
theorem qw300 : Cond.code yX1_isNetNotedOf cX1_isNetNotedOf 2 (some .boolean) ∈ gT := gT_in (by decide +kernel) (by decide +kernel)
theorem qn301 : Cond.fieldLinkNest RX5 211 (TX4 4).1 (TX4 4).2.1 (TX4 4).2.2.1 "Rotationary" ∈ gNest := by decide +kernel
theorem qw302 : Cond.fieldLink RX5 36 (TX5 4).1 (TX5 4).2.1 (TX5 4).2.2.1 ∈ gT := gT_in (by decide +kernel) (by decide +kernel)
theorem qw303 : Cond.methodLink RX5 214 yX2_read ∈ gT := gT_in (by decide +kernel) (by decide +kernel)
theorem qw304 : Cond.instanceMethod yX2_read ∈ gT := gT_in (by decide +kernel) (by decide +kernel)
theorem qw305 : Cond.selects RX2 yX2_read yX2_read ∈ gT := gT_in (by decide +kernel) (by decide +kernel)
theorem qw306 : Cond.code yX2_read cX2_read 4 none ∈ gT := gT_in (by decide +kernel) (by decide +kernel)
theorem qn307 : Cond.fieldLinkNest RX5 218 (TX2 0).1 (TX2 0).2.1 (TX2 0).2.2.1 "Rotationary" ∈ gNest := by decide +kernel
theorem qn308 : Cond.fieldLinkNest RX5 219 (TX4 5).1 (TX4 5).2.1 (TX4 5).2.2.1 "Rotationary" ∈ gNest := by decide +kernel
theorem qn309 : Cond.fieldLinkNest RX5 225 (TX1 2).1 (TX1 2).2.1 (TX1 2).2.2.1 "Rotationary" ∈ gNest := by decide +kernel
theorem qw310 : Cond.methodLink RX5 234 yX2_lostBy ∈ gT := gT_in (by decide +kernel) (by decide +kernel)
theorem qw311 : Cond.fieldLink RX6 16 (TX6 2).1 (TX6 2).2.1 (TX6 2).2.2.1 ∈ gT := gT_in (by decide +kernel) (by decide +kernel)
theorem qw312 : Cond.methodLink RX6 20 yX6_isIn ∈ gT := gT_in (by decide +kernel) (by decide +kernel)
theorem qw313 : Cond.static yX6_isIn ∈ gT := gT_in (by decide +kernel) (by decide +kernel)
theorem qw314 : Cond.initialized yX6_isIn.cls ∈ gT := gT_in (by decide +kernel) (by decide +kernel)
theorem qw315 : Cond.code yX6_isIn cX6_isIn 3 (some .boolean) ∈ gT := gT_in (by decide +kernel) (by decide +kernel)
theorem qw316 : Cond.fieldLink RX6 7 (TX6 0).1 (TX6 0).2.1 (TX6 0).2.2.1 ∈ gT := gT_in (by decide +kernel) (by decide +kernel)
theorem qw317 : Cond.methodLink RX6 24 yX6_slot ∈ gT := gT_in (by decide +kernel) (by decide +kernel)
theorem qw318 : Cond.static yX6_slot ∈ gT := gT_in (by decide +kernel) (by decide +kernel)
theorem qw319 : Cond.initialized yX6_slot.cls ∈ gT := gT_in (by decide +kernel) (by decide +kernel)
theorem qw320 : Cond.code yX6_slot cX6_slot 2 (some .int) ∈ gT := gT_in (by decide +kernel) (by decide +kernel)
theorem qw321 : Cond.methodLink RX6 28 yX6_isTeam ∈ gT := gT_in (by decide +kernel) (by decide +kernel)
theorem qw322 : Cond.static yX6_isTeam ∈ gT := gT_in (by decide +kernel) (by decide +kernel)
theorem qw323 : Cond.initialized yX6_isTeam.cls ∈ gT := gT_in (by decide +kernel) (by decide +kernel)
theorem qw324 : Cond.code yX6_isTeam cX6_isTeam 1 (some .boolean) ∈ gT := gT_in (by decide +kernel) (by decide +kernel)
theorem qw325 : Cond.methodLink RX6 39 yX6_goes ∈ gT := gT_in (by decide +kernel) (by decide +kernel)
theorem qw326 : Cond.instanceMethod yX6_goes ∈ gT := gT_in (by decide +kernel) (by decide +kernel)
theorem qw327 : Cond.selects RX6 yX6_goes yX6_goes ∈ gT := gT_in (by decide +kernel) (by decide +kernel)
theorem qw328 : Cond.initialized RX6 ∈ gT := gT_in (by decide +kernel) (by decide +kernel)
theorem qw329 : Cond.code yX6_goes cX6_goes 2 (some .boolean) ∈ gT := gT_in (by decide +kernel) (by decide +kernel)
theorem qw330 : Cond.methodLink RX6 35 yX6_isOver ∈ gT := gT_in (by decide +kernel) (by decide +kernel)
theorem qw331 : Cond.instanceMethod yX6_isOver ∈ gT := gT_in (by decide +kernel) (by decide +kernel)
theorem qw332 : Cond.selects RX6 yX6_isOver yX6_isOver ∈ gT := gT_in (by decide +kernel) (by decide +kernel)
theorem qw333 : Cond.code yX6_isOver cX6_isOver 1 (some .boolean) ∈ gT := gT_in (by decide +kernel) (by decide +kernel)
theorem qw334 : Cond.methodLink RX6 32 yX6_isShirt ∈ gT := gT_in (by decide +kernel) (by decide +kernel)
theorem qw335 : Cond.static yX6_isShirt ∈ gT := gT_in (by decide +kernel) (by decide +kernel)
theorem qw336 : Cond.initialized yX6_isShirt.cls ∈ gT := gT_in (by decide +kernel) (by decide +kernel)
theorem qw337 : Cond.code yX6_isShirt cX6_isShirt 1 (some .boolean) ∈ gT := gT_in (by decide +kernel) (by decide +kernel)
theorem qw338 : Cond.methodLink RX6 42 yX6_place ∈ gT := gT_in (by decide +kernel) (by decide +kernel)
theorem qw339 : Cond.instanceMethod yX6_place ∈ gT := gT_in (by decide +kernel) (by decide +kernel)
theorem qw340 : Cond.selects RX6 yX6_place yX6_place ∈ gT := gT_in (by decide +kernel) (by decide +kernel)
theorem qw341 : Cond.code yX6_place cX6_place 5 (some .int) ∈ gT := gT_in (by decide +kernel) (by decide +kernel)
theorem qw342 : Cond.methodLink RX6 45 yX6_isLinedUp ∈ gT := gT_in (by decide +kernel) (by decide +kernel)
theorem qw343 : Cond.instanceMethod yX6_isLinedUp ∈ gT := gT_in (by decide +kernel) (by decide +kernel)
theorem qw344 : Cond.selects RX6 yX6_isLinedUp yX6_isLinedUp ∈ gT := gT_in (by decide +kernel) (by decide +kernel)
theorem qw345 : Cond.code yX6_isLinedUp cX6_isLinedUp 5 (some .boolean) ∈ gT := gT_in (by decide +kernel) (by decide +kernel)
theorem qw346 : Cond.methodLink RX6 48 yX6_rotates ∈ gT := gT_in (by decide +kernel) (by decide +kernel)
theorem qw347 : Cond.instanceMethod yX6_rotates ∈ gT := gT_in (by decide +kernel) (by decide +kernel)
theorem qw348 : Cond.selects RX6 yX6_rotates yX6_rotates ∈ gT := gT_in (by decide +kernel) (by decide +kernel)
theorem qw349 : Cond.code yX6_rotates cX6_rotates 4 none ∈ gT := gT_in (by decide +kernel) (by decide +kernel)
theorem qw350 : Cond.methodLink RX6 52 yX6_scores ∈ gT := gT_in (by decide +kernel) (by decide +kernel)
theorem qw351 : Cond.instanceMethod yX6_scores ∈ gT := gT_in (by decide +kernel) (by decide +kernel)
theorem qw352 : Cond.selects RX6 yX6_scores yX6_scores ∈ gT := gT_in (by decide +kernel) (by decide +kernel)
theorem qw353 : Cond.code yX6_scores cX6_scores 4 none ∈ gT := gT_in (by decide +kernel) (by decide +kernel)
theorem qw354 : Cond.methodLink RX6 55 yX6_wins ∈ gT := gT_in (by decide +kernel) (by decide +kernel)
theorem qw355 : Cond.instanceMethod yX6_wins ∈ gT := gT_in (by decide +kernel) (by decide +kernel)
theorem qw356 : Cond.selects RX6 yX6_wins yX6_wins ∈ gT := gT_in (by decide +kernel) (by decide +kernel)
theorem qw357 : Cond.code yX6_wins cX6_wins 4 none ∈ gT := gT_in (by decide +kernel) (by decide +kernel)
theorem qw358 : Cond.fieldLink RX6 13 (TX6 1).1 (TX6 1).2.1 (TX6 1).2.2.1 ∈ gT := gT_in (by decide +kernel) (by decide +kernel)
theorem qw359 : Cond.methodLink RX6 59 yX6_isBehind ∈ gT := gT_in (by decide +kernel) (by decide +kernel)
theorem qw360 : Cond.static yX6_isBehind ∈ gT := gT_in (by decide +kernel) (by decide +kernel)
theorem qw361 : Cond.initialized yX6_isBehind.cls ∈ gT := gT_in (by decide +kernel) (by decide +kernel)
theorem qw362 : Cond.code yX6_isBehind cX6_isBehind 1 (some .boolean) ∈ gT := gT_in (by decide +kernel) (by decide +kernel)
theorem qw363 : Cond.methodLink RX6 62 yX6_fault ∈ gT := gT_in (by decide +kernel) (by decide +kernel)
theorem qw364 : Cond.instanceMethod yX6_fault ∈ gT := gT_in (by decide +kernel) (by decide +kernel)
theorem qw365 : Cond.selects RX6 yX6_fault yX6_fault ∈ gT := gT_in (by decide +kernel) (by decide +kernel)
theorem qw366 : Cond.code yX6_fault cX6_fault 8 (some .int) ∈ gT := gT_in (by decide +kernel) (by decide +kernel)
theorem qw367 : Cond.methodLink RX6 66 yX6_ends ∈ gT := gT_in (by decide +kernel) (by decide +kernel)
theorem qw368 : Cond.instanceMethod yX6_ends ∈ gT := gT_in (by decide +kernel) (by decide +kernel)
theorem qw369 : Cond.selects RX6 yX6_ends yX6_ends ∈ gT := gT_in (by decide +kernel) (by decide +kernel)
theorem qw370 : Cond.code yX6_ends cX6_ends 4 none ∈ gT := gT_in (by decide +kernel) (by decide +kernel)
theorem qw371 : Cond.methodLink RX6 69 yX6_pair ∈ gT := gT_in (by decide +kernel) (by decide +kernel)
theorem qw372 : Cond.instanceMethod yX6_pair ∈ gT := gT_in (by decide +kernel) (by decide +kernel)
theorem qw373 : Cond.selects RX6 yX6_pair yX6_pair ∈ gT := gT_in (by decide +kernel) (by decide +kernel)
theorem qw374 : Cond.code yX6_pair cX6_pair 6 (some .int) ∈ gT := gT_in (by decide +kernel) (by decide +kernel)
theorem qw375 : Cond.methodLink RX6 72 yX6_isPlace ∈ gT := gT_in (by decide +kernel) (by decide +kernel)
theorem qw376 : Cond.static yX6_isPlace ∈ gT := gT_in (by decide +kernel) (by decide +kernel)
theorem qw377 : Cond.initialized yX6_isPlace.cls ∈ gT := gT_in (by decide +kernel) (by decide +kernel)
theorem qw378 : Cond.code yX6_isPlace cX6_isPlace 2 (some .boolean) ∈ gT := gT_in (by decide +kernel) (by decide +kernel)
theorem qc1 : gWn RX4 28 "Rotationary" yX5_putIn cX5_putIn 3 none 3 := ⟨qn11, qw12, qw13, qw14, by decide +kernel⟩
theorem qc2 : gWv RX0 31 RX4 yX4_startSet cX4_startSet 2 none 0 := ⟨qw15, qw16, qw17, qw18, qw19, by decide +kernel⟩
theorem qc3 : gWn RX4 32 "Rotationary" yX5_valueIn cX5_valueIn 2 (some .int) 2 := ⟨qn22, qw23, qw24, qw25, by decide +kernel⟩
theorem qc4 : gWv RX0 34 RX0 yX0_sideOf cX0_sideOf 2 (some (.object "Rotationary$Side")) 1 := ⟨qw26, qw27, qw28, qw29, qw30, by decide +kernel⟩
theorem qc5 : gWv RX0 38 RX4 yX4_shirtIn cX4_shirtIn 2 (some .int) 1 := ⟨qw31, qw32, qw33, qw18, qw34, by decide +kernel⟩
theorem qc6 : gWv RX4 36 RX4 yX4_shirtIn cX4_shirtIn 2 (some .int) 1 := ⟨qw38, qw32, qw33, qw18, qw34, by decide +kernel⟩
theorem qc7 : gWv RX4 56 RX4 yX4_put cX4_put 3 none 2 := ⟨qw39, qw40, qw41, qw18, qw42, by decide +kernel⟩
theorem qc8 : gWv RX4 60 RX4 yX4_isLiberoIn cX4_isLiberoIn 1 (some .boolean) 0 := ⟨qw43, qw44, qw45, qw18, qw46, by decide +kernel⟩
theorem qc9 : gWv RX0 49 RX4 yX4_rotate cX4_rotate 3 none 0 := ⟨qw48, qw49, qw50, qw18, qw51, by decide +kernel⟩
theorem qc10 : gWv RX0 52 RX0 yX0_givePoint cX0_givePoint 3 none 1 := ⟨qw52, qw53, qw54, qw29, qw55, by decide +kernel⟩
theorem qc11 : gWv RX0 56 RX0 yX0_setsPlayed cX0_setsPlayed 1 (some .int) 0 := ⟨qw56, qw57, qw58, qw29, qw59, by decide +kernel⟩
theorem qc12 : gWv RX0 60 RX4 yX4_clearOrder cX4_clearOrder 2 none 0 := ⟨qw60, qw61, qw62, qw18, qw63, by decide +kernel⟩
theorem qc13 : gWv RX0 63 RX4 yX4_copyFrom cX4_copyFrom 3 none 1 := ⟨qw65, qw66, qw67, qw18, qw68, by decide +kernel⟩
theorem qc14 : gWv RX2 66 RX4 yX4_clearOrder cX4_clearOrder 2 none 0 := ⟨qw78, qw61, qw62, qw18, qw63, by decide +kernel⟩
theorem qc15 : gWn RX2 74 "Rotationary" yX5_putIn cX5_putIn 3 none 3 := ⟨qn81, qw12, qw13, qw14, by decide +kernel⟩
theorem qc16 : gWn RX3 23 "Rotationary" yX5_valueIn cX5_valueIn 2 (some .int) 2 := ⟨qn84, qw23, qw24, qw25, by decide +kernel⟩
theorem qc17 : gWv RX2 54 RX2 yX2_rowOf cX2_rowOf 2 (some (.array .int)) 1 := ⟨qw85, qw86, qw87, qw88, qw89, by decide +kernel⟩
theorem qc18 : gWn RX2 58 "Rotationary" yX5_valueIn cX5_valueIn 2 (some .int) 2 := ⟨qn90, qw23, qw24, qw25, by decide +kernel⟩
theorem qc19 : gWv RX2 78 RX0 yX0_sideOf cX0_sideOf 2 (some (.object "Rotationary$Side")) 1 := ⟨qw91, qw27, qw28, qw29, qw30, by decide +kernel⟩
theorem qc20 : gWv RX2 116 RX2 yX2_lostBy cX2_lostBy 3 (some .int) 2 := ⟨qw93, qw94, qw95, qw88, qw96, by decide +kernel⟩
theorem qc21 : gWv RX4 40 RX4 yX4_placeOf cX4_placeOf 3 (some .int) 1 := ⟨qw97, qw98, qw99, qw18, qw100, by decide +kernel⟩
theorem qc22 : gWv RX2 82 RX4 yX4_put cX4_put 3 none 2 := ⟨qw101, qw40, qw41, qw18, qw42, by decide +kernel⟩
theorem qc23 : gWv RX2 89 RX0 yX0_startSet cX0_startSet 2 none 1 := ⟨qw103, qw104, qw105, qw29, qw106, by decide +kernel⟩
theorem qc24 : gWv RX2 93 RX0 yX0_takeService cX0_takeService 4 (some .boolean) 1 := ⟨qw107, qw108, qw109, qw29, qw110, by decide +kernel⟩
theorem qc25 : gWv RX2 97 RX2 yX2_countLost cX2_countLost 3 none 1 := ⟨qw111, qw112, qw113, qw88, qw114, by decide +kernel⟩
theorem qc26 : gWv RX2 100 RX0 yX0_givePoint cX0_givePoint 3 none 1 := ⟨qw115, qw53, qw54, qw29, qw55, by decide +kernel⟩
theorem qc27 : gWv RX2 103 RX0 yX0_takeBack cX0_takeBack 3 (some .int) 0 := ⟨qw116, qw117, qw118, qw29, qw119, by decide +kernel⟩
theorem qc28 : gWv RX2 107 RX4 yX4_swapLibero cX4_swapLibero 2 none 1 := ⟨qw120, qw121, qw122, qw18, qw123, by decide +kernel⟩
theorem qc29 : gWv RX2 110 RX4 yX4_swapByPair cX4_swapByPair 4 none 2 := ⟨qw124, qw125, qw126, qw18, qw127, by decide +kernel⟩
theorem qc30 : gWv RX2 25 RX2 yX2_clear cX2_clear 2 none 0 := ⟨qw128, qw129, qw130, qw88, qw131, by decide +kernel⟩
theorem qc31 : gWv RX2 34 RX3 yX3_signAt cX3_signAt 2 (some .int) 1 := ⟨qw133, qw134, qw135, qw136, qw137, by decide +kernel⟩
theorem qc32 : gWs RX2 38 yX3_kindOf cX3_kindOf 1 (some .int) 1 := ⟨qw138, qw139, qw140, qw141, by decide +kernel⟩
theorem qc33 : gWs RX2 41 yX3_teamOf cX3_teamOf 1 (some .int) 1 := ⟨qw142, qw143, qw144, qw145, by decide +kernel⟩
theorem qc34 : gWs RX2 44 yX3_oneOf cX3_oneOf 1 (some .int) 1 := ⟨qw146, qw147, qw148, qw149, by decide +kernel⟩
theorem qc35 : gWs RX2 47 yX3_twoOf cX3_twoOf 1 (some .int) 1 := ⟨qw150, qw151, qw152, qw153, by decide +kernel⟩
theorem qc36 : gWv RX2 50 RX2 yX2_follow cX2_follow 6 none 4 := ⟨qw154, qw155, qw156, qw88, qw157, by decide +kernel⟩
theorem qc37 : gWn RX3 17 "Rotationary" yX5_putIn cX5_putIn 3 none 3 := ⟨qn159, qw12, qw13, qw14, by decide +kernel⟩
theorem qc38 : gWv RX4 64 RX4 yX4_isBehind cX4_isBehind 3 (some .boolean) 1 := ⟨qw160, qw161, qw162, qw18, qw163, by decide +kernel⟩
theorem qc39 : gWv RX5 222 RX0 yX0_isSetOn cX0_isSetOn 1 (some .boolean) 0 := ⟨qw167, qw168, qw169, qw29, qw170, by decide +kernel⟩
theorem qc40 : gWv RX5 247 RX0 yX0_isMatchOver cX0_isMatchOver 1 (some .boolean) 0 := ⟨qw171, qw172, qw173, qw29, qw174, by decide +kernel⟩
theorem qc41 : gWs RX5 44 yX5_checkTeam cX5_checkTeam 1 none 1 := ⟨qw177, qw178, qw179, qw180, by decide +kernel⟩
theorem qc42 : gWs RX5 48 yX5_checkPlace cX5_checkPlace 1 none 1 := ⟨qw181, qw182, qw183, qw184, by decide +kernel⟩
theorem qc43 : gWs RX5 51 yX5_checkShirt cX5_checkShirt 1 none 1 := ⟨qw185, qw186, qw187, qw188, by decide +kernel⟩
theorem qc44 : gWv RX5 54 RX5 yX5_checkAheadOfSet cX5_checkAheadOfSet 1 none 0 := ⟨qw189, qw190, qw191, qw192, qw193, by decide +kernel⟩
theorem qc45 : gWv RX5 57 RX0 yX0_sideOf cX0_sideOf 2 (some (.object "Rotationary$Side")) 1 := ⟨qw194, qw27, qw28, qw29, qw30, by decide +kernel⟩
theorem qc46 : gWv RX5 61 RX4 yX4_shirtIn cX4_shirtIn 2 (some .int) 1 := ⟨qw195, qw32, qw33, qw18, qw34, by decide +kernel⟩
theorem qc47 : gWv RX5 67 RX4 yX4_put cX4_put 3 none 2 := ⟨qw196, qw40, qw41, qw18, qw42, by decide +kernel⟩
theorem qc48 : gWv RX5 101 RX3 yX3_write cX3_write 5 none 4 := ⟨qw200, qw201, qw202, qw136, qw203, by decide +kernel⟩
theorem qc49 : gWv RX5 78 RX4 yX4_isReady cX4_isReady 3 (some .boolean) 0 := ⟨qw205, qw206, qw207, qw18, qw208, by decide +kernel⟩
theorem qc50 : gWv RX5 92 RX0 yX0_startSet cX0_startSet 2 none 1 := ⟨qw210, qw104, qw105, qw29, qw106, by decide +kernel⟩
theorem qc51 : gWv RX5 95 RX3 yX3_cutTo cX3_cutTo 2 none 1 := ⟨qw211, qw212, qw213, qw136, qw214, by decide +kernel⟩
theorem qc52 : gWv RX5 98 RX5 yX5_writeOrder cX5_writeOrder 4 none 1 := ⟨qw215, qw216, qw217, qw192, qw218, by decide +kernel⟩
theorem qc53 : gWv RX5 108 RX0 yX0_setsPlayed cX0_setsPlayed 1 (some .int) 0 := ⟨qw220, qw57, qw58, qw29, qw59, by decide +kernel⟩
theorem qc54 : gWv RX5 112 RX5 yX5_checkBetweenRallies cX5_checkBetweenRallies 1 none 0 := ⟨qw223, qw224, qw225, qw192, qw226, by decide +kernel⟩
theorem qc55 : gWv RX5 118 RX4 yX4_placeOf cX4_placeOf 3 (some .int) 1 := ⟨qw228, qw98, qw99, qw18, qw100, by decide +kernel⟩
theorem qc56 : gWv RX5 123 RX1 yX1_start cX1_start 3 none 2 := ⟨qw229, qw230, qw231, qw232, qw233, by decide +kernel⟩
theorem qc57 : gWv RX5 126 RX0 yX0_takeService cX0_takeService 4 (some .boolean) 1 := ⟨qw234, qw108, qw109, qw29, qw110, by decide +kernel⟩
theorem qc58 : gWv RX5 262 RX0 yX0_hasWonSet cX0_hasWonSet 4 (some .boolean) 1 := ⟨qw235, qw236, qw237, qw29, qw238, by decide +kernel⟩
theorem qc59 : gWv RX5 265 RX0 yX0_endSet cX0_endSet 2 none 1 := ⟨qw239, qw240, qw241, qw29, qw242, by decide +kernel⟩
theorem qc60 : gWv RX5 204 RX0 yX0_copyFrom cX0_copyFrom 2 none 1 := ⟨qw244, qw245, qw246, qw29, qw247, by decide +kernel⟩
theorem qc61 : gWv RX5 259 RX0 yX0_givePoint cX0_givePoint 3 none 1 := ⟨qw250, qw53, qw54, qw29, qw55, by decide +kernel⟩
theorem qc62 : gWv RX5 170 RX5 yX5_endSetIfWonBy cX5_endSetIfWonBy 2 none 1 := ⟨qw251, qw252, qw253, qw192, qw254, by decide +kernel⟩
theorem qc63 : gWv RX5 135 RX5 yX5_checkRally cX5_checkRally 1 none 0 := ⟨qw257, qw258, qw259, qw192, qw260, by decide +kernel⟩
theorem qc64 : gWv RX5 138 RX1 yX1_faultOf cX1_faultOf 4 (some .int) 3 := ⟨qw261, qw262, qw263, qw232, qw264, by decide +kernel⟩
theorem qc65 : gWv RX5 142 RX4 yX4_faultOf cX4_faultOf 5 (some .int) 3 := ⟨qw265, qw266, qw267, qw18, qw268, by decide +kernel⟩
theorem qc66 : gWv RX5 145 RX1 yX1_note cX1_note 5 none 3 := ⟨qw269, qw270, qw271, qw232, qw272, by decide +kernel⟩
theorem qc67 : gWv RX5 149 RX5 yX5_endRally cX5_endRally 3 none 2 := ⟨qw273, qw274, qw275, qw192, qw276, by decide +kernel⟩
theorem qc68 : gWv RX5 155 RX1 yX1_noteNet cX1_noteNet 2 none 1 := ⟨qw278, qw279, qw280, qw232, qw281, by decide +kernel⟩
theorem qc69 : gWv RX5 167 RX0 yX0_takeBack cX0_takeBack 3 (some .int) 0 := ⟨qw283, qw117, qw118, qw29, qw119, by decide +kernel⟩
theorem qc70 : gWv RX5 173 RX4 yX4_canExchange cX4_canExchange 2 (some .boolean) 1 := ⟨qw284, qw285, qw286, qw18, qw287, by decide +kernel⟩
theorem qc71 : gWv RX5 178 RX4 yX4_swapLibero cX4_swapLibero 2 none 1 := ⟨qw288, qw121, qw122, qw18, qw123, by decide +kernel⟩
theorem qc72 : gWv RX5 181 RX4 yX4_isLiberoIn cX4_isLiberoIn 1 (some .boolean) 0 := ⟨qw289, qw44, qw45, qw18, qw46, by decide +kernel⟩
theorem qc73 : gWv RX5 184 RX4 yX4_canSubstitute cX4_canSubstitute 4 (some .boolean) 2 := ⟨qw290, qw291, qw292, qw18, qw293, by decide +kernel⟩
theorem qc74 : gWv RX5 190 RX4 yX4_swapByPair cX4_swapByPair 4 none 2 := ⟨qw294, qw125, qw126, qw18, qw127, by decide +kernel⟩
theorem qc75 : gWv RX5 201 RX1 yX1_isNetNotedOf cX1_isNetNotedOf 2 (some .boolean) 1 := ⟨qw297, qw298, qw299, qw232, qw300, by decide +kernel⟩
theorem qc76 : gWv RX5 214 RX2 yX2_read cX2_read 4 none 1 := ⟨qw303, qw304, qw305, qw88, qw306, by decide +kernel⟩
theorem qc77 : gWv RX5 234 RX2 yX2_lostBy cX2_lostBy 3 (some .int) 2 := ⟨qw310, qw94, qw95, qw88, qw96, by decide +kernel⟩
theorem qc78 : gWs RX6 20 yX6_isIn cX6_isIn 3 (some .boolean) 3 := ⟨qw312, qw313, qw314, qw315, by decide +kernel⟩
theorem qc79 : gWs RX6 24 yX6_slot cX6_slot 2 (some .int) 2 := ⟨qw317, qw318, qw319, qw320, by decide +kernel⟩
theorem qc80 : gWs RX6 28 yX6_isTeam cX6_isTeam 1 (some .boolean) 1 := ⟨qw321, qw322, qw323, qw324, by decide +kernel⟩
theorem qc81 : gWv RX6 39 RX6 yX6_goes cX6_goes 2 (some .boolean) 1 := ⟨qw325, qw326, qw327, qw328, qw329, by decide +kernel⟩
theorem qc82 : gWv RX6 35 RX6 yX6_isOver cX6_isOver 1 (some .boolean) 0 := ⟨qw330, qw331, qw332, qw328, qw333, by decide +kernel⟩
theorem qc83 : gWs RX6 32 yX6_isShirt cX6_isShirt 1 (some .boolean) 1 := ⟨qw334, qw335, qw336, qw337, by decide +kernel⟩
theorem qc84 : gWv RX6 42 RX6 yX6_place cX6_place 5 (some .int) 2 := ⟨qw338, qw339, qw340, qw328, qw341, by decide +kernel⟩
theorem qc85 : gWv RX6 45 RX6 yX6_isLinedUp cX6_isLinedUp 5 (some .boolean) 1 := ⟨qw342, qw343, qw344, qw328, qw345, by decide +kernel⟩
theorem qc86 : gWv RX6 48 RX6 yX6_rotates cX6_rotates 4 none 1 := ⟨qw346, qw347, qw348, qw328, qw349, by decide +kernel⟩
theorem qc87 : gWv RX6 52 RX6 yX6_scores cX6_scores 4 none 1 := ⟨qw350, qw351, qw352, qw328, qw353, by decide +kernel⟩
theorem qc88 : gWv RX6 55 RX6 yX6_wins cX6_wins 4 none 2 := ⟨qw354, qw355, qw356, qw328, qw357, by decide +kernel⟩
theorem qc89 : gWs RX6 59 yX6_isBehind cX6_isBehind 1 (some .boolean) 1 := ⟨qw359, qw360, qw361, qw362, by decide +kernel⟩
theorem qc90 : gWv RX6 62 RX6 yX6_fault cX6_fault 8 (some .int) 4 := ⟨qw363, qw364, qw365, qw328, qw366, by decide +kernel⟩
theorem qc91 : gWv RX6 66 RX6 yX6_ends cX6_ends 4 none 2 := ⟨qw367, qw368, qw369, qw328, qw370, by decide +kernel⟩
theorem qc92 : gWv RX6 69 RX6 yX6_pair cX6_pair 6 (some .int) 2 := ⟨qw371, qw372, qw373, qw328, qw374, by decide +kernel⟩
theorem qc93 : gWs RX6 72 yX6_isPlace cX6_isPlace 2 (some .boolean) 2 := ⟨qw375, qw376, qw377, qw378, by decide +kernel⟩
theorem qt1 : ∀ w ∈ vx_atS RX5 242 "java/lang/IndexOutOfBoundsException" ["java/lang/RuntimeException", "java/lang/Exception"], w ∈ gT ∨ w ∈ gNest := fun w h => by
  have h1 := (show ∀ w ∈ vx_atS RX5 242 "java/lang/IndexOutOfBoundsException" ["java/lang/RuntimeException", "java/lang/Exception"], (w ∈ lw_tbl ∧ goodWord w = true) ∨ w ∈ gNest by decide +kernel) w h
  exact h1.imp (fun h2 => gT_in h2.1 h2.2) id
theorem qt2 : ∀ w ∈ vx_atS RX5 89 "java/lang/IllegalStateException" ["java/lang/RuntimeException", "java/lang/Exception"], w ∈ gT ∨ w ∈ gNest := fun w h => by
  have h1 := (show ∀ w ∈ vx_atS RX5 89 "java/lang/IllegalStateException" ["java/lang/RuntimeException", "java/lang/Exception"], (w ∈ lw_tbl ∧ goodWord w = true) ∨ w ∈ gNest by decide +kernel) w h
  exact h1.imp (fun h2 => gT_in h2.1 h2.2) id
theorem qt3 : ∀ w ∈ vx_atS RX5 134 "java/lang/IllegalArgumentException" ["java/lang/RuntimeException", "java/lang/Exception"], w ∈ gT ∨ w ∈ gNest := fun w h => by
  have h1 := (show ∀ w ∈ vx_atS RX5 134 "java/lang/IllegalArgumentException" ["java/lang/RuntimeException", "java/lang/Exception"], (w ∈ lw_tbl ∧ goodWord w = true) ∨ w ∈ gNest by decide +kernel) w h
  exact h1.imp (fun h2 => gT_in h2.1 h2.2) id
end
section
def F_Game_putIn (a1 : Nat) (p2 : Int32) (p3 : Int32) (σ : gSt) : Option gSt := if p2 < (0 : Int32) then (some σ) else (if (nI (gLn a1)) ≤ p2 then (some σ) else (if p2 < 0 ∨ gLn a1 ≤ p2.toNatClampNeg then none else gl (gup σ a1 p2.toNatClampNeg p3) fun σ3 => some σ3))

set_option maxHeartbeats 4000000 in
set_option maxRecDepth 100000 in
theorem c_Game_putIn (l : Launch) (hl : l.stackTraces = false) (D : va_G) (cI cJ : ClassId) (ad : Nat → Nat) (a1 : Nat) (p2 : Int32) (p3 : Int32) (ha1 : gKd a1 = 7) : gMv l D cI cJ ad yX5_putIn cX5_putIn 3 none { frames := 0, cells := 0, slots := 0, locals := 0 } [.ref (ad a1), .int p2, .int p3] (F_Game_putIn a1 p2 p3) := by
  refine gStartV (L0 := [(0, .ref (ad a1)), (1, .int p2), (2, .int p3)]) RX5 (by decide) rfl rfl (Nat.le_of_ble_eq_true rfl) ?_
  intro p e s m args below meth c sz σ σ' C hr
  unfold F_Game_putIn
  refine g_iload_n C 1 dX5_putIn_0 rfl rfl ?_
  refine g_if_lt (tgt := 14) C dX5_putIn_1 (by decide) (fun h1 => ?_) (fun h1 => ?_)
  · exact g_retv C hr dX5_putIn_14
  · refine g_iload_n C 1 dX5_putIn_4 rfl rfl ?_
    refine g_aload_n C 0 dX5_putIn_5 rfl rfl ?_
    refine g_alen (o := a1) (n := (gLn a1)) C ha1 rfl dX5_putIn_6 ?_
    refine g_icmp_ge (tgt := 14) C dX5_putIn_7 (by decide) (fun h2 => ?_) (fun h2 => ?_)
    · exact g_retv C hr dX5_putIn_14
    · refine g_aload_n C 0 dX5_putIn_10 rfl rfl ?_
      refine g_iload_n C 1 dX5_putIn_11 rfl rfl ?_
      refine g_iload_n C 2 dX5_putIn_12 rfl rfl ?_
      refine g_iast (o := a1) (n := (gLn a1)) C ha1 rfl dX5_putIn_13 (fun σ3 => ?_)
      exact g_retv C hr dX5_putIn_14

def F_Side_startSet_B27 (k : Nat) : Nat → Int32 → gSt → Option gSt
  | 0, _, _ => none
  | n + 1, l1, σ => if (20 : Int32) < l1 then (some σ) else (gbv (F_Game_putIn (k + 2) l1 (0 : Int32) σ) fun σ2 => F_Side_startSet_B27 k n (l1 + (1 : Int32)) σ2)

def F_Side_startSet (k : Nat) (σ : gSt) : Option gSt := gl (gup σ k 4 (0 : Int32)) fun σ1 => gl (gup σ1 k 6 (0 : Int32)) fun σ2 => gl (gup σ2 k 7 (0 : Int32)) fun σ3 => gl (gup σ3 k 8 (2 : Int32)) fun σ4 => gl (gup σ4 k 9 (0 : Int32)) fun σ5 => F_Side_startSet_B27 k 100 (1 : Int32) σ5

set_option maxHeartbeats 4000000 in
set_option maxRecDepth 100000 in
theorem b_Side_startSet_B27 {p : Program} {l : Launch} {e : Env} {s : State} {m : MethodId} {args : Array Value} {below : List Frame} {meth : Method} {c : Code} {D : va_G} {cI cJ : ClassId} {ad : Nat → Nat} {sz : Nat} {σ' : gSt} (C : gC p s m args meth c D cI cJ ad (gA ad sz) cX4_startSet 2 RX4) (hr : meth.sig.returnType = none) (hl : l.stackTraces = false) (k : Nat) (hk : gIsSide k) : ∀ (n : Nat) (l1 : Int32) (σ : gSt), gX (F_Side_startSet_B27 k n l1 σ) σ' (gG p l e { frames := 1, cells := 0, slots := 0, locals := 22 } s m args below meth c D cI cJ ad (gA ad sz) 2 0 0 (MQ below (va_Qv (fun (_ : Unit) => True) (fun _ t => va_P D vwCl (gw cI cJ ad σ') t.heap) (gA ad sz)) args s 0 0 (gA ad sz)) σ 27 [(0, .ref (ad k)), (1, .int l1)] []) := by
  intro n
  induction n with
  | zero =>
    intro l1 σ
    unfold F_Side_startSet_B27
    exact gX_none
  | succ n ih =>
    intro l1 σ
    unfold F_Side_startSet_B27
    refine g_iload_n C 1 dX4_startSet_27 rfl rfl ?_
    refine g_bipush (v := (20 : Int32)) C dX4_startSet_28 (by decide) ?_
    refine g_icmp_gt (tgt := 48) C dX4_startSet_30 (by decide) (fun h1 => ?_) (fun h1 => ?_)
    · exact g_retv C hr dX4_startSet_48
    · refine g_aload_n C 0 dX4_startSet_33 rfl rfl ?_
      refine g_getR (o' := (k + 2)) C k 1 gcl4 (gSd hk).1 (by decide) (gSd hk).2.2.1 qw10 dX4_startSet_34 ?_
      refine g_iload_n C 1 dX4_startSet_37 rfl rfl ?_
      refine g_iconst (v := (0 : Int32)) C dX4_startSet_38 (by decide) ?_
      refine g_callnv (As := [.ref (ad (k + 2)), .int l1, .int (0 : Int32)]) (n := 3) C (c_Game_putIn l hl D cI cJ ad (k + 2) l1 (0 : Int32) (gSd hk).2.2.2.2.2.1) ⟨rfl, rfl⟩ qc1 (hR := ⟨Nat.le_of_ble_eq_true rfl, Nat.le_of_ble_eq_true rfl⟩) rfl rfl (Nat.le_of_ble_eq_true rfl) dX4_startSet_39 ⟨Nat.zero_le _, Nat.zero_le _⟩ (fun σ2 => ?_)
      refine g_iinc (v := (l1 + (1 : Int32))) (L' := [(1, .int (l1 + (1 : Int32))), (0, .ref (ad k))]) C 1 dX4_startSet_42 rfl (by rfl) (by decide) rfl ?_
      refine g_goto (tgt := 27) C dX4_startSet_45 (by decide) ?_
      refine g_loc [1, 0] rfl ?_
      exact ih (l1 + (1 : Int32)) σ2

set_option maxHeartbeats 4000000 in
set_option maxRecDepth 100000 in
theorem c_Side_startSet (l : Launch) (hl : l.stackTraces = false) (D : va_G) (cI cJ : ClassId) (ad : Nat → Nat) (k : Nat) (hk : gIsSide k) : gMv l D cI cJ ad yX4_startSet cX4_startSet 2 none { frames := 1, cells := 0, slots := 0, locals := 22 } [.ref (ad k)] (F_Side_startSet k) := by
  refine gStartV (L0 := [(0, .ref (ad k))]) RX4 (by decide) rfl rfl (Nat.le_of_ble_eq_true rfl) ?_
  intro p e s m args below meth c sz σ σ' C hr
  unfold F_Side_startSet
  refine g_aload_n C 0 dX4_startSet_0 rfl rfl ?_
  refine g_iconst (v := (0 : Int32)) C dX4_startSet_1 (by decide) ?_
  refine g_putI C k 4 gcl4 gft4 (gSd hk).1 (by decide) ((gSd hk).2.2.2.1 4 (by decide)) rfl rfl qw5 dX4_startSet_2 (fun σ1 => ?_)
  refine g_aload_n C 0 dX4_startSet_5 rfl rfl ?_
  refine g_iconst (v := (0 : Int32)) C dX4_startSet_6 (by decide) ?_
  refine g_putI C k 6 gcl4 gft4 (gSd hk).1 (by decide) ((gSd hk).2.2.2.1 6 (by decide)) rfl rfl qw6 dX4_startSet_7 (fun σ2 => ?_)
  refine g_aload_n C 0 dX4_startSet_10 rfl rfl ?_
  refine g_iconst (v := (0 : Int32)) C dX4_startSet_11 (by decide) ?_
  refine g_putI C k 7 gcl4 gft4 (gSd hk).1 (by decide) ((gSd hk).2.2.2.1 7 (by decide)) rfl rfl qw7 dX4_startSet_12 (fun σ3 => ?_)
  refine g_aload_n C 0 dX4_startSet_15 rfl rfl ?_
  refine g_iconst (v := (2 : Int32)) C dX4_startSet_16 (by decide) ?_
  refine g_putI C k 8 gcl4 gft4 (gSd hk).1 (by decide) ((gSd hk).2.2.2.1 8 (by decide)) rfl rfl qw8 dX4_startSet_17 (fun σ4 => ?_)
  refine g_aload_n C 0 dX4_startSet_20 rfl rfl ?_
  refine g_iconst (v := (0 : Int32)) C dX4_startSet_21 (by decide) ?_
  refine g_putZ C k 9 (by decide) gcl4 gft4 (gSd hk).1 (by decide) ((gSd hk).2.2.2.1 9 (by decide)) rfl rfl qw9 dX4_startSet_22 (fun σ5 => ?_)
  refine g_iconst (v := (1 : Int32)) C dX4_startSet_25 (by decide) ?_
  refine g_istore_n (L' := [(1, .int (1 : Int32)), (0, .ref (ad k))]) C dX4_startSet_26 rfl (by decide) rfl ?_
  refine g_loc [1, 0] rfl ?_
  exact b_Side_startSet_B27 C hr hl k hk 100 (1 : Int32) σ5

def F_Game_valueIn (a1 : Nat) (p2 : Int32) (σ : gSt) : Option (Int32 × gSt) := if p2 < (0 : Int32) then (some ((-1 : Int32), σ)) else (if (nI (gLn a1)) ≤ p2 then (some ((-1 : Int32), σ)) else (if p2 < 0 ∨ gLn a1 ≤ p2.toNatClampNeg then none else some ((σ a1 p2.toNatClampNeg), σ)))

set_option maxHeartbeats 4000000 in
set_option maxRecDepth 100000 in
theorem c_Game_valueIn (l : Launch) (hl : l.stackTraces = false) (D : va_G) (cI cJ : ClassId) (ad : Nat → Nat) (a1 : Nat) (p2 : Int32) (ha1 : gKd a1 = 7) : gMi l D cI cJ ad yX5_valueIn cX5_valueIn 2 (some .int) { frames := 0, cells := 0, slots := 0, locals := 0 } [.ref (ad a1), .int p2] (F_Game_valueIn a1 p2) := by
  refine gStartI (L0 := [(0, .ref (ad a1)), (1, .int p2)]) RX5 (by decide) rfl rfl (Nat.le_of_ble_eq_true rfl) ?_
  intro p e s m args below meth c sz σ r σ' C hr
  unfold F_Game_valueIn
  refine g_iload_n C 1 dX5_valueIn_0 rfl rfl ?_
  refine g_if_lt (tgt := 16) C dX5_valueIn_1 (by decide) (fun h1 => ?_) (fun h1 => ?_)
  · refine g_iconst (v := (-1 : Int32)) C dX5_valueIn_16 (by decide) ?_
    exact g_ireti C hr dX5_valueIn_17
  · refine g_iload_n C 1 dX5_valueIn_4 rfl rfl ?_
    refine g_aload_n C 0 dX5_valueIn_5 rfl rfl ?_
    refine g_alen (o := a1) (n := (gLn a1)) C ha1 rfl dX5_valueIn_6 ?_
    refine g_icmp_ge (tgt := 16) C dX5_valueIn_7 (by decide) (fun h2 => ?_) (fun h2 => ?_)
    · refine g_iconst (v := (-1 : Int32)) C dX5_valueIn_16 (by decide) ?_
      exact g_ireti C hr dX5_valueIn_17
    · refine g_aload_n C 0 dX5_valueIn_10 rfl rfl ?_
      refine g_iload_n C 1 dX5_valueIn_11 rfl rfl ?_
      refine g_iald (o := a1) (n := (gLn a1)) C ha1 rfl dX5_valueIn_12 ?_
      refine g_goto (tgt := 17) C dX5_valueIn_13 (by decide) ?_
      exact g_ireti C hr dX5_valueIn_17

def F_Side_shirtIn (k : Nat) (p1 : Int32) (σ : gSt) : Option (Int32 × gSt) := gbi (F_Game_valueIn (k + 1) p1 σ) fun r2 σ1 => some (r2, σ1)

set_option maxHeartbeats 4000000 in
set_option maxRecDepth 100000 in
theorem c_Side_shirtIn (l : Launch) (hl : l.stackTraces = false) (D : va_G) (cI cJ : ClassId) (ad : Nat → Nat) (k : Nat) (p1 : Int32) (hk : gIsSide k) : gMi l D cI cJ ad yX4_shirtIn cX4_shirtIn 2 (some .int) { frames := 1, cells := 0, slots := 0, locals := 21 } [.ref (ad k), .int p1] (F_Side_shirtIn k p1) := by
  refine gStartI (L0 := [(0, .ref (ad k)), (1, .int p1)]) RX4 (by decide) rfl rfl (Nat.le_of_ble_eq_true rfl) ?_
  intro p e s m args below meth c sz σ r σ' C hr
  unfold F_Side_shirtIn
  refine g_aload_n C 0 dX4_shirtIn_0 rfl rfl ?_
  refine g_getR (o' := (k + 1)) C k 0 gcl4 (gSd hk).1 (by decide) (gSd hk).2.1 qw21 dX4_shirtIn_1 ?_
  refine g_iload_n C 1 dX4_shirtIn_4 rfl rfl ?_
  refine g_callni (As := [.ref (ad (k + 1)), .int p1]) (n := 2) C (c_Game_valueIn l hl D cI cJ ad (k + 1) p1 (gSd hk).2.2.2.2.1) ⟨rfl, rfl⟩ qc3 (hR := ⟨Nat.le_of_ble_eq_true rfl, Nat.le_of_ble_eq_true rfl⟩) rfl rfl (Nat.le_of_ble_eq_true rfl) dX4_shirtIn_5 ⟨Nat.zero_le _, Nat.zero_le _⟩ (fun r2 σ1 => ?_)
  exact g_ireti C hr dX4_shirtIn_8

def F_Side_put (k : Nat) (p1 : Int32) (p2 : Int32) (σ : gSt) : Option gSt := gbv (F_Game_putIn (k + 1) p1 p2 σ) fun σ1 => some σ1

set_option maxHeartbeats 4000000 in
set_option maxRecDepth 100000 in
theorem c_Side_put (l : Launch) (hl : l.stackTraces = false) (D : va_G) (cI cJ : ClassId) (ad : Nat → Nat) (k : Nat) (p1 : Int32) (p2 : Int32) (hk : gIsSide k) : gMv l D cI cJ ad yX4_put cX4_put 3 none { frames := 1, cells := 0, slots := 0, locals := 22 } [.ref (ad k), .int p1, .int p2] (F_Side_put k p1 p2) := by
  refine gStartV (L0 := [(0, .ref (ad k)), (1, .int p1), (2, .int p2)]) RX4 (by decide) rfl rfl (Nat.le_of_ble_eq_true rfl) ?_
  intro p e s m args below meth c sz σ σ' C hr
  unfold F_Side_put
  refine g_aload_n C 0 dX4_put_0 rfl rfl ?_
  refine g_getR (o' := (k + 1)) C k 0 gcl4 (gSd hk).1 (by decide) (gSd hk).2.1 qw21 dX4_put_1 ?_
  refine g_iload_n C 1 dX4_put_4 rfl rfl ?_
  refine g_iload_n C 2 dX4_put_5 rfl rfl ?_
  refine g_callnv (As := [.ref (ad (k + 1)), .int p1, .int p2]) (n := 3) C (c_Game_putIn l hl D cI cJ ad (k + 1) p1 p2 (gSd hk).2.2.2.2.1) ⟨rfl, rfl⟩ qc1 (hR := ⟨Nat.le_of_ble_eq_true rfl, Nat.le_of_ble_eq_true rfl⟩) rfl rfl (Nat.le_of_ble_eq_true rfl) dX4_put_6 ⟨Nat.zero_le _, Nat.zero_le _⟩ (fun σ1 => ?_)
  exact g_retv C hr dX4_put_9

def F_Side_isLiberoIn (k : Nat) (σ : gSt) : Option (Int32 × gSt) := if (σ k 3) = (-1 : Int32) then (some ((0 : Int32), σ)) else (some ((1 : Int32), σ))

set_option maxHeartbeats 4000000 in
set_option maxRecDepth 100000 in
theorem c_Side_isLiberoIn (l : Launch) (hl : l.stackTraces = false) (D : va_G) (cI cJ : ClassId) (ad : Nat → Nat) (k : Nat) (hk : gIsSide k) : gMi l D cI cJ ad yX4_isLiberoIn cX4_isLiberoIn 1 (some .boolean) { frames := 0, cells := 0, slots := 0, locals := 0 } [.ref (ad k)] (F_Side_isLiberoIn k) := by
  refine gStartI (L0 := [(0, .ref (ad k))]) RX4 (by decide) rfl rfl (Nat.le_of_ble_eq_true rfl) ?_
  intro p e s m args below meth c sz σ r σ' C hr
  unfold F_Side_isLiberoIn
  refine g_aload_n C 0 dX4_isLiberoIn_0 rfl rfl ?_
  refine g_getI C k 3 gcl4 (gSd hk).1 (by decide) ((gSd hk).2.2.2.1 3 (by decide)) qw37 dX4_isLiberoIn_1 ?_
  refine g_iconst (v := (-1 : Int32)) C dX4_isLiberoIn_4 (by decide) ?_
  refine g_icmp_eq (tgt := 12) C dX4_isLiberoIn_5 (by decide) (fun h1 => ?_) (fun h1 => ?_)
  · refine g_iconst (v := (0 : Int32)) C dX4_isLiberoIn_12 (by decide) ?_
    exact g_iretz C (by decide) hr dX4_isLiberoIn_13
  · refine g_iconst (v := (1 : Int32)) C dX4_isLiberoIn_8 (by decide) ?_
    refine g_goto (tgt := 13) C dX4_isLiberoIn_9 (by decide) ?_
    exact g_iretz C (by decide) hr dX4_isLiberoIn_13

def F_Side_rotate_B8 (k : Nat) : Nat → Int32 → Int32 → gSt → Option gSt
  | 0, _, _, _ => none
  | n + 1, l1, l2, σ => if (6 : Int32) ≤ l2 then (gbv (F_Side_put k (6 : Int32) l1 σ) fun σ2 => gl (gup σ2 k 6 ((σ2 k 6) + (1 : Int32))) fun σ3 => gbi (F_Side_isLiberoIn k σ3) fun r5 σ4 => if r5 = (0 : Int32) then (some σ4) else (gbi (F_Side_shirtIn k (4 : Int32) σ4) fun r8 σ7 => if r8 = (σ7 k 2) then (gbv (F_Side_put k (4 : Int32) (σ7 k 3) σ7) fun σ10 => gl (gup σ10 k 3 (-1 : Int32)) fun σ11 => some σ11) else (some σ7))) else (gbi (F_Side_shirtIn k (l2 + (1 : Int32)) σ) fun r13 σ12 => gbv (F_Side_put k l2 r13 σ12) fun σ14 => F_Side_rotate_B8 k n l1 (l2 + (1 : Int32)) σ14)

def F_Side_rotate (k : Nat) (σ : gSt) : Option gSt := gbi (F_Side_shirtIn k (1 : Int32) σ) fun r2 σ1 => F_Side_rotate_B8 k 100 r2 (1 : Int32) σ1

set_option maxHeartbeats 4000000 in
set_option maxRecDepth 100000 in
theorem b_Side_rotate_B8 {p : Program} {l : Launch} {e : Env} {s : State} {m : MethodId} {args : Array Value} {below : List Frame} {meth : Method} {c : Code} {D : va_G} {cI cJ : ClassId} {ad : Nat → Nat} {sz : Nat} {σ' : gSt} (C : gC p s m args meth c D cI cJ ad (gA ad sz) cX4_rotate 3 RX4) (hr : meth.sig.returnType = none) (hl : l.stackTraces = false) (k : Nat) (hk : gIsSide k) : ∀ (n : Nat) (l1 : Int32) (l2 : Int32) (σ : gSt), gX (F_Side_rotate_B8 k n l1 l2 σ) σ' (gG p l e { frames := 2, cells := 0, slots := 0, locals := 44 } s m args below meth c D cI cJ ad (gA ad sz) 3 0 0 (MQ below (va_Qv (fun (_ : Unit) => True) (fun _ t => va_P D vwCl (gw cI cJ ad σ') t.heap) (gA ad sz)) args s 0 0 (gA ad sz)) σ 8 [(0, .ref (ad k)), (1, .int l1), (2, .int l2)] []) := by
  intro n
  induction n with
  | zero =>
    intro l1 l2 σ
    unfold F_Side_rotate_B8
    exact gX_none
  | succ n ih =>
    intro l1 l2 σ
    unfold F_Side_rotate_B8
    refine g_iload_n C 2 dX4_rotate_8 rfl rfl ?_
    refine g_bipush (v := (6 : Int32)) C dX4_rotate_9 (by decide) ?_
    refine g_icmp_ge (tgt := 32) C dX4_rotate_11 (by decide) (fun h1 => ?_) (fun h1 => ?_)
    · refine g_aload_n C 0 dX4_rotate_32 rfl rfl ?_
      refine g_bipush (v := (6 : Int32)) C dX4_rotate_33 (by decide) ?_
      refine g_iload_n C 1 dX4_rotate_35 rfl rfl ?_
      refine g_callvv (As := [.int (6 : Int32), .int l1]) (n := 2) C (c_Side_put l hl D cI cJ ad k (6 : Int32) l1 hk) ⟨rfl, rfl⟩ gcl4 (gSd hk).1 qc7 (hR := ⟨Nat.le_of_ble_eq_true rfl, Nat.le_of_ble_eq_true rfl⟩) rfl rfl (Nat.le_of_ble_eq_true rfl) dX4_rotate_36 ⟨Nat.zero_le _, Nat.zero_le _⟩ (fun σ2 => ?_)
      refine g_aload_n C 0 dX4_rotate_39 rfl rfl ?_
      refine g_dup C dX4_rotate_40 rfl ?_
      refine g_getI C k 6 gcl4 (gSd hk).1 (by decide) ((gSd hk).2.2.2.1 6 (by decide)) qw6 dX4_rotate_41 ?_
      refine g_iconst (v := (1 : Int32)) C dX4_rotate_44 (by decide) ?_
      refine g_iadd C dX4_rotate_45 ?_
      refine g_putI C k 6 gcl4 gft4 (gSd hk).1 (by decide) ((gSd hk).2.2.2.1 6 (by decide)) rfl rfl qw6 dX4_rotate_46 (fun σ3 => ?_)
      refine g_aload_n C 0 dX4_rotate_49 rfl rfl ?_
      refine g_callvi (As := []) (n := 0) C (c_Side_isLiberoIn l hl D cI cJ ad k hk) ⟨rfl, rfl⟩ gcl4 (gSd hk).1 qc8 (hR := ⟨Nat.le_of_ble_eq_true rfl, Nat.le_of_ble_eq_true rfl⟩) rfl rfl (Nat.le_of_ble_eq_true rfl) dX4_rotate_50 ⟨Nat.zero_le _, Nat.zero_le _⟩ (fun r5 σ4 => ?_)
      refine g_if_eq (tgt := 82) C dX4_rotate_53 (by decide) (fun h6 => ?_) (fun h6 => ?_)
      · exact g_retv C hr dX4_rotate_82
      · refine g_aload_n C 0 dX4_rotate_56 rfl rfl ?_
        refine g_iconst (v := (4 : Int32)) C dX4_rotate_57 (by decide) ?_
        refine g_callvi (As := [.int (4 : Int32)]) (n := 1) C (c_Side_shirtIn l hl D cI cJ ad k (4 : Int32) hk) ⟨rfl, rfl⟩ gcl4 (gSd hk).1 qc6 (hR := ⟨Nat.le_of_ble_eq_true rfl, Nat.le_of_ble_eq_true rfl⟩) rfl rfl (Nat.le_of_ble_eq_true rfl) dX4_rotate_58 ⟨Nat.zero_le _, Nat.zero_le _⟩ (fun r8 σ7 => ?_)
        refine g_aload_n C 0 dX4_rotate_61 rfl rfl ?_
        refine g_getI C k 2 gcl4 (gSd hk).1 (by decide) ((gSd hk).2.2.2.1 2 (by decide)) qw47 dX4_rotate_62 ?_
        refine g_icmp_ne (tgt := 82) C dX4_rotate_65 (by decide) (fun h9 => ?_) (fun h9 => ?_)
        · refine g_aload_n C 0 dX4_rotate_68 rfl rfl ?_
          refine g_iconst (v := (4 : Int32)) C dX4_rotate_69 (by decide) ?_
          refine g_aload_n C 0 dX4_rotate_70 rfl rfl ?_
          refine g_getI C k 3 gcl4 (gSd hk).1 (by decide) ((gSd hk).2.2.2.1 3 (by decide)) qw37 dX4_rotate_71 ?_
          refine g_callvv (As := [.int (4 : Int32), .int (σ7 k 3)]) (n := 2) C (c_Side_put l hl D cI cJ ad k (4 : Int32) (σ7 k 3) hk) ⟨rfl, rfl⟩ gcl4 (gSd hk).1 qc7 (hR := ⟨Nat.le_of_ble_eq_true rfl, Nat.le_of_ble_eq_true rfl⟩) rfl rfl (Nat.le_of_ble_eq_true rfl) dX4_rotate_74 ⟨Nat.zero_le _, Nat.zero_le _⟩ (fun σ10 => ?_)
          refine g_aload_n C 0 dX4_rotate_77 rfl rfl ?_
          refine g_iconst (v := (-1 : Int32)) C dX4_rotate_78 (by decide) ?_
          refine g_putI C k 3 gcl4 gft4 (gSd hk).1 (by decide) ((gSd hk).2.2.2.1 3 (by decide)) rfl rfl qw37 dX4_rotate_79 (fun σ11 => ?_)
          exact g_retv C hr dX4_rotate_82
        · exact g_retv C hr dX4_rotate_82
    · refine g_aload_n C 0 dX4_rotate_14 rfl rfl ?_
      refine g_iload_n C 2 dX4_rotate_15 rfl rfl ?_
      refine g_aload_n C 0 dX4_rotate_16 rfl rfl ?_
      refine g_iload_n C 2 dX4_rotate_17 rfl rfl ?_
      refine g_iconst (v := (1 : Int32)) C dX4_rotate_18 (by decide) ?_
      refine g_iadd C dX4_rotate_19 ?_
      refine g_callvi (As := [.int (l2 + (1 : Int32))]) (n := 1) C (c_Side_shirtIn l hl D cI cJ ad k (l2 + (1 : Int32)) hk) ⟨rfl, rfl⟩ gcl4 (gSd hk).1 qc6 (hR := ⟨Nat.le_of_ble_eq_true rfl, Nat.le_of_ble_eq_true rfl⟩) rfl rfl (Nat.le_of_ble_eq_true rfl) dX4_rotate_20 ⟨Nat.zero_le _, Nat.zero_le _⟩ (fun r13 σ12 => ?_)
      refine g_callvv (As := [.int l2, .int r13]) (n := 2) C (c_Side_put l hl D cI cJ ad k l2 r13 hk) ⟨rfl, rfl⟩ gcl4 (gSd hk).1 qc7 (hR := ⟨Nat.le_of_ble_eq_true rfl, Nat.le_of_ble_eq_true rfl⟩) rfl rfl (Nat.le_of_ble_eq_true rfl) dX4_rotate_23 ⟨Nat.zero_le _, Nat.zero_le _⟩ (fun σ14 => ?_)
      refine g_iinc (v := (l2 + (1 : Int32))) (L' := [(2, .int (l2 + (1 : Int32))), (0, .ref (ad k)), (1, .int l1)]) C 2 dX4_rotate_26 rfl (by rfl) (by decide) rfl ?_
      refine g_goto (tgt := 8) C dX4_rotate_29 (by decide) ?_
      refine g_loc [1, 2, 0] rfl ?_
      exact ih l1 (l2 + (1 : Int32)) σ14

set_option maxHeartbeats 4000000 in
set_option maxRecDepth 100000 in
theorem c_Side_rotate (l : Launch) (hl : l.stackTraces = false) (D : va_G) (cI cJ : ClassId) (ad : Nat → Nat) (k : Nat) (hk : gIsSide k) : gMv l D cI cJ ad yX4_rotate cX4_rotate 3 none { frames := 2, cells := 0, slots := 0, locals := 44 } [.ref (ad k)] (F_Side_rotate k) := by
  refine gStartV (L0 := [(0, .ref (ad k))]) RX4 (by decide) rfl rfl (Nat.le_of_ble_eq_true rfl) ?_
  intro p e s m args below meth c sz σ σ' C hr
  unfold F_Side_rotate
  refine g_aload_n C 0 dX4_rotate_0 rfl rfl ?_
  refine g_iconst (v := (1 : Int32)) C dX4_rotate_1 (by decide) ?_
  refine g_callvi (As := [.int (1 : Int32)]) (n := 1) C (c_Side_shirtIn l hl D cI cJ ad k (1 : Int32) hk) ⟨rfl, rfl⟩ gcl4 (gSd hk).1 qc6 (hR := ⟨Nat.le_of_ble_eq_true rfl, Nat.le_of_ble_eq_true rfl⟩) rfl rfl (Nat.le_of_ble_eq_true rfl) dX4_rotate_2 ⟨Nat.zero_le _, Nat.zero_le _⟩ (fun r2 σ1 => ?_)
  refine g_istore_n (L' := [(1, .int r2), (0, .ref (ad k))]) C dX4_rotate_5 rfl (by decide) rfl ?_
  refine g_iconst (v := (1 : Int32)) C dX4_rotate_6 (by decide) ?_
  refine g_istore_n (L' := [(2, .int (1 : Int32)), (1, .int r2), (0, .ref (ad k))]) C dX4_rotate_7 rfl (by decide) rfl ?_
  refine g_loc [2, 1, 0] rfl ?_
  exact b_Side_rotate_B8 C hr hl k hk 100 r2 (1 : Int32) σ1

def F_Side_clearOrder_B2 (k : Nat) : Nat → Int32 → gSt → Option gSt
  | 0, _, _ => none
  | n + 1, l1, σ => if (6 : Int32) < l1 then (gl (gup σ k 2 (-1 : Int32)) fun σ2 => gl (gup σ2 k 3 (-1 : Int32)) fun σ3 => some σ3) else (gbv (F_Side_put k l1 (-1 : Int32) σ) fun σ4 => F_Side_clearOrder_B2 k n (l1 + (1 : Int32)) σ4)

def F_Side_clearOrder (k : Nat) (σ : gSt) : Option gSt := F_Side_clearOrder_B2 k 100 (1 : Int32) σ

set_option maxHeartbeats 4000000 in
set_option maxRecDepth 100000 in
theorem b_Side_clearOrder_B2 {p : Program} {l : Launch} {e : Env} {s : State} {m : MethodId} {args : Array Value} {below : List Frame} {meth : Method} {c : Code} {D : va_G} {cI cJ : ClassId} {ad : Nat → Nat} {sz : Nat} {σ' : gSt} (C : gC p s m args meth c D cI cJ ad (gA ad sz) cX4_clearOrder 2 RX4) (hr : meth.sig.returnType = none) (hl : l.stackTraces = false) (k : Nat) (hk : gIsSide k) : ∀ (n : Nat) (l1 : Int32) (σ : gSt), gX (F_Side_clearOrder_B2 k n l1 σ) σ' (gG p l e { frames := 2, cells := 0, slots := 0, locals := 44 } s m args below meth c D cI cJ ad (gA ad sz) 2 0 0 (MQ below (va_Qv (fun (_ : Unit) => True) (fun _ t => va_P D vwCl (gw cI cJ ad σ') t.heap) (gA ad sz)) args s 0 0 (gA ad sz)) σ 2 [(0, .ref (ad k)), (1, .int l1)] []) := by
  intro n
  induction n with
  | zero =>
    intro l1 σ
    unfold F_Side_clearOrder_B2
    exact gX_none
  | succ n ih =>
    intro l1 σ
    unfold F_Side_clearOrder_B2
    refine g_iload_n C 1 dX4_clearOrder_2 rfl rfl ?_
    refine g_bipush (v := (6 : Int32)) C dX4_clearOrder_3 (by decide) ?_
    refine g_icmp_gt (tgt := 20) C dX4_clearOrder_5 (by decide) (fun h1 => ?_) (fun h1 => ?_)
    · refine g_aload_n C 0 dX4_clearOrder_20 rfl rfl ?_
      refine g_iconst (v := (-1 : Int32)) C dX4_clearOrder_21 (by decide) ?_
      refine g_putI C k 2 gcl4 gft4 (gSd hk).1 (by decide) ((gSd hk).2.2.2.1 2 (by decide)) rfl rfl qw47 dX4_clearOrder_22 (fun σ2 => ?_)
      refine g_aload_n C 0 dX4_clearOrder_25 rfl rfl ?_
      refine g_iconst (v := (-1 : Int32)) C dX4_clearOrder_26 (by decide) ?_
      refine g_putI C k 3 gcl4 gft4 (gSd hk).1 (by decide) ((gSd hk).2.2.2.1 3 (by decide)) rfl rfl qw37 dX4_clearOrder_27 (fun σ3 => ?_)
      exact g_retv C hr dX4_clearOrder_30
    · refine g_aload_n C 0 dX4_clearOrder_8 rfl rfl ?_
      refine g_iload_n C 1 dX4_clearOrder_9 rfl rfl ?_
      refine g_iconst (v := (-1 : Int32)) C dX4_clearOrder_10 (by decide) ?_
      refine g_callvv (As := [.int l1, .int (-1 : Int32)]) (n := 2) C (c_Side_put l hl D cI cJ ad k l1 (-1 : Int32) hk) ⟨rfl, rfl⟩ gcl4 (gSd hk).1 qc7 (hR := ⟨Nat.le_of_ble_eq_true rfl, Nat.le_of_ble_eq_true rfl⟩) rfl rfl (Nat.le_of_ble_eq_true rfl) dX4_clearOrder_11 ⟨Nat.zero_le _, Nat.zero_le _⟩ (fun σ4 => ?_)
      refine g_iinc (v := (l1 + (1 : Int32))) (L' := [(1, .int (l1 + (1 : Int32))), (0, .ref (ad k))]) C 1 dX4_clearOrder_14 rfl (by rfl) (by decide) rfl ?_
      refine g_goto (tgt := 2) C dX4_clearOrder_17 (by decide) ?_
      refine g_loc [1, 0] rfl ?_
      exact ih (l1 + (1 : Int32)) σ4

set_option maxHeartbeats 4000000 in
set_option maxRecDepth 100000 in
theorem c_Side_clearOrder (l : Launch) (hl : l.stackTraces = false) (D : va_G) (cI cJ : ClassId) (ad : Nat → Nat) (k : Nat) (hk : gIsSide k) : gMv l D cI cJ ad yX4_clearOrder cX4_clearOrder 2 none { frames := 2, cells := 0, slots := 0, locals := 44 } [.ref (ad k)] (F_Side_clearOrder k) := by
  refine gStartV (L0 := [(0, .ref (ad k))]) RX4 (by decide) rfl rfl (Nat.le_of_ble_eq_true rfl) ?_
  intro p e s m args below meth c sz σ σ' C hr
  unfold F_Side_clearOrder
  refine g_iconst (v := (1 : Int32)) C dX4_clearOrder_0 (by decide) ?_
  refine g_istore_n (L' := [(1, .int (1 : Int32)), (0, .ref (ad k))]) C dX4_clearOrder_1 rfl (by decide) rfl ?_
  refine g_loc [1, 0] rfl ?_
  exact b_Side_clearOrder_B2 C hr hl k hk 100 (1 : Int32) σ

def F_Side_copyFrom_B26 (k : Nat) (a1 : Nat) : Nat → Int32 → gSt → Option gSt
  | 0, _, _ => none
  | n + 1, l2, σ => if (20 : Int32) < l2 then (gl (gup σ k 2 (σ a1 2)) fun σ2 => gl (gup σ2 k 3 (σ2 a1 3)) fun σ3 => gl (gup σ3 k 4 (σ3 a1 4)) fun σ4 => gl (gup σ4 k 5 (σ4 a1 5)) fun σ5 => gl (gup σ5 k 6 (σ5 a1 6)) fun σ6 => gl (gup σ6 k 7 (σ6 a1 7)) fun σ7 => gl (gup σ7 k 8 (σ7 a1 8)) fun σ8 => if (σ8 a1 9) = 0 ∨ (σ8 a1 9) = 1 then gl (gup σ8 k 9 (σ8 a1 9)) fun σ9 => some σ9 else none) else (gbi (F_Game_valueIn (a1 + 2) l2 σ) fun r12 σ11 => gbv (F_Game_putIn (k + 2) l2 r12 σ11) fun σ13 => F_Side_copyFrom_B26 k a1 n (l2 + (1 : Int32)) σ13)

def F_Side_copyFrom_B2 (k : Nat) (a1 : Nat) : Nat → Int32 → gSt → Option gSt
  | 0, _, _ => none
  | n + 1, l2, σ => if (6 : Int32) < l2 then (F_Side_copyFrom_B26 k a1 100 (1 : Int32) σ) else (gbi (F_Side_shirtIn a1 l2 σ) fun r3 σ2 => gbv (F_Side_put k l2 r3 σ2) fun σ4 => F_Side_copyFrom_B2 k a1 n (l2 + (1 : Int32)) σ4)

def F_Side_copyFrom (k : Nat) (a1 : Nat) (σ : gSt) : Option gSt := F_Side_copyFrom_B2 k a1 100 (1 : Int32) σ

set_option maxHeartbeats 4000000 in
set_option maxRecDepth 100000 in
theorem b_Side_copyFrom_B26 {p : Program} {l : Launch} {e : Env} {s : State} {m : MethodId} {args : Array Value} {below : List Frame} {meth : Method} {c : Code} {D : va_G} {cI cJ : ClassId} {ad : Nat → Nat} {sz : Nat} {σ' : gSt} (C : gC p s m args meth c D cI cJ ad (gA ad sz) cX4_copyFrom 3 RX4) (hr : meth.sig.returnType = none) (hl : l.stackTraces = false) (k : Nat) (a1 : Nat) (hk : gIsSide k) (ha1 : gIsSide a1) : ∀ (n : Nat) (l2 : Int32) (σ : gSt), gX (F_Side_copyFrom_B26 k a1 n l2 σ) σ' (gG p l e { frames := 2, cells := 0, slots := 0, locals := 44 } s m args below meth c D cI cJ ad (gA ad sz) 3 0 0 (MQ below (va_Qv (fun (_ : Unit) => True) (fun _ t => va_P D vwCl (gw cI cJ ad σ') t.heap) (gA ad sz)) args s 0 0 (gA ad sz)) σ 26 [(0, .ref (ad k)), (1, .ref (ad a1)), (2, .int l2)] []) := by
  intro n
  induction n with
  | zero =>
    intro l2 σ
    unfold F_Side_copyFrom_B26
    exact gX_none
  | succ n ih =>
    intro l2 σ
    unfold F_Side_copyFrom_B26
    refine g_iload_n C 2 dX4_copyFrom_26 rfl rfl ?_
    refine g_bipush (v := (20 : Int32)) C dX4_copyFrom_27 (by decide) ?_
    refine g_icmp_gt (tgt := 54) C dX4_copyFrom_29 (by decide) (fun h1 => ?_) (fun h1 => ?_)
    · refine g_aload_n C 0 dX4_copyFrom_54 rfl rfl ?_
      refine g_aload_n C 1 dX4_copyFrom_55 rfl rfl ?_
      refine g_getI C a1 2 gcl4 (gSd ha1).1 (by decide) ((gSd ha1).2.2.2.1 2 (by decide)) qw47 dX4_copyFrom_56 ?_
      refine g_putI C k 2 gcl4 gft4 (gSd hk).1 (by decide) ((gSd hk).2.2.2.1 2 (by decide)) rfl rfl qw47 dX4_copyFrom_59 (fun σ2 => ?_)
      refine g_aload_n C 0 dX4_copyFrom_62 rfl rfl ?_
      refine g_aload_n C 1 dX4_copyFrom_63 rfl rfl ?_
      refine g_getI C a1 3 gcl4 (gSd ha1).1 (by decide) ((gSd ha1).2.2.2.1 3 (by decide)) qw37 dX4_copyFrom_64 ?_
      refine g_putI C k 3 gcl4 gft4 (gSd hk).1 (by decide) ((gSd hk).2.2.2.1 3 (by decide)) rfl rfl qw37 dX4_copyFrom_67 (fun σ3 => ?_)
      refine g_aload_n C 0 dX4_copyFrom_70 rfl rfl ?_
      refine g_aload_n C 1 dX4_copyFrom_71 rfl rfl ?_
      refine g_getI C a1 4 gcl4 (gSd ha1).1 (by decide) ((gSd ha1).2.2.2.1 4 (by decide)) qw5 dX4_copyFrom_72 ?_
      refine g_putI C k 4 gcl4 gft4 (gSd hk).1 (by decide) ((gSd hk).2.2.2.1 4 (by decide)) rfl rfl qw5 dX4_copyFrom_75 (fun σ4 => ?_)
      refine g_aload_n C 0 dX4_copyFrom_78 rfl rfl ?_
      refine g_aload_n C 1 dX4_copyFrom_79 rfl rfl ?_
      refine g_getI C a1 5 gcl4 (gSd ha1).1 (by decide) ((gSd ha1).2.2.2.1 5 (by decide)) qw64 dX4_copyFrom_80 ?_
      refine g_putI C k 5 gcl4 gft4 (gSd hk).1 (by decide) ((gSd hk).2.2.2.1 5 (by decide)) rfl rfl qw64 dX4_copyFrom_83 (fun σ5 => ?_)
      refine g_aload_n C 0 dX4_copyFrom_86 rfl rfl ?_
      refine g_aload_n C 1 dX4_copyFrom_87 rfl rfl ?_
      refine g_getI C a1 6 gcl4 (gSd ha1).1 (by decide) ((gSd ha1).2.2.2.1 6 (by decide)) qw6 dX4_copyFrom_88 ?_
      refine g_putI C k 6 gcl4 gft4 (gSd hk).1 (by decide) ((gSd hk).2.2.2.1 6 (by decide)) rfl rfl qw6 dX4_copyFrom_91 (fun σ6 => ?_)
      refine g_aload_n C 0 dX4_copyFrom_94 rfl rfl ?_
      refine g_aload_n C 1 dX4_copyFrom_95 rfl rfl ?_
      refine g_getI C a1 7 gcl4 (gSd ha1).1 (by decide) ((gSd ha1).2.2.2.1 7 (by decide)) qw7 dX4_copyFrom_96 ?_
      refine g_putI C k 7 gcl4 gft4 (gSd hk).1 (by decide) ((gSd hk).2.2.2.1 7 (by decide)) rfl rfl qw7 dX4_copyFrom_99 (fun σ7 => ?_)
      refine g_aload_n C 0 dX4_copyFrom_102 rfl rfl ?_
      refine g_aload_n C 1 dX4_copyFrom_103 rfl rfl ?_
      refine g_getI C a1 8 gcl4 (gSd ha1).1 (by decide) ((gSd ha1).2.2.2.1 8 (by decide)) qw8 dX4_copyFrom_104 ?_
      refine g_putI C k 8 gcl4 gft4 (gSd hk).1 (by decide) ((gSd hk).2.2.2.1 8 (by decide)) rfl rfl qw8 dX4_copyFrom_107 (fun σ8 => ?_)
      refine g_aload_n C 0 dX4_copyFrom_110 rfl rfl ?_
      refine g_aload_n C 1 dX4_copyFrom_111 rfl rfl ?_
      refine g_getI C a1 9 gcl4 (gSd ha1).1 (by decide) ((gSd ha1).2.2.2.1 9 (by decide)) qw9 dX4_copyFrom_112 ?_
      refine gX_z (fun z10 => ?_)
      refine g_putZ C k 9 z10 gcl4 gft4 (gSd hk).1 (by decide) ((gSd hk).2.2.2.1 9 (by decide)) rfl rfl qw9 dX4_copyFrom_115 (fun σ9 => ?_)
      exact g_retv C hr dX4_copyFrom_118
    · refine g_aload_n C 0 dX4_copyFrom_32 rfl rfl ?_
      refine g_getR (o' := (k + 2)) C k 1 gcl4 (gSd hk).1 (by decide) (gSd hk).2.2.1 qw10 dX4_copyFrom_33 ?_
      refine g_iload_n C 2 dX4_copyFrom_36 rfl rfl ?_
      refine g_aload_n C 1 dX4_copyFrom_37 rfl rfl ?_
      refine g_getR (o' := (a1 + 2)) C a1 1 gcl4 (gSd ha1).1 (by decide) (gSd ha1).2.2.1 qw10 dX4_copyFrom_38 ?_
      refine g_iload_n C 2 dX4_copyFrom_41 rfl rfl ?_
      refine g_callni (As := [.ref (ad (a1 + 2)), .int l2]) (n := 2) C (c_Game_valueIn l hl D cI cJ ad (a1 + 2) l2 (gSd ha1).2.2.2.2.2.1) ⟨rfl, rfl⟩ qc3 (hR := ⟨Nat.le_of_ble_eq_true rfl, Nat.le_of_ble_eq_true rfl⟩) rfl rfl (Nat.le_of_ble_eq_true rfl) dX4_copyFrom_42 ⟨Nat.zero_le _, Nat.zero_le _⟩ (fun r12 σ11 => ?_)
      refine g_callnv (As := [.ref (ad (k + 2)), .int l2, .int r12]) (n := 3) C (c_Game_putIn l hl D cI cJ ad (k + 2) l2 r12 (gSd hk).2.2.2.2.2.1) ⟨rfl, rfl⟩ qc1 (hR := ⟨Nat.le_of_ble_eq_true rfl, Nat.le_of_ble_eq_true rfl⟩) rfl rfl (Nat.le_of_ble_eq_true rfl) dX4_copyFrom_45 ⟨Nat.zero_le _, Nat.zero_le _⟩ (fun σ13 => ?_)
      refine g_iinc (v := (l2 + (1 : Int32))) (L' := [(2, .int (l2 + (1 : Int32))), (0, .ref (ad k)), (1, .ref (ad a1))]) C 2 dX4_copyFrom_48 rfl (by rfl) (by decide) rfl ?_
      refine g_goto (tgt := 26) C dX4_copyFrom_51 (by decide) ?_
      refine g_loc [1, 2, 0] rfl ?_
      exact ih (l2 + (1 : Int32)) σ13

set_option maxHeartbeats 4000000 in
set_option maxRecDepth 100000 in
theorem b_Side_copyFrom_B2 {p : Program} {l : Launch} {e : Env} {s : State} {m : MethodId} {args : Array Value} {below : List Frame} {meth : Method} {c : Code} {D : va_G} {cI cJ : ClassId} {ad : Nat → Nat} {sz : Nat} {σ' : gSt} (C : gC p s m args meth c D cI cJ ad (gA ad sz) cX4_copyFrom 3 RX4) (hr : meth.sig.returnType = none) (hl : l.stackTraces = false) (k : Nat) (a1 : Nat) (hk : gIsSide k) (ha1 : gIsSide a1) : ∀ (n : Nat) (l2 : Int32) (σ : gSt), gX (F_Side_copyFrom_B2 k a1 n l2 σ) σ' (gG p l e { frames := 2, cells := 0, slots := 0, locals := 44 } s m args below meth c D cI cJ ad (gA ad sz) 3 0 0 (MQ below (va_Qv (fun (_ : Unit) => True) (fun _ t => va_P D vwCl (gw cI cJ ad σ') t.heap) (gA ad sz)) args s 0 0 (gA ad sz)) σ 2 [(0, .ref (ad k)), (1, .ref (ad a1)), (2, .int l2)] []) := by
  intro n
  induction n with
  | zero =>
    intro l2 σ
    unfold F_Side_copyFrom_B2
    exact gX_none
  | succ n ih =>
    intro l2 σ
    unfold F_Side_copyFrom_B2
    refine g_iload_n C 2 dX4_copyFrom_2 rfl rfl ?_
    refine g_bipush (v := (6 : Int32)) C dX4_copyFrom_3 (by decide) ?_
    refine g_icmp_gt (tgt := 24) C dX4_copyFrom_5 (by decide) (fun h1 => ?_) (fun h1 => ?_)
    · refine g_iconst (v := (1 : Int32)) C dX4_copyFrom_24 (by decide) ?_
      refine g_istore_n (L' := [(2, .int (1 : Int32)), (0, .ref (ad k)), (1, .ref (ad a1))]) C dX4_copyFrom_25 rfl (by decide) rfl ?_
      refine g_loc [1, 2, 0] rfl ?_
      exact b_Side_copyFrom_B26 C hr hl k a1 hk ha1 100 (1 : Int32) σ
    · refine g_aload_n C 0 dX4_copyFrom_8 rfl rfl ?_
      refine g_iload_n C 2 dX4_copyFrom_9 rfl rfl ?_
      refine g_aload_n C 1 dX4_copyFrom_10 rfl rfl ?_
      refine g_iload_n C 2 dX4_copyFrom_11 rfl rfl ?_
      refine g_callvi (As := [.int l2]) (n := 1) C (c_Side_shirtIn l hl D cI cJ ad a1 l2 ha1) ⟨rfl, rfl⟩ gcl4 (gSd ha1).1 qc6 (hR := ⟨Nat.le_of_ble_eq_true rfl, Nat.le_of_ble_eq_true rfl⟩) rfl rfl (Nat.le_of_ble_eq_true rfl) dX4_copyFrom_12 ⟨Nat.zero_le _, Nat.zero_le _⟩ (fun r3 σ2 => ?_)
      refine g_callvv (As := [.int l2, .int r3]) (n := 2) C (c_Side_put l hl D cI cJ ad k l2 r3 hk) ⟨rfl, rfl⟩ gcl4 (gSd hk).1 qc7 (hR := ⟨Nat.le_of_ble_eq_true rfl, Nat.le_of_ble_eq_true rfl⟩) rfl rfl (Nat.le_of_ble_eq_true rfl) dX4_copyFrom_15 ⟨Nat.zero_le _, Nat.zero_le _⟩ (fun σ4 => ?_)
      refine g_iinc (v := (l2 + (1 : Int32))) (L' := [(2, .int (l2 + (1 : Int32))), (0, .ref (ad k)), (1, .ref (ad a1))]) C 2 dX4_copyFrom_18 rfl (by rfl) (by decide) rfl ?_
      refine g_goto (tgt := 2) C dX4_copyFrom_21 (by decide) ?_
      refine g_loc [1, 2, 0] rfl ?_
      exact ih (l2 + (1 : Int32)) σ4

set_option maxHeartbeats 4000000 in
set_option maxRecDepth 100000 in
theorem c_Side_copyFrom (l : Launch) (hl : l.stackTraces = false) (D : va_G) (cI cJ : ClassId) (ad : Nat → Nat) (k : Nat) (a1 : Nat) (hk : gIsSide k) (ha1 : gIsSide a1) : gMv l D cI cJ ad yX4_copyFrom cX4_copyFrom 3 none { frames := 2, cells := 0, slots := 0, locals := 44 } [.ref (ad k), .ref (ad a1)] (F_Side_copyFrom k a1) := by
  refine gStartV (L0 := [(0, .ref (ad k)), (1, .ref (ad a1))]) RX4 (by decide) rfl rfl (Nat.le_of_ble_eq_true rfl) ?_
  intro p e s m args below meth c sz σ σ' C hr
  unfold F_Side_copyFrom
  refine g_iconst (v := (1 : Int32)) C dX4_copyFrom_0 (by decide) ?_
  refine g_istore_n (L' := [(2, .int (1 : Int32)), (0, .ref (ad k)), (1, .ref (ad a1))]) C dX4_copyFrom_1 rfl (by decide) rfl ?_
  refine g_loc [1, 2, 0] rfl ?_
  exact b_Side_copyFrom_B2 C hr hl k a1 hk ha1 100 (1 : Int32) σ

def F_Side_placeOf_B2 (k : Nat) (p1 : Int32) : Nat → Int32 → Int32 → gSt → Option (Int32 × gSt)
  | 0, _, _, _ => none
  | n + 1, l1, l2, σ => if (6 : Int32) < l2 then (some ((-1 : Int32), σ)) else (gbi (F_Side_shirtIn k l2 σ) fun r3 σ2 => if r3 = l1 then (some (l2, σ2)) else (F_Side_placeOf_B2 k p1 n l1 (l2 + (1 : Int32)) σ2))

def F_Side_placeOf (k : Nat) (p1 : Int32) (σ : gSt) : Option (Int32 × gSt) := F_Side_placeOf_B2 k p1 100 p1 (1 : Int32) σ

set_option maxHeartbeats 4000000 in
set_option maxRecDepth 100000 in
theorem b_Side_placeOf_B2 {p : Program} {l : Launch} {e : Env} {s : State} {m : MethodId} {args : Array Value} {below : List Frame} {meth : Method} {c : Code} {D : va_G} {cI cJ : ClassId} {ad : Nat → Nat} {sz : Nat} {r : Int32} {σ' : gSt} (C : gC p s m args meth c D cI cJ ad (gA ad sz) cX4_placeOf 3 RX4) (hr : meth.sig.returnType = (some .int)) (hl : l.stackTraces = false) (k : Nat) (p1 : Int32) (hk : gIsSide k) : ∀ (n : Nat) (l1 : Int32) (l2 : Int32) (σ : gSt), gX (F_Side_placeOf_B2 k p1 n l1 l2 σ) (r, σ') (gG p l e { frames := 2, cells := 0, slots := 0, locals := 42 } s m args below meth c D cI cJ ad (gA ad sz) 3 0 0 (MQ below (va_Qi (fun r1 (_ : Unit) => r1 = r) (fun _ t => va_P D vwCl (gw cI cJ ad σ') t.heap) (gA ad sz)) args s 0 0 (gA ad sz)) σ 2 [(0, .ref (ad k)), (1, .int l1), (2, .int l2)] []) := by
  intro n
  induction n with
  | zero =>
    intro l1 l2 σ
    unfold F_Side_placeOf_B2
    exact gX_none
  | succ n ih =>
    intro l1 l2 σ
    unfold F_Side_placeOf_B2
    refine g_iload_n C 2 dX4_placeOf_2 rfl rfl ?_
    refine g_bipush (v := (6 : Int32)) C dX4_placeOf_3 (by decide) ?_
    refine g_icmp_gt (tgt := 25) C dX4_placeOf_5 (by decide) (fun h1 => ?_) (fun h1 => ?_)
    · refine g_iconst (v := (-1 : Int32)) C dX4_placeOf_25 (by decide) ?_
      exact g_ireti C hr dX4_placeOf_26
    · refine g_aload_n C 0 dX4_placeOf_8 rfl rfl ?_
      refine g_iload_n C 2 dX4_placeOf_9 rfl rfl ?_
      refine g_callvi (As := [.int l2]) (n := 1) C (c_Side_shirtIn l hl D cI cJ ad k l2 hk) ⟨rfl, rfl⟩ gcl4 (gSd hk).1 qc6 (hR := ⟨Nat.le_of_ble_eq_true rfl, Nat.le_of_ble_eq_true rfl⟩) rfl rfl (Nat.le_of_ble_eq_true rfl) dX4_placeOf_10 ⟨Nat.zero_le _, Nat.zero_le _⟩ (fun r3 σ2 => ?_)
      refine g_iload_n C 1 dX4_placeOf_13 rfl rfl ?_
      refine g_icmp_ne (tgt := 19) C dX4_placeOf_14 (by decide) (fun h4 => ?_) (fun h4 => ?_)
      · refine g_iload_n C 2 dX4_placeOf_17 rfl rfl ?_
        exact g_ireti C hr dX4_placeOf_18
      · refine g_iinc (v := (l2 + (1 : Int32))) (L' := [(2, .int (l2 + (1 : Int32))), (0, .ref (ad k)), (1, .int l1)]) C 2 dX4_placeOf_19 rfl (by rfl) (by decide) rfl ?_
        refine g_goto (tgt := 2) C dX4_placeOf_22 (by decide) ?_
        refine g_loc [1, 2, 0] rfl ?_
        exact ih l1 (l2 + (1 : Int32)) σ2

set_option maxHeartbeats 4000000 in
set_option maxRecDepth 100000 in
theorem c_Side_placeOf (l : Launch) (hl : l.stackTraces = false) (D : va_G) (cI cJ : ClassId) (ad : Nat → Nat) (k : Nat) (p1 : Int32) (hk : gIsSide k) : gMi l D cI cJ ad yX4_placeOf cX4_placeOf 3 (some .int) { frames := 2, cells := 0, slots := 0, locals := 42 } [.ref (ad k), .int p1] (F_Side_placeOf k p1) := by
  refine gStartI (L0 := [(0, .ref (ad k)), (1, .int p1)]) RX4 (by decide) rfl rfl (Nat.le_of_ble_eq_true rfl) ?_
  intro p e s m args below meth c sz σ r σ' C hr
  unfold F_Side_placeOf
  refine g_iconst (v := (1 : Int32)) C dX4_placeOf_0 (by decide) ?_
  refine g_istore_n (L' := [(2, .int (1 : Int32)), (0, .ref (ad k)), (1, .int p1)]) C dX4_placeOf_1 rfl (by decide) rfl ?_
  refine g_loc [1, 2, 0] rfl ?_
  exact b_Side_placeOf_B2 C hr hl k p1 hk 100 p1 (1 : Int32) σ

def F_Side_swapLibero (k : Nat) (p1 : Int32) (σ : gSt) : Option gSt := gbi (F_Side_isLiberoIn k σ) fun r2 σ1 => if r2 = (0 : Int32) then (gbi (F_Side_placeOf k p1 σ1) fun r5 σ4 => gbv (F_Side_put k r5 (σ4 k 2) σ4) fun σ6 => gl (gup σ6 k 3 p1) fun σ7 => gl (gup σ7 k 9 (1 : Int32)) fun σ8 => some σ8) else (gbi (F_Side_placeOf k (σ1 k 2) σ1) fun r10 σ9 => gbv (F_Side_put k r10 p1 σ9) fun σ11 => gl (gup σ11 k 3 (-1 : Int32)) fun σ12 => gl (gup σ12 k 9 (1 : Int32)) fun σ13 => some σ13)

set_option maxHeartbeats 4000000 in
set_option maxRecDepth 100000 in
theorem c_Side_swapLibero (l : Launch) (hl : l.stackTraces = false) (D : va_G) (cI cJ : ClassId) (ad : Nat → Nat) (k : Nat) (p1 : Int32) (hk : gIsSide k) : gMv l D cI cJ ad yX4_swapLibero cX4_swapLibero 2 none { frames := 3, cells := 0, slots := 0, locals := 64 } [.ref (ad k), .int p1] (F_Side_swapLibero k p1) := by
  refine gStartV (L0 := [(0, .ref (ad k)), (1, .int p1)]) RX4 (by decide) rfl rfl (Nat.le_of_ble_eq_true rfl) ?_
  intro p e s m args below meth c sz σ σ' C hr
  unfold F_Side_swapLibero
  refine g_aload_n C 0 dX4_swapLibero_0 rfl rfl ?_
  refine g_callvi (As := []) (n := 0) C (c_Side_isLiberoIn l hl D cI cJ ad k hk) ⟨rfl, rfl⟩ gcl4 (gSd hk).1 qc8 (hR := ⟨Nat.le_of_ble_eq_true rfl, Nat.le_of_ble_eq_true rfl⟩) rfl rfl (Nat.le_of_ble_eq_true rfl) dX4_swapLibero_1 ⟨Nat.zero_le _, Nat.zero_le _⟩ (fun r2 σ1 => ?_)
  refine g_if_eq (tgt := 28) C dX4_swapLibero_4 (by decide) (fun h3 => ?_) (fun h3 => ?_)
  · refine g_aload_n C 0 dX4_swapLibero_28 rfl rfl ?_
    refine g_aload_n C 0 dX4_swapLibero_29 rfl rfl ?_
    refine g_iload_n C 1 dX4_swapLibero_30 rfl rfl ?_
    refine g_callvi (As := [.int p1]) (n := 1) C (c_Side_placeOf l hl D cI cJ ad k p1 hk) ⟨rfl, rfl⟩ gcl4 (gSd hk).1 qc21 (hR := ⟨Nat.le_of_ble_eq_true rfl, Nat.le_of_ble_eq_true rfl⟩) rfl rfl (Nat.le_of_ble_eq_true rfl) dX4_swapLibero_31 ⟨Nat.zero_le _, Nat.zero_le _⟩ (fun r5 σ4 => ?_)
    refine g_aload_n C 0 dX4_swapLibero_34 rfl rfl ?_
    refine g_getI C k 2 gcl4 (gSd hk).1 (by decide) ((gSd hk).2.2.2.1 2 (by decide)) qw47 dX4_swapLibero_35 ?_
    refine g_callvv (As := [.int r5, .int (σ4 k 2)]) (n := 2) C (c_Side_put l hl D cI cJ ad k r5 (σ4 k 2) hk) ⟨rfl, rfl⟩ gcl4 (gSd hk).1 qc7 (hR := ⟨Nat.le_of_ble_eq_true rfl, Nat.le_of_ble_eq_true rfl⟩) rfl rfl (Nat.le_of_ble_eq_true rfl) dX4_swapLibero_38 ⟨Nat.zero_le _, Nat.zero_le _⟩ (fun σ6 => ?_)
    refine g_aload_n C 0 dX4_swapLibero_41 rfl rfl ?_
    refine g_iload_n C 1 dX4_swapLibero_42 rfl rfl ?_
    refine g_putI C k 3 gcl4 gft4 (gSd hk).1 (by decide) ((gSd hk).2.2.2.1 3 (by decide)) rfl rfl qw37 dX4_swapLibero_43 (fun σ7 => ?_)
    refine g_aload_n C 0 dX4_swapLibero_46 rfl rfl ?_
    refine g_iconst (v := (1 : Int32)) C dX4_swapLibero_47 (by decide) ?_
    refine g_putZ C k 9 (by decide) gcl4 gft4 (gSd hk).1 (by decide) ((gSd hk).2.2.2.1 9 (by decide)) rfl rfl qw9 dX4_swapLibero_48 (fun σ8 => ?_)
    exact g_retv C hr dX4_swapLibero_51
  · refine g_aload_n C 0 dX4_swapLibero_7 rfl rfl ?_
    refine g_aload_n C 0 dX4_swapLibero_8 rfl rfl ?_
    refine g_aload_n C 0 dX4_swapLibero_9 rfl rfl ?_
    refine g_getI C k 2 gcl4 (gSd hk).1 (by decide) ((gSd hk).2.2.2.1 2 (by decide)) qw47 dX4_swapLibero_10 ?_
    refine g_callvi (As := [.int (σ1 k 2)]) (n := 1) C (c_Side_placeOf l hl D cI cJ ad k (σ1 k 2) hk) ⟨rfl, rfl⟩ gcl4 (gSd hk).1 qc21 (hR := ⟨Nat.le_of_ble_eq_true rfl, Nat.le_of_ble_eq_true rfl⟩) rfl rfl (Nat.le_of_ble_eq_true rfl) dX4_swapLibero_13 ⟨Nat.zero_le _, Nat.zero_le _⟩ (fun r10 σ9 => ?_)
    refine g_iload_n C 1 dX4_swapLibero_16 rfl rfl ?_
    refine g_callvv (As := [.int r10, .int p1]) (n := 2) C (c_Side_put l hl D cI cJ ad k r10 p1 hk) ⟨rfl, rfl⟩ gcl4 (gSd hk).1 qc7 (hR := ⟨Nat.le_of_ble_eq_true rfl, Nat.le_of_ble_eq_true rfl⟩) rfl rfl (Nat.le_of_ble_eq_true rfl) dX4_swapLibero_17 ⟨Nat.zero_le _, Nat.zero_le _⟩ (fun σ11 => ?_)
    refine g_aload_n C 0 dX4_swapLibero_20 rfl rfl ?_
    refine g_iconst (v := (-1 : Int32)) C dX4_swapLibero_21 (by decide) ?_
    refine g_putI C k 3 gcl4 gft4 (gSd hk).1 (by decide) ((gSd hk).2.2.2.1 3 (by decide)) rfl rfl qw37 dX4_swapLibero_22 (fun σ12 => ?_)
    refine g_goto (tgt := 46) C dX4_swapLibero_25 (by decide) ?_
    refine g_aload_n C 0 dX4_swapLibero_46 rfl rfl ?_
    refine g_iconst (v := (1 : Int32)) C dX4_swapLibero_47 (by decide) ?_
    refine g_putZ C k 9 (by decide) gcl4 gft4 (gSd hk).1 (by decide) ((gSd hk).2.2.2.1 9 (by decide)) rfl rfl qw9 dX4_swapLibero_48 (fun σ13 => ?_)
    exact g_retv C hr dX4_swapLibero_51

def F_Side_swapByPair_B41 (k : Nat) (p1 : Int32) (p2 : Int32) (l1 : Int32) (l2 : Int32) (s0 : Int32) (s1 : Int32) (σ : gSt) : Option gSt := gbv (F_Game_putIn (k + 2) s1 s0 σ) fun σ1 => gbi (F_Side_placeOf k l1 σ1) fun r3 σ2 => gbv (F_Side_put k r3 l2 σ2) fun σ4 => gl (gup σ4 k 7 ((σ4 k 7) + (1 : Int32))) fun σ5 => some σ5

def F_Side_swapByPair_B17 (k : Nat) (p1 : Int32) (p2 : Int32) (l1 : Int32) (l2 : Int32) (s0 : Int32) (σ : gSt) : Option gSt := gbv (F_Game_putIn (k + 2) l1 (-1 : Int32) σ) fun σ1 => if s0 = (0 : Int32) then (F_Side_swapByPair_B41 k p1 p2 l1 l2 l1 l2 σ1) else (F_Side_swapByPair_B41 k p1 p2 l1 l2 (-1 : Int32) l2 σ1)

def F_Side_swapByPair (k : Nat) (p1 : Int32) (p2 : Int32) (σ : gSt) : Option gSt := gbi (F_Game_valueIn (k + 2) p1 σ) fun r2 σ1 => if r2 = p2 then (F_Side_swapByPair_B17 k p1 p2 p1 p2 (1 : Int32) σ1) else (F_Side_swapByPair_B17 k p1 p2 p1 p2 (0 : Int32) σ1)

set_option maxHeartbeats 4000000 in
set_option maxRecDepth 100000 in
theorem b_Side_swapByPair_B41 {p : Program} {l : Launch} {e : Env} {s : State} {m : MethodId} {args : Array Value} {below : List Frame} {meth : Method} {c : Code} {D : va_G} {cI cJ : ClassId} {ad : Nat → Nat} {sz : Nat} {σ' : gSt} (C : gC p s m args meth c D cI cJ ad (gA ad sz) cX4_swapByPair 4 RX4) (hr : meth.sig.returnType = none) (hl : l.stackTraces = false) (k : Nat) (p1 : Int32) (p2 : Int32) (hk : gIsSide k) (l1 : Int32) (l2 : Int32) (s0 : Int32) (s1 : Int32) (σ : gSt) : gX (F_Side_swapByPair_B41 k p1 p2 l1 l2 s0 s1 σ) σ' (gG p l e { frames := 3, cells := 0, slots := 0, locals := 64 } s m args below meth c D cI cJ ad (gA ad sz) 4 0 0 (MQ below (va_Qv (fun (_ : Unit) => True) (fun _ t => va_P D vwCl (gw cI cJ ad σ') t.heap) (gA ad sz)) args s 0 0 (gA ad sz)) σ 41 [(0, .ref (ad k)), (1, .int l1), (2, .int l2)] [.int s0, .int s1, .ref (ad (k + 2))]) := by
  unfold F_Side_swapByPair_B41
  refine g_callnv (As := [.ref (ad (k + 2)), .int s1, .int s0]) (n := 3) C (c_Game_putIn l hl D cI cJ ad (k + 2) s1 s0 (gSd hk).2.2.2.2.2.1) ⟨rfl, rfl⟩ qc1 (hR := ⟨Nat.le_of_ble_eq_true rfl, Nat.le_of_ble_eq_true rfl⟩) rfl rfl (Nat.le_of_ble_eq_true rfl) dX4_swapByPair_41 ⟨Nat.zero_le _, Nat.zero_le _⟩ (fun σ1 => ?_)
  refine g_aload_n C 0 dX4_swapByPair_44 rfl rfl ?_
  refine g_aload_n C 0 dX4_swapByPair_45 rfl rfl ?_
  refine g_iload_n C 1 dX4_swapByPair_46 rfl rfl ?_
  refine g_callvi (As := [.int l1]) (n := 1) C (c_Side_placeOf l hl D cI cJ ad k l1 hk) ⟨rfl, rfl⟩ gcl4 (gSd hk).1 qc21 (hR := ⟨Nat.le_of_ble_eq_true rfl, Nat.le_of_ble_eq_true rfl⟩) rfl rfl (Nat.le_of_ble_eq_true rfl) dX4_swapByPair_47 ⟨Nat.zero_le _, Nat.zero_le _⟩ (fun r3 σ2 => ?_)
  refine g_iload_n C 2 dX4_swapByPair_50 rfl rfl ?_
  refine g_callvv (As := [.int r3, .int l2]) (n := 2) C (c_Side_put l hl D cI cJ ad k r3 l2 hk) ⟨rfl, rfl⟩ gcl4 (gSd hk).1 qc7 (hR := ⟨Nat.le_of_ble_eq_true rfl, Nat.le_of_ble_eq_true rfl⟩) rfl rfl (Nat.le_of_ble_eq_true rfl) dX4_swapByPair_51 ⟨Nat.zero_le _, Nat.zero_le _⟩ (fun σ4 => ?_)
  refine g_aload_n C 0 dX4_swapByPair_54 rfl rfl ?_
  refine g_dup C dX4_swapByPair_55 rfl ?_
  refine g_getI C k 7 gcl4 (gSd hk).1 (by decide) ((gSd hk).2.2.2.1 7 (by decide)) qw7 dX4_swapByPair_56 ?_
  refine g_iconst (v := (1 : Int32)) C dX4_swapByPair_59 (by decide) ?_
  refine g_iadd C dX4_swapByPair_60 ?_
  refine g_putI C k 7 gcl4 gft4 (gSd hk).1 (by decide) ((gSd hk).2.2.2.1 7 (by decide)) rfl rfl qw7 dX4_swapByPair_61 (fun σ5 => ?_)
  exact g_retv C hr dX4_swapByPair_64

set_option maxHeartbeats 4000000 in
set_option maxRecDepth 100000 in
theorem b_Side_swapByPair_B17 {p : Program} {l : Launch} {e : Env} {s : State} {m : MethodId} {args : Array Value} {below : List Frame} {meth : Method} {c : Code} {D : va_G} {cI cJ : ClassId} {ad : Nat → Nat} {sz : Nat} {σ' : gSt} (C : gC p s m args meth c D cI cJ ad (gA ad sz) cX4_swapByPair 4 RX4) (hr : meth.sig.returnType = none) (hl : l.stackTraces = false) (k : Nat) (p1 : Int32) (p2 : Int32) (hk : gIsSide k) (l1 : Int32) (l2 : Int32) (s0 : Int32) (σ : gSt) : gX (F_Side_swapByPair_B17 k p1 p2 l1 l2 s0 σ) σ' (gG p l e { frames := 3, cells := 0, slots := 0, locals := 64 } s m args below meth c D cI cJ ad (gA ad sz) 4 0 0 (MQ below (va_Qv (fun (_ : Unit) => True) (fun _ t => va_P D vwCl (gw cI cJ ad σ') t.heap) (gA ad sz)) args s 0 0 (gA ad sz)) σ 17 [(0, .ref (ad k)), (1, .int l1), (2, .int l2)] [.int s0]) := by
  unfold F_Side_swapByPair_B17
  refine g_istore_n (L' := [(3, .int s0), (0, .ref (ad k)), (1, .int l1), (2, .int l2)]) C dX4_swapByPair_17 rfl (by decide) rfl ?_
  refine g_aload_n C 1 dX4_swapByPair_18 rfl rfl ?_
  refine g_getR (o' := (k + 2)) C k 1 gcl4 (gSd hk).1 (by decide) (gSd hk).2.2.1 qw10 dX4_swapByPair_19 ?_
  refine g_iload_n C 2 dX4_swapByPair_22 rfl rfl ?_
  refine g_iconst (v := (-1 : Int32)) C dX4_swapByPair_23 (by decide) ?_
  refine g_callnv (As := [.ref (ad (k + 2)), .int l1, .int (-1 : Int32)]) (n := 3) C (c_Game_putIn l hl D cI cJ ad (k + 2) l1 (-1 : Int32) (gSd hk).2.2.2.2.2.1) ⟨rfl, rfl⟩ qc1 (hR := ⟨Nat.le_of_ble_eq_true rfl, Nat.le_of_ble_eq_true rfl⟩) rfl rfl (Nat.le_of_ble_eq_true rfl) dX4_swapByPair_24 ⟨Nat.zero_le _, Nat.zero_le _⟩ (fun σ1 => ?_)
  refine g_aload_n C 1 dX4_swapByPair_27 rfl rfl ?_
  refine g_getR (o' := (k + 2)) C k 1 gcl4 (gSd hk).1 (by decide) (gSd hk).2.2.1 qw10 dX4_swapByPair_28 ?_
  refine g_iload_n C 3 dX4_swapByPair_31 rfl rfl ?_
  refine g_iload_n C 0 dX4_swapByPair_32 rfl rfl ?_
  refine g_if_eq (tgt := 40) C dX4_swapByPair_33 (by decide) (fun h2 => ?_) (fun h2 => ?_)
  · refine g_iload_n C 2 dX4_swapByPair_40 rfl rfl ?_
    refine g_loc [1, 2, 3] rfl ?_
    exact b_Side_swapByPair_B41 C hr hl k p1 p2 hk l1 l2 l1 l2 σ1
  · refine g_iconst (v := (-1 : Int32)) C dX4_swapByPair_36 (by decide) ?_
    refine g_goto (tgt := 41) C dX4_swapByPair_37 (by decide) ?_
    refine g_loc [1, 2, 3] rfl ?_
    exact b_Side_swapByPair_B41 C hr hl k p1 p2 hk l1 l2 (-1 : Int32) l2 σ1

set_option maxHeartbeats 4000000 in
set_option maxRecDepth 100000 in
theorem c_Side_swapByPair (l : Launch) (hl : l.stackTraces = false) (D : va_G) (cI cJ : ClassId) (ad : Nat → Nat) (k : Nat) (p1 : Int32) (p2 : Int32) (hk : gIsSide k) : gMv l D cI cJ ad yX4_swapByPair cX4_swapByPair 4 none { frames := 3, cells := 0, slots := 0, locals := 64 } [.ref (ad k), .int p1, .int p2] (F_Side_swapByPair k p1 p2) := by
  refine gStartV (L0 := [(0, .ref (ad k)), (1, .int p1), (2, .int p2)]) RX4 (by decide) rfl rfl (Nat.le_of_ble_eq_true rfl) ?_
  intro p e s m args below meth c sz σ σ' C hr
  unfold F_Side_swapByPair
  refine g_aload_n C 0 dX4_swapByPair_0 rfl rfl ?_
  refine g_getR (o' := (k + 2)) C k 1 gcl4 (gSd hk).1 (by decide) (gSd hk).2.2.1 qw10 dX4_swapByPair_1 ?_
  refine g_iload_n C 1 dX4_swapByPair_4 rfl rfl ?_
  refine g_callni (As := [.ref (ad (k + 2)), .int p1]) (n := 2) C (c_Game_valueIn l hl D cI cJ ad (k + 2) p1 (gSd hk).2.2.2.2.2.1) ⟨rfl, rfl⟩ qc3 (hR := ⟨Nat.le_of_ble_eq_true rfl, Nat.le_of_ble_eq_true rfl⟩) rfl rfl (Nat.le_of_ble_eq_true rfl) dX4_swapByPair_5 ⟨Nat.zero_le _, Nat.zero_le _⟩ (fun r2 σ1 => ?_)
  refine g_iload_n C 2 dX4_swapByPair_8 rfl rfl ?_
  refine g_icmp_ne (tgt := 16) C dX4_swapByPair_9 (by decide) (fun h3 => ?_) (fun h3 => ?_)
  · refine g_iconst (v := (1 : Int32)) C dX4_swapByPair_12 (by decide) ?_
    refine g_goto (tgt := 17) C dX4_swapByPair_13 (by decide) ?_
    refine g_loc [0, 1, 2] rfl ?_
    exact b_Side_swapByPair_B17 C hr hl k p1 p2 hk p1 p2 (1 : Int32) σ1
  · refine g_iconst (v := (0 : Int32)) C dX4_swapByPair_16 (by decide) ?_
    refine g_loc [0, 1, 2] rfl ?_
    exact b_Side_swapByPair_B17 C hr hl k p1 p2 hk p1 p2 (0 : Int32) σ1

def F_Side_isBehind (k : Nat) (p1 : Int32) (σ : gSt) : Option (Int32 × gSt) := gbi (F_Side_placeOf k p1 σ) fun r2 σ1 => if r2 = (1 : Int32) then (some ((1 : Int32), σ1)) else (if r2 ≤ (4 : Int32) then (some ((0 : Int32), σ1)) else (some ((1 : Int32), σ1)))

set_option maxHeartbeats 4000000 in
set_option maxRecDepth 100000 in
theorem c_Side_isBehind (l : Launch) (hl : l.stackTraces = false) (D : va_G) (cI cJ : ClassId) (ad : Nat → Nat) (k : Nat) (p1 : Int32) (hk : gIsSide k) : gMi l D cI cJ ad yX4_isBehind cX4_isBehind 3 (some .boolean) { frames := 3, cells := 0, slots := 0, locals := 64 } [.ref (ad k), .int p1] (F_Side_isBehind k p1) := by
  refine gStartI (L0 := [(0, .ref (ad k)), (1, .int p1)]) RX4 (by decide) rfl rfl (Nat.le_of_ble_eq_true rfl) ?_
  intro p e s m args below meth c sz σ r σ' C hr
  unfold F_Side_isBehind
  refine g_aload_n C 0 dX4_isBehind_0 rfl rfl ?_
  refine g_iload_n C 1 dX4_isBehind_1 rfl rfl ?_
  refine g_callvi (As := [.int p1]) (n := 1) C (c_Side_placeOf l hl D cI cJ ad k p1 hk) ⟨rfl, rfl⟩ gcl4 (gSd hk).1 qc21 (hR := ⟨Nat.le_of_ble_eq_true rfl, Nat.le_of_ble_eq_true rfl⟩) rfl rfl (Nat.le_of_ble_eq_true rfl) dX4_isBehind_2 ⟨Nat.zero_le _, Nat.zero_le _⟩ (fun r2 σ1 => ?_)
  refine g_istore_n (L' := [(2, .int r2), (0, .ref (ad k)), (1, .int p1)]) C dX4_isBehind_5 rfl (by decide) rfl ?_
  refine g_iload_n C 0 dX4_isBehind_6 rfl rfl ?_
  refine g_iconst (v := (1 : Int32)) C dX4_isBehind_7 (by decide) ?_
  refine g_icmp_eq (tgt := 16) C dX4_isBehind_8 (by decide) (fun h3 => ?_) (fun h3 => ?_)
  · refine g_iconst (v := (1 : Int32)) C dX4_isBehind_16 (by decide) ?_
    refine g_goto (tgt := 21) C dX4_isBehind_17 (by decide) ?_
    exact g_iretz C (by decide) hr dX4_isBehind_21
  · refine g_iload_n C 0 dX4_isBehind_11 rfl rfl ?_
    refine g_iconst (v := (4 : Int32)) C dX4_isBehind_12 (by decide) ?_
    refine g_icmp_le (tgt := 20) C dX4_isBehind_13 (by decide) (fun h4 => ?_) (fun h4 => ?_)
    · refine g_iconst (v := (0 : Int32)) C dX4_isBehind_20 (by decide) ?_
      exact g_iretz C (by decide) hr dX4_isBehind_21
    · refine g_iconst (v := (1 : Int32)) C dX4_isBehind_16 (by decide) ?_
      refine g_goto (tgt := 21) C dX4_isBehind_17 (by decide) ?_
      exact g_iretz C (by decide) hr dX4_isBehind_21

def F_Side_isReady_B2 (k : Nat) : Nat → Int32 → gSt → Option (Int32 × gSt)
  | 0, _, _ => none
  | n + 1, l1, σ => if (6 : Int32) < l1 then (some ((1 : Int32), σ)) else (gbi (F_Side_shirtIn k l1 σ) fun r3 σ2 => if r3 = (-1 : Int32) then (some ((0 : Int32), σ2)) else (if r3 = (σ2 k 2) then (some ((0 : Int32), σ2)) else (gbi (F_Side_placeOf k r3 σ2) fun r7 σ6 => if r7 = l1 then (F_Side_isReady_B2 k n (l1 + (1 : Int32)) σ6) else (some ((0 : Int32), σ6)))))

def F_Side_isReady (k : Nat) (σ : gSt) : Option (Int32 × gSt) := F_Side_isReady_B2 k 100 (1 : Int32) σ

set_option maxHeartbeats 4000000 in
set_option maxRecDepth 100000 in
theorem b_Side_isReady_B2 {p : Program} {l : Launch} {e : Env} {s : State} {m : MethodId} {args : Array Value} {below : List Frame} {meth : Method} {c : Code} {D : va_G} {cI cJ : ClassId} {ad : Nat → Nat} {sz : Nat} {r : Int32} {σ' : gSt} (C : gC p s m args meth c D cI cJ ad (gA ad sz) cX4_isReady 3 RX4) (hr : meth.sig.returnType = (some .boolean)) (hl : l.stackTraces = false) (k : Nat) (hk : gIsSide k) : ∀ (n : Nat) (l1 : Int32) (σ : gSt), gX (F_Side_isReady_B2 k n l1 σ) (r, σ') (gG p l e { frames := 3, cells := 0, slots := 0, locals := 64 } s m args below meth c D cI cJ ad (gA ad sz) 3 0 0 (MQ below (va_Qi (fun r1 (_ : Unit) => r1 = r) (fun _ t => va_P D vwCl (gw cI cJ ad σ') t.heap) (gA ad sz)) args s 0 0 (gA ad sz)) σ 2 [(0, .ref (ad k)), (1, .int l1)] []) := by
  intro n
  induction n with
  | zero =>
    intro l1 σ
    unfold F_Side_isReady_B2
    exact gX_none
  | succ n ih =>
    intro l1 σ
    unfold F_Side_isReady_B2
    refine g_iload_n C 1 dX4_isReady_2 rfl rfl ?_
    refine g_bipush (v := (6 : Int32)) C dX4_isReady_3 (by decide) ?_
    refine g_icmp_gt (tgt := 44) C dX4_isReady_5 (by decide) (fun h1 => ?_) (fun h1 => ?_)
    · refine g_iconst (v := (1 : Int32)) C dX4_isReady_44 (by decide) ?_
      exact g_iretz C (by decide) hr dX4_isReady_45
    · refine g_aload_n C 0 dX4_isReady_8 rfl rfl ?_
      refine g_iload_n C 1 dX4_isReady_9 rfl rfl ?_
      refine g_callvi (As := [.int l1]) (n := 1) C (c_Side_shirtIn l hl D cI cJ ad k l1 hk) ⟨rfl, rfl⟩ gcl4 (gSd hk).1 qc6 (hR := ⟨Nat.le_of_ble_eq_true rfl, Nat.le_of_ble_eq_true rfl⟩) rfl rfl (Nat.le_of_ble_eq_true rfl) dX4_isReady_10 ⟨Nat.zero_le _, Nat.zero_le _⟩ (fun r3 σ2 => ?_)
      refine g_istore_n (L' := [(2, .int r3), (0, .ref (ad k)), (1, .int l1)]) C dX4_isReady_13 rfl (by decide) rfl ?_
      refine g_iload_n C 0 dX4_isReady_14 rfl rfl ?_
      refine g_iconst (v := (-1 : Int32)) C dX4_isReady_15 (by decide) ?_
      refine g_icmp_eq (tgt := 36) C dX4_isReady_16 (by decide) (fun h4 => ?_) (fun h4 => ?_)
      · refine g_iconst (v := (0 : Int32)) C dX4_isReady_36 (by decide) ?_
        exact g_iretz C (by decide) hr dX4_isReady_37
      · refine g_iload_n C 0 dX4_isReady_19 rfl rfl ?_
        refine g_aload_n C 1 dX4_isReady_20 rfl rfl ?_
        refine g_getI C k 2 gcl4 (gSd hk).1 (by decide) ((gSd hk).2.2.2.1 2 (by decide)) qw47 dX4_isReady_21 ?_
        refine g_icmp_eq (tgt := 36) C dX4_isReady_24 (by decide) (fun h5 => ?_) (fun h5 => ?_)
        · refine g_iconst (v := (0 : Int32)) C dX4_isReady_36 (by decide) ?_
          exact g_iretz C (by decide) hr dX4_isReady_37
        · refine g_aload_n C 1 dX4_isReady_27 rfl rfl ?_
          refine g_iload_n C 0 dX4_isReady_28 rfl rfl ?_
          refine g_callvi (As := [.int r3]) (n := 1) C (c_Side_placeOf l hl D cI cJ ad k r3 hk) ⟨rfl, rfl⟩ gcl4 (gSd hk).1 qc21 (hR := ⟨Nat.le_of_ble_eq_true rfl, Nat.le_of_ble_eq_true rfl⟩) rfl rfl (Nat.le_of_ble_eq_true rfl) dX4_isReady_29 ⟨Nat.zero_le _, Nat.zero_le _⟩ (fun r7 σ6 => ?_)
          refine g_iload_n C 2 dX4_isReady_32 rfl rfl ?_
          refine g_icmp_eq (tgt := 38) C dX4_isReady_33 (by decide) (fun h8 => ?_) (fun h8 => ?_)
          · refine g_iinc (v := (l1 + (1 : Int32))) (L' := [(1, .int (l1 + (1 : Int32))), (2, .int r3), (0, .ref (ad k))]) C 2 dX4_isReady_38 rfl (by rfl) (by decide) rfl ?_
            refine g_goto (tgt := 2) C dX4_isReady_41 (by decide) ?_
            refine g_loc [2, 0] rfl ?_
            exact ih (l1 + (1 : Int32)) σ6
          · refine g_iconst (v := (0 : Int32)) C dX4_isReady_36 (by decide) ?_
            exact g_iretz C (by decide) hr dX4_isReady_37

set_option maxHeartbeats 4000000 in
set_option maxRecDepth 100000 in
theorem c_Side_isReady (l : Launch) (hl : l.stackTraces = false) (D : va_G) (cI cJ : ClassId) (ad : Nat → Nat) (k : Nat) (hk : gIsSide k) : gMi l D cI cJ ad yX4_isReady cX4_isReady 3 (some .boolean) { frames := 3, cells := 0, slots := 0, locals := 64 } [.ref (ad k)] (F_Side_isReady k) := by
  refine gStartI (L0 := [(0, .ref (ad k))]) RX4 (by decide) rfl rfl (Nat.le_of_ble_eq_true rfl) ?_
  intro p e s m args below meth c sz σ r σ' C hr
  unfold F_Side_isReady
  refine g_iconst (v := (1 : Int32)) C dX4_isReady_0 (by decide) ?_
  refine g_istore_n (L' := [(1, .int (1 : Int32)), (0, .ref (ad k))]) C dX4_isReady_1 rfl (by decide) rfl ?_
  refine g_loc [1, 0] rfl ?_
  exact b_Side_isReady_B2 C hr hl k hk 100 (1 : Int32) σ

def F_Side_faultOf_B36 (k : Nat) (p1 : Int32) (p2 : Int32) (p3 : Int32) (l1 : Int32) (l2 : Int32) (σ : gSt) : Option (Int32 × gSt) := if l2 = (1 : Int32) then (if l1 = (σ k 2) then (some ((5 : Int32), σ)) else (some ((0 : Int32), σ))) else (some ((0 : Int32), σ))

def F_Side_faultOf_B19 (k : Nat) (p1 : Int32) (p2 : Int32) (p3 : Int32) (l1 : Int32) (l2 : Int32) (s0 : Int32) (σ : gSt) : Option (Int32 × gSt) := if s0 = (0 : Int32) then (F_Side_faultOf_B36 k p1 p2 p3 l1 l2 σ) else (gbi (F_Side_isBehind k l1 σ) fun r3 σ2 => if r3 = (0 : Int32) then (F_Side_faultOf_B36 k p1 p2 p3 l1 l2 σ2) else (some ((4 : Int32), σ2)))

def F_Side_faultOf_B14 (k : Nat) (p1 : Int32) (p2 : Int32) (p3 : Int32) (l1 : Int32) (l2 : Int32) (σ : gSt) : Option (Int32 × gSt) := F_Side_faultOf_B19 k p1 p2 p3 l1 l2 (1 : Int32) σ

def F_Side_faultOf_B18 (k : Nat) (p1 : Int32) (p2 : Int32) (p3 : Int32) (l1 : Int32) (l2 : Int32) (σ : gSt) : Option (Int32 × gSt) := F_Side_faultOf_B19 k p1 p2 p3 l1 l2 (0 : Int32) σ

def F_Side_faultOf (k : Nat) (p1 : Int32) (p2 : Int32) (p3 : Int32) (σ : gSt) : Option (Int32 × gSt) := if p2 = (2 : Int32) then (F_Side_faultOf_B14 k p1 p2 p3 p1 p2 σ) else (if p2 = (1 : Int32) then (if p3 = (0 : Int32) then (F_Side_faultOf_B18 k p1 p2 p3 p1 p2 σ) else (F_Side_faultOf_B14 k p1 p2 p3 p1 p2 σ)) else (F_Side_faultOf_B18 k p1 p2 p3 p1 p2 σ))

set_option maxHeartbeats 4000000 in
set_option maxRecDepth 100000 in
theorem b_Side_faultOf_B36 {p : Program} {l : Launch} {e : Env} {s : State} {m : MethodId} {args : Array Value} {below : List Frame} {meth : Method} {c : Code} {D : va_G} {cI cJ : ClassId} {ad : Nat → Nat} {sz : Nat} {r : Int32} {σ' : gSt} (C : gC p s m args meth c D cI cJ ad (gA ad sz) cX4_faultOf 5 RX4) (hr : meth.sig.returnType = (some .int)) (hl : l.stackTraces = false) (k : Nat) (p1 : Int32) (p2 : Int32) (p3 : Int32) (hk : gIsSide k) (l1 : Int32) (l2 : Int32) (σ : gSt) : gX (F_Side_faultOf_B36 k p1 p2 p3 l1 l2 σ) (r, σ') (gG p l e { frames := 4, cells := 0, slots := 0, locals := 86 } s m args below meth c D cI cJ ad (gA ad sz) 5 0 0 (MQ below (va_Qi (fun r1 (_ : Unit) => r1 = r) (fun _ t => va_P D vwCl (gw cI cJ ad σ') t.heap) (gA ad sz)) args s 0 0 (gA ad sz)) σ 36 [(0, .ref (ad k)), (1, .int l1), (2, .int l2)] []) := by
  unfold F_Side_faultOf_B36
  refine g_iload_n C 2 dX4_faultOf_36 rfl rfl ?_
  refine g_iconst (v := (1 : Int32)) C dX4_faultOf_37 (by decide) ?_
  refine g_icmp_ne (tgt := 53) C dX4_faultOf_38 (by decide) (fun h1 => ?_) (fun h1 => ?_)
  · refine g_iload_n C 1 dX4_faultOf_41 rfl rfl ?_
    refine g_aload_n C 0 dX4_faultOf_42 rfl rfl ?_
    refine g_getI C k 2 gcl4 (gSd hk).1 (by decide) ((gSd hk).2.2.2.1 2 (by decide)) qw47 dX4_faultOf_43 ?_
    refine g_icmp_ne (tgt := 53) C dX4_faultOf_46 (by decide) (fun h2 => ?_) (fun h2 => ?_)
    · refine g_iconst (v := (5 : Int32)) C dX4_faultOf_49 (by decide) ?_
      refine g_goto (tgt := 54) C dX4_faultOf_50 (by decide) ?_
      exact g_ireti C hr dX4_faultOf_54
    · refine g_iconst (v := (0 : Int32)) C dX4_faultOf_53 (by decide) ?_
      exact g_ireti C hr dX4_faultOf_54
  · refine g_iconst (v := (0 : Int32)) C dX4_faultOf_53 (by decide) ?_
    exact g_ireti C hr dX4_faultOf_54

set_option maxHeartbeats 4000000 in
set_option maxRecDepth 100000 in
theorem b_Side_faultOf_B19 {p : Program} {l : Launch} {e : Env} {s : State} {m : MethodId} {args : Array Value} {below : List Frame} {meth : Method} {c : Code} {D : va_G} {cI cJ : ClassId} {ad : Nat → Nat} {sz : Nat} {r : Int32} {σ' : gSt} (C : gC p s m args meth c D cI cJ ad (gA ad sz) cX4_faultOf 5 RX4) (hr : meth.sig.returnType = (some .int)) (hl : l.stackTraces = false) (k : Nat) (p1 : Int32) (p2 : Int32) (p3 : Int32) (hk : gIsSide k) (l1 : Int32) (l2 : Int32) (s0 : Int32) (σ : gSt) : gX (F_Side_faultOf_B19 k p1 p2 p3 l1 l2 s0 σ) (r, σ') (gG p l e { frames := 4, cells := 0, slots := 0, locals := 86 } s m args below meth c D cI cJ ad (gA ad sz) 5 0 0 (MQ below (va_Qi (fun r1 (_ : Unit) => r1 = r) (fun _ t => va_P D vwCl (gw cI cJ ad σ') t.heap) (gA ad sz)) args s 0 0 (gA ad sz)) σ 19 [(0, .ref (ad k)), (1, .int l1), (2, .int l2)] [.int s0]) := by
  unfold F_Side_faultOf_B19
  refine g_istore (L' := [(4, .int s0), (0, .ref (ad k)), (1, .int l1), (2, .int l2)]) C dX4_faultOf_19 (by decide) rfl ?_
  refine g_iload C 0 dX4_faultOf_21 rfl ?_
  refine g_if_eq (tgt := 36) C dX4_faultOf_23 (by decide) (fun h1 => ?_) (fun h1 => ?_)
  · refine g_loc [1, 2, 3] rfl ?_
    exact b_Side_faultOf_B36 C hr hl k p1 p2 p3 hk l1 l2 σ
  · refine g_aload_n C 1 dX4_faultOf_26 rfl rfl ?_
    refine g_iload_n C 2 dX4_faultOf_27 rfl rfl ?_
    refine g_callvi (As := [.int l1]) (n := 1) C (c_Side_isBehind l hl D cI cJ ad k l1 hk) ⟨rfl, rfl⟩ gcl4 (gSd hk).1 qc38 (hR := ⟨Nat.le_of_ble_eq_true rfl, Nat.le_of_ble_eq_true rfl⟩) rfl rfl (Nat.le_of_ble_eq_true rfl) dX4_faultOf_28 ⟨Nat.zero_le _, Nat.zero_le _⟩ (fun r3 σ2 => ?_)
    refine g_if_eq (tgt := 36) C dX4_faultOf_31 (by decide) (fun h4 => ?_) (fun h4 => ?_)
    · refine g_loc [1, 2, 3] rfl ?_
      exact b_Side_faultOf_B36 C hr hl k p1 p2 p3 hk l1 l2 σ2
    · refine g_iconst (v := (4 : Int32)) C dX4_faultOf_34 (by decide) ?_
      exact g_ireti C hr dX4_faultOf_35

set_option maxHeartbeats 4000000 in
set_option maxRecDepth 100000 in
theorem b_Side_faultOf_B14 {p : Program} {l : Launch} {e : Env} {s : State} {m : MethodId} {args : Array Value} {below : List Frame} {meth : Method} {c : Code} {D : va_G} {cI cJ : ClassId} {ad : Nat → Nat} {sz : Nat} {r : Int32} {σ' : gSt} (C : gC p s m args meth c D cI cJ ad (gA ad sz) cX4_faultOf 5 RX4) (hr : meth.sig.returnType = (some .int)) (hl : l.stackTraces = false) (k : Nat) (p1 : Int32) (p2 : Int32) (p3 : Int32) (hk : gIsSide k) (l1 : Int32) (l2 : Int32) (σ : gSt) : gX (F_Side_faultOf_B14 k p1 p2 p3 l1 l2 σ) (r, σ') (gG p l e { frames := 4, cells := 0, slots := 0, locals := 86 } s m args below meth c D cI cJ ad (gA ad sz) 5 0 0 (MQ below (va_Qi (fun r1 (_ : Unit) => r1 = r) (fun _ t => va_P D vwCl (gw cI cJ ad σ') t.heap) (gA ad sz)) args s 0 0 (gA ad sz)) σ 14 [(0, .ref (ad k)), (1, .int l1), (2, .int l2)] []) := by
  unfold F_Side_faultOf_B14
  refine g_iconst (v := (1 : Int32)) C dX4_faultOf_14 (by decide) ?_
  refine g_goto (tgt := 19) C dX4_faultOf_15 (by decide) ?_
  refine g_loc [0, 1, 2] rfl ?_
  exact b_Side_faultOf_B19 C hr hl k p1 p2 p3 hk l1 l2 (1 : Int32) σ

set_option maxHeartbeats 4000000 in
set_option maxRecDepth 100000 in
theorem b_Side_faultOf_B18 {p : Program} {l : Launch} {e : Env} {s : State} {m : MethodId} {args : Array Value} {below : List Frame} {meth : Method} {c : Code} {D : va_G} {cI cJ : ClassId} {ad : Nat → Nat} {sz : Nat} {r : Int32} {σ' : gSt} (C : gC p s m args meth c D cI cJ ad (gA ad sz) cX4_faultOf 5 RX4) (hr : meth.sig.returnType = (some .int)) (hl : l.stackTraces = false) (k : Nat) (p1 : Int32) (p2 : Int32) (p3 : Int32) (hk : gIsSide k) (l1 : Int32) (l2 : Int32) (σ : gSt) : gX (F_Side_faultOf_B18 k p1 p2 p3 l1 l2 σ) (r, σ') (gG p l e { frames := 4, cells := 0, slots := 0, locals := 86 } s m args below meth c D cI cJ ad (gA ad sz) 5 0 0 (MQ below (va_Qi (fun r1 (_ : Unit) => r1 = r) (fun _ t => va_P D vwCl (gw cI cJ ad σ') t.heap) (gA ad sz)) args s 0 0 (gA ad sz)) σ 18 [(0, .ref (ad k)), (1, .int l1), (2, .int l2)] []) := by
  unfold F_Side_faultOf_B18
  refine g_iconst (v := (0 : Int32)) C dX4_faultOf_18 (by decide) ?_
  refine g_loc [0, 1, 2] rfl ?_
  exact b_Side_faultOf_B19 C hr hl k p1 p2 p3 hk l1 l2 (0 : Int32) σ

set_option maxHeartbeats 4000000 in
set_option maxRecDepth 100000 in
theorem c_Side_faultOf (l : Launch) (hl : l.stackTraces = false) (D : va_G) (cI cJ : ClassId) (ad : Nat → Nat) (k : Nat) (p1 : Int32) (p2 : Int32) (p3 : Int32) (hk : gIsSide k) : gMi l D cI cJ ad yX4_faultOf cX4_faultOf 5 (some .int) { frames := 4, cells := 0, slots := 0, locals := 86 } [.ref (ad k), .int p1, .int p2, .int p3] (F_Side_faultOf k p1 p2 p3) := by
  refine gStartI (L0 := [(0, .ref (ad k)), (1, .int p1), (2, .int p2), (3, .int p3)]) RX4 (by decide) rfl rfl (Nat.le_of_ble_eq_true rfl) ?_
  intro p e s m args below meth c sz σ r σ' C hr
  unfold F_Side_faultOf
  refine g_iload_n C 2 dX4_faultOf_0 rfl rfl ?_
  refine g_iconst (v := (2 : Int32)) C dX4_faultOf_1 (by decide) ?_
  refine g_icmp_eq (tgt := 14) C dX4_faultOf_2 (by decide) (fun h1 => ?_) (fun h1 => ?_)
  · refine g_loc [0, 1, 2] rfl ?_
    exact b_Side_faultOf_B14 C hr hl k p1 p2 p3 hk p1 p2 σ
  · refine g_iload_n C 2 dX4_faultOf_5 rfl rfl ?_
    refine g_iconst (v := (1 : Int32)) C dX4_faultOf_6 (by decide) ?_
    refine g_icmp_ne (tgt := 18) C dX4_faultOf_7 (by decide) (fun h2 => ?_) (fun h2 => ?_)
    · refine g_iload_n C 3 dX4_faultOf_10 rfl rfl ?_
      refine g_if_eq (tgt := 18) C dX4_faultOf_11 (by decide) (fun h3 => ?_) (fun h3 => ?_)
      · refine g_loc [0, 1, 2] rfl ?_
        exact b_Side_faultOf_B18 C hr hl k p1 p2 p3 hk p1 p2 σ
      · refine g_loc [0, 1, 2] rfl ?_
        exact b_Side_faultOf_B14 C hr hl k p1 p2 p3 hk p1 p2 σ
    · refine g_loc [0, 1, 2] rfl ?_
      exact b_Side_faultOf_B18 C hr hl k p1 p2 p3 hk p1 p2 σ

def F_Side_canExchange (k : Nat) (p1 : Int32) (σ : gSt) : Option (Int32 × gSt) := if (σ k 2) = (-1 : Int32) then (some ((0 : Int32), σ)) else (if (σ k 9) = (0 : Int32) then (gbi (F_Side_isLiberoIn k σ) fun r4 σ3 => if r4 = (0 : Int32) then (gbi (F_Side_isBehind k p1 σ3) fun r7 σ6 => if r7 = 0 ∨ r7 = 1 then some (r7, σ6) else none) else (if p1 = (σ3 k 3) then (some ((1 : Int32), σ3)) else (some ((0 : Int32), σ3)))) else (some ((0 : Int32), σ)))

set_option maxHeartbeats 4000000 in
set_option maxRecDepth 100000 in
theorem c_Side_canExchange (l : Launch) (hl : l.stackTraces = false) (D : va_G) (cI cJ : ClassId) (ad : Nat → Nat) (k : Nat) (p1 : Int32) (hk : gIsSide k) : gMi l D cI cJ ad yX4_canExchange cX4_canExchange 2 (some .boolean) { frames := 4, cells := 0, slots := 0, locals := 86 } [.ref (ad k), .int p1] (F_Side_canExchange k p1) := by
  refine gStartI (L0 := [(0, .ref (ad k)), (1, .int p1)]) RX4 (by decide) rfl rfl (Nat.le_of_ble_eq_true rfl) ?_
  intro p e s m args below meth c sz σ r σ' C hr
  unfold F_Side_canExchange
  refine g_aload_n C 0 dX4_canExchange_0 rfl rfl ?_
  refine g_getI C k 2 gcl4 (gSd hk).1 (by decide) ((gSd hk).2.2.2.1 2 (by decide)) qw47 dX4_canExchange_1 ?_
  refine g_iconst (v := (-1 : Int32)) C dX4_canExchange_4 (by decide) ?_
  refine g_icmp_eq (tgt := 15) C dX4_canExchange_5 (by decide) (fun h1 => ?_) (fun h1 => ?_)
  · refine g_iconst (v := (0 : Int32)) C dX4_canExchange_15 (by decide) ?_
    exact g_iretz C (by decide) hr dX4_canExchange_16
  · refine g_aload_n C 0 dX4_canExchange_8 rfl rfl ?_
    refine g_getI C k 9 gcl4 (gSd hk).1 (by decide) ((gSd hk).2.2.2.1 9 (by decide)) qw9 dX4_canExchange_9 ?_
    refine g_if_eq (tgt := 17) C dX4_canExchange_12 (by decide) (fun h2 => ?_) (fun h2 => ?_)
    · refine g_aload_n C 0 dX4_canExchange_17 rfl rfl ?_
      refine g_callvi (As := []) (n := 0) C (c_Side_isLiberoIn l hl D cI cJ ad k hk) ⟨rfl, rfl⟩ gcl4 (gSd hk).1 qc8 (hR := ⟨Nat.le_of_ble_eq_true rfl, Nat.le_of_ble_eq_true rfl⟩) rfl rfl (Nat.le_of_ble_eq_true rfl) dX4_canExchange_18 ⟨Nat.zero_le _, Nat.zero_le _⟩ (fun r4 σ3 => ?_)
      refine g_if_eq (tgt := 40) C dX4_canExchange_21 (by decide) (fun h5 => ?_) (fun h5 => ?_)
      · refine g_aload_n C 0 dX4_canExchange_40 rfl rfl ?_
        refine g_iload_n C 1 dX4_canExchange_41 rfl rfl ?_
        refine g_callvi (As := [.int p1]) (n := 1) C (c_Side_isBehind l hl D cI cJ ad k p1 hk) ⟨rfl, rfl⟩ gcl4 (gSd hk).1 qc38 (hR := ⟨Nat.le_of_ble_eq_true rfl, Nat.le_of_ble_eq_true rfl⟩) rfl rfl (Nat.le_of_ble_eq_true rfl) dX4_canExchange_42 ⟨Nat.zero_le _, Nat.zero_le _⟩ (fun r7 σ6 => ?_)
        refine gX_z (fun z8 => ?_)
        exact g_iretz C z8 hr dX4_canExchange_45
      · refine g_iload_n C 1 dX4_canExchange_24 rfl rfl ?_
        refine g_aload_n C 0 dX4_canExchange_25 rfl rfl ?_
        refine g_getI C k 3 gcl4 (gSd hk).1 (by decide) ((gSd hk).2.2.2.1 3 (by decide)) qw37 dX4_canExchange_26 ?_
        refine g_icmp_ne (tgt := 36) C dX4_canExchange_29 (by decide) (fun h9 => ?_) (fun h9 => ?_)
        · refine g_iconst (v := (1 : Int32)) C dX4_canExchange_32 (by decide) ?_
          refine g_goto (tgt := 45) C dX4_canExchange_33 (by decide) ?_
          exact g_iretz C (by decide) hr dX4_canExchange_45
        · refine g_iconst (v := (0 : Int32)) C dX4_canExchange_36 (by decide) ?_
          refine g_goto (tgt := 45) C dX4_canExchange_37 (by decide) ?_
          exact g_iretz C (by decide) hr dX4_canExchange_45
    · refine g_iconst (v := (0 : Int32)) C dX4_canExchange_15 (by decide) ?_
      exact g_iretz C (by decide) hr dX4_canExchange_16

def F_Side_canSubstitute_B82 (k : Nat) (p1 : Int32) (p2 : Int32) (l1 : Int32) (l2 : Int32) (s0 : Int32) (σ : gSt) : Option (Int32 × gSt) := if s0 = (0 : Int32) then (gbi (F_Game_valueIn (k + 2) l1 σ) fun r3 σ2 => if r3 = l2 then (some ((1 : Int32), σ2)) else (some ((0 : Int32), σ2))) else (some ((1 : Int32), σ))

def F_Side_canSubstitute_B81 (k : Nat) (p1 : Int32) (p2 : Int32) (l1 : Int32) (l2 : Int32) (σ : gSt) : Option (Int32 × gSt) := F_Side_canSubstitute_B82 k p1 p2 l1 l2 (0 : Int32) σ

def F_Side_canSubstitute (k : Nat) (p1 : Int32) (p2 : Int32) (σ : gSt) : Option (Int32 × gSt) := if (6 : Int32) ≤ (σ k 7) then (some ((0 : Int32), σ)) else (if p1 = (σ k 2) then (some ((0 : Int32), σ)) else (if p2 = (σ k 2) then (some ((0 : Int32), σ)) else (if p2 = (σ k 3) then (some ((0 : Int32), σ)) else (gbi (F_Side_placeOf k p1 σ) fun r6 σ5 => if r6 = (-1 : Int32) then (some ((0 : Int32), σ5)) else (gbi (F_Side_placeOf k p2 σ5) fun r9 σ8 => if r9 = (-1 : Int32) then (gbi (F_Game_valueIn (k + 2) p1 σ8) fun r12 σ11 => if r12 = (0 : Int32) then (gbi (F_Game_valueIn (k + 2) p2 σ11) fun r15 σ14 => if r15 = (0 : Int32) then (F_Side_canSubstitute_B82 k p1 p2 p1 p2 (1 : Int32) σ14) else (F_Side_canSubstitute_B81 k p1 p2 p1 p2 σ14)) else (F_Side_canSubstitute_B81 k p1 p2 p1 p2 σ11)) else (some ((0 : Int32), σ8)))))))

set_option maxHeartbeats 4000000 in
set_option maxRecDepth 100000 in
theorem b_Side_canSubstitute_B82 {p : Program} {l : Launch} {e : Env} {s : State} {m : MethodId} {args : Array Value} {below : List Frame} {meth : Method} {c : Code} {D : va_G} {cI cJ : ClassId} {ad : Nat → Nat} {sz : Nat} {r : Int32} {σ' : gSt} (C : gC p s m args meth c D cI cJ ad (gA ad sz) cX4_canSubstitute 4 RX4) (hr : meth.sig.returnType = (some .boolean)) (hl : l.stackTraces = false) (k : Nat) (p1 : Int32) (p2 : Int32) (hk : gIsSide k) (l1 : Int32) (l2 : Int32) (s0 : Int32) (σ : gSt) : gX (F_Side_canSubstitute_B82 k p1 p2 l1 l2 s0 σ) (r, σ') (gG p l e { frames := 3, cells := 0, slots := 0, locals := 64 } s m args below meth c D cI cJ ad (gA ad sz) 4 0 0 (MQ below (va_Qi (fun r1 (_ : Unit) => r1 = r) (fun _ t => va_P D vwCl (gw cI cJ ad σ') t.heap) (gA ad sz)) args s 0 0 (gA ad sz)) σ 82 [(0, .ref (ad k)), (1, .int l1), (2, .int l2)] [.int s0]) := by
  unfold F_Side_canSubstitute_B82
  refine g_istore_n (L' := [(3, .int s0), (0, .ref (ad k)), (1, .int l1), (2, .int l2)]) C dX4_canSubstitute_82 rfl (by decide) rfl ?_
  refine g_iload_n C 0 dX4_canSubstitute_83 rfl rfl ?_
  refine g_if_ne (tgt := 99) C dX4_canSubstitute_84 (by decide) (fun h1 => ?_) (fun h1 => ?_)
  · refine g_aload_n C 1 dX4_canSubstitute_87 rfl rfl ?_
    refine g_getR (o' := (k + 2)) C k 1 gcl4 (gSd hk).1 (by decide) (gSd hk).2.2.1 qw10 dX4_canSubstitute_88 ?_
    refine g_iload_n C 2 dX4_canSubstitute_91 rfl rfl ?_
    refine g_callni (As := [.ref (ad (k + 2)), .int l1]) (n := 2) C (c_Game_valueIn l hl D cI cJ ad (k + 2) l1 (gSd hk).2.2.2.2.2.1) ⟨rfl, rfl⟩ qc3 (hR := ⟨Nat.le_of_ble_eq_true rfl, Nat.le_of_ble_eq_true rfl⟩) rfl rfl (Nat.le_of_ble_eq_true rfl) dX4_canSubstitute_92 ⟨Nat.zero_le _, Nat.zero_le _⟩ (fun r3 σ2 => ?_)
    refine g_iload_n C 3 dX4_canSubstitute_95 rfl rfl ?_
    refine g_icmp_ne (tgt := 103) C dX4_canSubstitute_96 (by decide) (fun h4 => ?_) (fun h4 => ?_)
    · refine g_iconst (v := (1 : Int32)) C dX4_canSubstitute_99 (by decide) ?_
      refine g_goto (tgt := 104) C dX4_canSubstitute_100 (by decide) ?_
      exact g_iretz C (by decide) hr dX4_canSubstitute_104
    · refine g_iconst (v := (0 : Int32)) C dX4_canSubstitute_103 (by decide) ?_
      exact g_iretz C (by decide) hr dX4_canSubstitute_104
  · refine g_iconst (v := (1 : Int32)) C dX4_canSubstitute_99 (by decide) ?_
    refine g_goto (tgt := 104) C dX4_canSubstitute_100 (by decide) ?_
    exact g_iretz C (by decide) hr dX4_canSubstitute_104

set_option maxHeartbeats 4000000 in
set_option maxRecDepth 100000 in
theorem b_Side_canSubstitute_B81 {p : Program} {l : Launch} {e : Env} {s : State} {m : MethodId} {args : Array Value} {below : List Frame} {meth : Method} {c : Code} {D : va_G} {cI cJ : ClassId} {ad : Nat → Nat} {sz : Nat} {r : Int32} {σ' : gSt} (C : gC p s m args meth c D cI cJ ad (gA ad sz) cX4_canSubstitute 4 RX4) (hr : meth.sig.returnType = (some .boolean)) (hl : l.stackTraces = false) (k : Nat) (p1 : Int32) (p2 : Int32) (hk : gIsSide k) (l1 : Int32) (l2 : Int32) (σ : gSt) : gX (F_Side_canSubstitute_B81 k p1 p2 l1 l2 σ) (r, σ') (gG p l e { frames := 3, cells := 0, slots := 0, locals := 64 } s m args below meth c D cI cJ ad (gA ad sz) 4 0 0 (MQ below (va_Qi (fun r1 (_ : Unit) => r1 = r) (fun _ t => va_P D vwCl (gw cI cJ ad σ') t.heap) (gA ad sz)) args s 0 0 (gA ad sz)) σ 81 [(0, .ref (ad k)), (1, .int l1), (2, .int l2)] []) := by
  unfold F_Side_canSubstitute_B81
  refine g_iconst (v := (0 : Int32)) C dX4_canSubstitute_81 (by decide) ?_
  refine g_loc [0, 1, 2] rfl ?_
  exact b_Side_canSubstitute_B82 C hr hl k p1 p2 hk l1 l2 (0 : Int32) σ

set_option maxHeartbeats 4000000 in
set_option maxRecDepth 100000 in
theorem c_Side_canSubstitute (l : Launch) (hl : l.stackTraces = false) (D : va_G) (cI cJ : ClassId) (ad : Nat → Nat) (k : Nat) (p1 : Int32) (p2 : Int32) (hk : gIsSide k) : gMi l D cI cJ ad yX4_canSubstitute cX4_canSubstitute 4 (some .boolean) { frames := 3, cells := 0, slots := 0, locals := 64 } [.ref (ad k), .int p1, .int p2] (F_Side_canSubstitute k p1 p2) := by
  refine gStartI (L0 := [(0, .ref (ad k)), (1, .int p1), (2, .int p2)]) RX4 (by decide) rfl rfl (Nat.le_of_ble_eq_true rfl) ?_
  intro p e s m args below meth c sz σ r σ' C hr
  unfold F_Side_canSubstitute
  refine g_aload_n C 0 dX4_canSubstitute_0 rfl rfl ?_
  refine g_getI C k 7 gcl4 (gSd hk).1 (by decide) ((gSd hk).2.2.2.1 7 (by decide)) qw7 dX4_canSubstitute_1 ?_
  refine g_bipush (v := (6 : Int32)) C dX4_canSubstitute_4 (by decide) ?_
  refine g_icmp_ge (tgt := 33) C dX4_canSubstitute_6 (by decide) (fun h1 => ?_) (fun h1 => ?_)
  · refine g_iconst (v := (0 : Int32)) C dX4_canSubstitute_33 (by decide) ?_
    exact g_iretz C (by decide) hr dX4_canSubstitute_34
  · refine g_iload_n C 1 dX4_canSubstitute_9 rfl rfl ?_
    refine g_aload_n C 0 dX4_canSubstitute_10 rfl rfl ?_
    refine g_getI C k 2 gcl4 (gSd hk).1 (by decide) ((gSd hk).2.2.2.1 2 (by decide)) qw47 dX4_canSubstitute_11 ?_
    refine g_icmp_eq (tgt := 33) C dX4_canSubstitute_14 (by decide) (fun h2 => ?_) (fun h2 => ?_)
    · refine g_iconst (v := (0 : Int32)) C dX4_canSubstitute_33 (by decide) ?_
      exact g_iretz C (by decide) hr dX4_canSubstitute_34
    · refine g_iload_n C 2 dX4_canSubstitute_17 rfl rfl ?_
      refine g_aload_n C 0 dX4_canSubstitute_18 rfl rfl ?_
      refine g_getI C k 2 gcl4 (gSd hk).1 (by decide) ((gSd hk).2.2.2.1 2 (by decide)) qw47 dX4_canSubstitute_19 ?_
      refine g_icmp_eq (tgt := 33) C dX4_canSubstitute_22 (by decide) (fun h3 => ?_) (fun h3 => ?_)
      · refine g_iconst (v := (0 : Int32)) C dX4_canSubstitute_33 (by decide) ?_
        exact g_iretz C (by decide) hr dX4_canSubstitute_34
      · refine g_iload_n C 2 dX4_canSubstitute_25 rfl rfl ?_
        refine g_aload_n C 0 dX4_canSubstitute_26 rfl rfl ?_
        refine g_getI C k 3 gcl4 (gSd hk).1 (by decide) ((gSd hk).2.2.2.1 3 (by decide)) qw37 dX4_canSubstitute_27 ?_
        refine g_icmp_ne (tgt := 35) C dX4_canSubstitute_30 (by decide) (fun h4 => ?_) (fun h4 => ?_)
        · refine g_iconst (v := (0 : Int32)) C dX4_canSubstitute_33 (by decide) ?_
          exact g_iretz C (by decide) hr dX4_canSubstitute_34
        · refine g_aload_n C 0 dX4_canSubstitute_35 rfl rfl ?_
          refine g_iload_n C 1 dX4_canSubstitute_36 rfl rfl ?_
          refine g_callvi (As := [.int p1]) (n := 1) C (c_Side_placeOf l hl D cI cJ ad k p1 hk) ⟨rfl, rfl⟩ gcl4 (gSd hk).1 qc21 (hR := ⟨Nat.le_of_ble_eq_true rfl, Nat.le_of_ble_eq_true rfl⟩) rfl rfl (Nat.le_of_ble_eq_true rfl) dX4_canSubstitute_37 ⟨Nat.zero_le _, Nat.zero_le _⟩ (fun r6 σ5 => ?_)
          refine g_iconst (v := (-1 : Int32)) C dX4_canSubstitute_40 (by decide) ?_
          refine g_icmp_eq (tgt := 53) C dX4_canSubstitute_41 (by decide) (fun h7 => ?_) (fun h7 => ?_)
          · refine g_iconst (v := (0 : Int32)) C dX4_canSubstitute_53 (by decide) ?_
            exact g_iretz C (by decide) hr dX4_canSubstitute_54
          · refine g_aload_n C 0 dX4_canSubstitute_44 rfl rfl ?_
            refine g_iload_n C 2 dX4_canSubstitute_45 rfl rfl ?_
            refine g_callvi (As := [.int p2]) (n := 1) C (c_Side_placeOf l hl D cI cJ ad k p2 hk) ⟨rfl, rfl⟩ gcl4 (gSd hk).1 qc21 (hR := ⟨Nat.le_of_ble_eq_true rfl, Nat.le_of_ble_eq_true rfl⟩) rfl rfl (Nat.le_of_ble_eq_true rfl) dX4_canSubstitute_46 ⟨Nat.zero_le _, Nat.zero_le _⟩ (fun r9 σ8 => ?_)
            refine g_iconst (v := (-1 : Int32)) C dX4_canSubstitute_49 (by decide) ?_
            refine g_icmp_eq (tgt := 55) C dX4_canSubstitute_50 (by decide) (fun h10 => ?_) (fun h10 => ?_)
            · refine g_aload_n C 0 dX4_canSubstitute_55 rfl rfl ?_
              refine g_getR (o' := (k + 2)) C k 1 gcl4 (gSd hk).1 (by decide) (gSd hk).2.2.1 qw10 dX4_canSubstitute_56 ?_
              refine g_iload_n C 1 dX4_canSubstitute_59 rfl rfl ?_
              refine g_callni (As := [.ref (ad (k + 2)), .int p1]) (n := 2) C (c_Game_valueIn l hl D cI cJ ad (k + 2) p1 (gSd hk).2.2.2.2.2.1) ⟨rfl, rfl⟩ qc3 (hR := ⟨Nat.le_of_ble_eq_true rfl, Nat.le_of_ble_eq_true rfl⟩) rfl rfl (Nat.le_of_ble_eq_true rfl) dX4_canSubstitute_60 ⟨Nat.zero_le _, Nat.zero_le _⟩ (fun r12 σ11 => ?_)
              refine g_if_ne (tgt := 81) C dX4_canSubstitute_63 (by decide) (fun h13 => ?_) (fun h13 => ?_)
              · refine g_aload_n C 0 dX4_canSubstitute_66 rfl rfl ?_
                refine g_getR (o' := (k + 2)) C k 1 gcl4 (gSd hk).1 (by decide) (gSd hk).2.2.1 qw10 dX4_canSubstitute_67 ?_
                refine g_iload_n C 2 dX4_canSubstitute_70 rfl rfl ?_
                refine g_callni (As := [.ref (ad (k + 2)), .int p2]) (n := 2) C (c_Game_valueIn l hl D cI cJ ad (k + 2) p2 (gSd hk).2.2.2.2.2.1) ⟨rfl, rfl⟩ qc3 (hR := ⟨Nat.le_of_ble_eq_true rfl, Nat.le_of_ble_eq_true rfl⟩) rfl rfl (Nat.le_of_ble_eq_true rfl) dX4_canSubstitute_71 ⟨Nat.zero_le _, Nat.zero_le _⟩ (fun r15 σ14 => ?_)
                refine g_if_ne (tgt := 81) C dX4_canSubstitute_74 (by decide) (fun h16 => ?_) (fun h16 => ?_)
                · refine g_iconst (v := (1 : Int32)) C dX4_canSubstitute_77 (by decide) ?_
                  refine g_goto (tgt := 82) C dX4_canSubstitute_78 (by decide) ?_
                  refine g_loc [0, 1, 2] rfl ?_
                  exact b_Side_canSubstitute_B82 C hr hl k p1 p2 hk p1 p2 (1 : Int32) σ14
                · refine g_loc [0, 1, 2] rfl ?_
                  exact b_Side_canSubstitute_B81 C hr hl k p1 p2 hk p1 p2 σ14
              · refine g_loc [0, 1, 2] rfl ?_
                exact b_Side_canSubstitute_B81 C hr hl k p1 p2 hk p1 p2 σ11
            · refine g_iconst (v := (0 : Int32)) C dX4_canSubstitute_53 (by decide) ?_
              exact g_iretz C (by decide) hr dX4_canSubstitute_54
end
section
def F_Court_sideOf (k : Nat) (p1 : Int32) (σ : gSt) : Option (Nat × gSt) := if p1 = (1 : Int32) then (some ((k + 4), σ)) else (some ((k + 1), σ))

set_option maxHeartbeats 4000000 in
set_option maxRecDepth 100000 in
theorem c_Court_sideOf (l : Launch) (hl : l.stackTraces = false) (D : va_G) (cI cJ : ClassId) (ad : Nat → Nat) (k : Nat) (p1 : Int32) (hk : gIsCourt k) : gMr l D cI cJ ad yX0_sideOf cX0_sideOf 2 (some (.object "Rotationary$Side")) { frames := 0, cells := 0, slots := 0, locals := 0 } [.ref (ad k), .int p1] (F_Court_sideOf k p1) := by
  refine gStartR (L0 := [(0, .ref (ad k)), (1, .int p1)]) RX0 (by decide) rfl rfl (Nat.le_of_ble_eq_true rfl) ?_
  intro p e s m args below meth c sz σ r σ' C hr
  unfold F_Court_sideOf
  refine g_iload_n C 1 dX0_sideOf_0 rfl rfl ?_
  refine g_iconst (v := (1 : Int32)) C dX0_sideOf_1 (by decide) ?_
  refine g_icmp_ne (tgt := 12) C dX0_sideOf_2 (by decide) (fun h1 => ?_) (fun h1 => ?_)
  · refine g_aload_n C 0 dX0_sideOf_5 rfl rfl ?_
    refine g_getR (o' := (k + 4)) C k 1 gcl0 (gCt hk).1 (by decide) (gCt hk).2.2.1 qw1 dX0_sideOf_6 ?_
    refine g_goto (tgt := 16) C dX0_sideOf_9 (by decide) ?_
    exact g_areto C hr (by first | exact Or.inl ⟨_, rfl⟩ | exact Or.inr ⟨_, rfl⟩) dX0_sideOf_16
  · refine g_aload_n C 0 dX0_sideOf_12 rfl rfl ?_
    refine g_getR (o' := (k + 1)) C k 0 gcl0 (gCt hk).1 (by decide) (gCt hk).2.1 qw2 dX0_sideOf_13 ?_
    exact g_areto C hr (by first | exact Or.inl ⟨_, rfl⟩ | exact Or.inr ⟨_, rfl⟩) dX0_sideOf_16

theorem gOf_side {k : Nat} {t : Int32} {σ : gSt} {o : Nat} {σ' : gSt} (hk : gIsCourt k) (h : F_Court_sideOf k t σ = some (o, σ')) : gIsSide o := by
  unfold F_Court_sideOf at h
  split at h
  · cases h; first | exact (gCt hk).2.2.2.2.2 | exact (gCt hk).2.2.2.2.1
  · cases h; first | exact (gCt hk).2.2.2.2.1 | exact (gCt hk).2.2.2.2.2

def F_Court_isSetOn (k : Nat) (σ : gSt) : Option (Int32 × gSt) := if (σ k 2) = (-1 : Int32) then (some ((0 : Int32), σ)) else (some ((1 : Int32), σ))

set_option maxHeartbeats 4000000 in
set_option maxRecDepth 100000 in
theorem c_Court_isSetOn (l : Launch) (hl : l.stackTraces = false) (D : va_G) (cI cJ : ClassId) (ad : Nat → Nat) (k : Nat) (hk : gIsCourt k) : gMi l D cI cJ ad yX0_isSetOn cX0_isSetOn 1 (some .boolean) { frames := 0, cells := 0, slots := 0, locals := 0 } [.ref (ad k)] (F_Court_isSetOn k) := by
  refine gStartI (L0 := [(0, .ref (ad k))]) RX0 (by decide) rfl rfl (Nat.le_of_ble_eq_true rfl) ?_
  intro p e s m args below meth c sz σ r σ' C hr
  unfold F_Court_isSetOn
  refine g_aload_n C 0 dX0_isSetOn_0 rfl rfl ?_
  refine g_getI C k 2 gcl0 (gCt hk).1 (by decide) ((gCt hk).2.2.2.1 2 (by decide)) qw3 dX0_isSetOn_1 ?_
  refine g_iconst (v := (-1 : Int32)) C dX0_isSetOn_4 (by decide) ?_
  refine g_icmp_eq (tgt := 12) C dX0_isSetOn_5 (by decide) (fun h1 => ?_) (fun h1 => ?_)
  · refine g_iconst (v := (0 : Int32)) C dX0_isSetOn_12 (by decide) ?_
    exact g_iretz C (by decide) hr dX0_isSetOn_13
  · refine g_iconst (v := (1 : Int32)) C dX0_isSetOn_8 (by decide) ?_
    refine g_goto (tgt := 13) C dX0_isSetOn_9 (by decide) ?_
    exact g_iretz C (by decide) hr dX0_isSetOn_13

def F_Court_isMatchOver (k : Nat) (σ : gSt) : Option (Int32 × gSt) := if (σ (k + 1) 5) = (3 : Int32) then (some ((1 : Int32), σ)) else (if (σ (k + 4) 5) = (3 : Int32) then (some ((1 : Int32), σ)) else (some ((0 : Int32), σ)))

set_option maxHeartbeats 4000000 in
set_option maxRecDepth 100000 in
theorem c_Court_isMatchOver (l : Launch) (hl : l.stackTraces = false) (D : va_G) (cI cJ : ClassId) (ad : Nat → Nat) (k : Nat) (hk : gIsCourt k) : gMi l D cI cJ ad yX0_isMatchOver cX0_isMatchOver 1 (some .boolean) { frames := 0, cells := 0, slots := 0, locals := 0 } [.ref (ad k)] (F_Court_isMatchOver k) := by
  refine gStartI (L0 := [(0, .ref (ad k))]) RX0 (by decide) rfl rfl (Nat.le_of_ble_eq_true rfl) ?_
  intro p e s m args below meth c sz σ r σ' C hr
  unfold F_Court_isMatchOver
  refine g_aload_n C 0 dX0_isMatchOver_0 rfl rfl ?_
  refine g_getR (o' := (k + 1)) C k 0 gcl0 (gCt hk).1 (by decide) (gCt hk).2.1 qw2 dX0_isMatchOver_1 ?_
  refine g_getIN C (k + 1) 5 gcl4 (gSd (gCt hk).2.2.2.2.1).1 (by decide) ((gSd (gCt hk).2.2.2.2.1).2.2.2.1 5 (by decide)) qn4 dX0_isMatchOver_4 ?_
  refine g_iconst (v := (3 : Int32)) C dX0_isMatchOver_7 (by decide) ?_
  refine g_icmp_eq (tgt := 22) C dX0_isMatchOver_8 (by decide) (fun h1 => ?_) (fun h1 => ?_)
  · refine g_iconst (v := (1 : Int32)) C dX0_isMatchOver_22 (by decide) ?_
    refine g_goto (tgt := 27) C dX0_isMatchOver_23 (by decide) ?_
    exact g_iretz C (by decide) hr dX0_isMatchOver_27
  · refine g_aload_n C 0 dX0_isMatchOver_11 rfl rfl ?_
    refine g_getR (o' := (k + 4)) C k 1 gcl0 (gCt hk).1 (by decide) (gCt hk).2.2.1 qw1 dX0_isMatchOver_12 ?_
    refine g_getIN C (k + 4) 5 gcl4 (gSd (gCt hk).2.2.2.2.2).1 (by decide) ((gSd (gCt hk).2.2.2.2.2).2.2.2.1 5 (by decide)) qn4 dX0_isMatchOver_15 ?_
    refine g_iconst (v := (3 : Int32)) C dX0_isMatchOver_18 (by decide) ?_
    refine g_icmp_ne (tgt := 26) C dX0_isMatchOver_19 (by decide) (fun h2 => ?_) (fun h2 => ?_)
    · refine g_iconst (v := (1 : Int32)) C dX0_isMatchOver_22 (by decide) ?_
      refine g_goto (tgt := 27) C dX0_isMatchOver_23 (by decide) ?_
      exact g_iretz C (by decide) hr dX0_isMatchOver_27
    · refine g_iconst (v := (0 : Int32)) C dX0_isMatchOver_26 (by decide) ?_
      exact g_iretz C (by decide) hr dX0_isMatchOver_27

def F_Court_setsPlayed (k : Nat) (σ : gSt) : Option (Int32 × gSt) := some (((σ (k + 1) 5) + (σ (k + 4) 5)), σ)

set_option maxHeartbeats 4000000 in
set_option maxRecDepth 100000 in
theorem c_Court_setsPlayed (l : Launch) (hl : l.stackTraces = false) (D : va_G) (cI cJ : ClassId) (ad : Nat → Nat) (k : Nat) (hk : gIsCourt k) : gMi l D cI cJ ad yX0_setsPlayed cX0_setsPlayed 1 (some .int) { frames := 0, cells := 0, slots := 0, locals := 0 } [.ref (ad k)] (F_Court_setsPlayed k) := by
  refine gStartI (L0 := [(0, .ref (ad k))]) RX0 (by decide) rfl rfl (Nat.le_of_ble_eq_true rfl) ?_
  intro p e s m args below meth c sz σ r σ' C hr
  unfold F_Court_setsPlayed
  refine g_aload_n C 0 dX0_setsPlayed_0 rfl rfl ?_
  refine g_getR (o' := (k + 1)) C k 0 gcl0 (gCt hk).1 (by decide) (gCt hk).2.1 qw2 dX0_setsPlayed_1 ?_
  refine g_getIN C (k + 1) 5 gcl4 (gSd (gCt hk).2.2.2.2.1).1 (by decide) ((gSd (gCt hk).2.2.2.2.1).2.2.2.1 5 (by decide)) qn4 dX0_setsPlayed_4 ?_
  refine g_aload_n C 0 dX0_setsPlayed_7 rfl rfl ?_
  refine g_getR (o' := (k + 4)) C k 1 gcl0 (gCt hk).1 (by decide) (gCt hk).2.2.1 qw1 dX0_setsPlayed_8 ?_
  refine g_getIN C (k + 4) 5 gcl4 (gSd (gCt hk).2.2.2.2.2).1 (by decide) ((gSd (gCt hk).2.2.2.2.2).2.2.2.1 5 (by decide)) qn4 dX0_setsPlayed_11 ?_
  refine g_iadd C dX0_setsPlayed_14 ?_
  exact g_ireti C hr dX0_setsPlayed_15

def F_Court_startSet (k : Nat) (p1 : Int32) (σ : gSt) : Option gSt := gbv (F_Side_startSet (k + 1) σ) fun σ1 => gbv (F_Side_startSet (k + 4) σ1) fun σ2 => gl (gup σ2 k 2 p1) fun σ3 => gl (gup σ3 k 3 (-1 : Int32)) fun σ4 => some σ4

set_option maxHeartbeats 4000000 in
set_option maxRecDepth 100000 in
theorem c_Court_startSet (l : Launch) (hl : l.stackTraces = false) (D : va_G) (cI cJ : ClassId) (ad : Nat → Nat) (k : Nat) (p1 : Int32) (hk : gIsCourt k) : gMv l D cI cJ ad yX0_startSet cX0_startSet 2 none { frames := 2, cells := 0, slots := 0, locals := 43 } [.ref (ad k), .int p1] (F_Court_startSet k p1) := by
  refine gStartV (L0 := [(0, .ref (ad k)), (1, .int p1)]) RX0 (by decide) rfl rfl (Nat.le_of_ble_eq_true rfl) ?_
  intro p e s m args below meth c sz σ σ' C hr
  unfold F_Court_startSet
  refine g_aload_n C 0 dX0_startSet_0 rfl rfl ?_
  refine g_getR (o' := (k + 1)) C k 0 gcl0 (gCt hk).1 (by decide) (gCt hk).2.1 qw2 dX0_startSet_1 ?_
  refine g_callvv (As := []) (n := 0) C (c_Side_startSet l hl D cI cJ ad (k + 1) (gCt hk).2.2.2.2.1) ⟨rfl, rfl⟩ gcl4 (gSd (gCt hk).2.2.2.2.1).1 qc2 (hR := ⟨Nat.le_of_ble_eq_true rfl, Nat.le_of_ble_eq_true rfl⟩) rfl rfl (Nat.le_of_ble_eq_true rfl) dX0_startSet_4 ⟨Nat.zero_le _, Nat.zero_le _⟩ (fun σ1 => ?_)
  refine g_aload_n C 0 dX0_startSet_7 rfl rfl ?_
  refine g_getR (o' := (k + 4)) C k 1 gcl0 (gCt hk).1 (by decide) (gCt hk).2.2.1 qw1 dX0_startSet_8 ?_
  refine g_callvv (As := []) (n := 0) C (c_Side_startSet l hl D cI cJ ad (k + 4) (gCt hk).2.2.2.2.2) ⟨rfl, rfl⟩ gcl4 (gSd (gCt hk).2.2.2.2.2).1 qc2 (hR := ⟨Nat.le_of_ble_eq_true rfl, Nat.le_of_ble_eq_true rfl⟩) rfl rfl (Nat.le_of_ble_eq_true rfl) dX0_startSet_11 ⟨Nat.zero_le _, Nat.zero_le _⟩ (fun σ2 => ?_)
  refine g_aload_n C 0 dX0_startSet_14 rfl rfl ?_
  refine g_iload_n C 1 dX0_startSet_15 rfl rfl ?_
  refine g_putI C k 2 gcl0 gft0 (gCt hk).1 (by decide) ((gCt hk).2.2.2.1 2 (by decide)) rfl rfl qw3 dX0_startSet_16 (fun σ3 => ?_)
  refine g_aload_n C 0 dX0_startSet_19 rfl rfl ?_
  refine g_iconst (v := (-1 : Int32)) C dX0_startSet_20 (by decide) ?_
  refine g_putI C k 3 gcl0 gft0 (gCt hk).1 (by decide) ((gCt hk).2.2.2.1 3 (by decide)) rfl rfl qw20 dX0_startSet_21 (fun σ4 => ?_)
  exact g_retv C hr dX0_startSet_24

def F_Court_takeService_B44 (k : Nat) (p1 : Int32) (l3 : Int32) (σ : gSt) : Option (Int32 × gSt) := gl (gup σ (k + 1) 9 (0 : Int32)) fun σ1 => gl (gup σ1 (k + 4) 9 (0 : Int32)) fun σ2 => if l3 = 0 ∨ l3 = 1 then some (l3, σ2) else none

def F_Court_takeService_B23 (k : Nat) (p1 : Int32) (l2 : Nat) (s0 : Int32) (σ : gSt) : Option (Int32 × gSt) := if s0 = (0 : Int32) then (if (σ k 3) = (-1 : Int32) then (gl (gup σ k 3 (σ l2 4)) fun σ3 => F_Court_takeService_B44 k p1 s0 σ3) else (F_Court_takeService_B44 k p1 s0 σ)) else (F_Court_takeService_B44 k p1 s0 σ)

def F_Court_takeService (k : Nat) (p1 : Int32) (σ : gSt) : Option (Int32 × gSt) := gbr (F_Court_sideOf k (σ k 2) σ) fun o2 σ1 => gbi (F_Side_shirtIn o2 (1 : Int32) σ1) fun r5 σ4 => if r5 = p1 then (F_Court_takeService_B23 k p1 o2 (1 : Int32) σ4) else (F_Court_takeService_B23 k p1 o2 (0 : Int32) σ4)

set_option maxHeartbeats 4000000 in
set_option maxRecDepth 100000 in
theorem b_Court_takeService_B44 {p : Program} {l : Launch} {e : Env} {s : State} {m : MethodId} {args : Array Value} {below : List Frame} {meth : Method} {c : Code} {D : va_G} {cI cJ : ClassId} {ad : Nat → Nat} {sz : Nat} {r : Int32} {σ' : gSt} (C : gC p s m args meth c D cI cJ ad (gA ad sz) cX0_takeService 4 RX0) (hr : meth.sig.returnType = (some .boolean)) (hl : l.stackTraces = false) (k : Nat) (p1 : Int32) (hk : gIsCourt k) (l3 : Int32) (σ : gSt) : gX (F_Court_takeService_B44 k p1 l3 σ) (r, σ') (gG p l e { frames := 2, cells := 0, slots := 0, locals := 42 } s m args below meth c D cI cJ ad (gA ad sz) 4 0 0 (MQ below (va_Qi (fun r1 (_ : Unit) => r1 = r) (fun _ t => va_P D vwCl (gw cI cJ ad σ') t.heap) (gA ad sz)) args s 0 0 (gA ad sz)) σ 44 [(0, .ref (ad k)), (3, .int l3)] []) := by
  unfold F_Court_takeService_B44
  refine g_aload_n C 0 dX0_takeService_44 rfl rfl ?_
  refine g_getR (o' := (k + 1)) C k 0 gcl0 (gCt hk).1 (by decide) (gCt hk).2.1 qw2 dX0_takeService_45 ?_
  refine g_iconst (v := (0 : Int32)) C dX0_takeService_48 (by decide) ?_
  refine g_putZN C (k + 1) 9 (by decide) gcl4 gft4 (gSd (gCt hk).2.2.2.2.1).1 (by decide) ((gSd (gCt hk).2.2.2.2.1).2.2.2.1 9 (by decide)) rfl rfl qn36 dX0_takeService_49 (fun σ1 => ?_)
  refine g_aload_n C 0 dX0_takeService_52 rfl rfl ?_
  refine g_getR (o' := (k + 4)) C k 1 gcl0 (gCt hk).1 (by decide) (gCt hk).2.2.1 qw1 dX0_takeService_53 ?_
  refine g_iconst (v := (0 : Int32)) C dX0_takeService_56 (by decide) ?_
  refine g_putZN C (k + 4) 9 (by decide) gcl4 gft4 (gSd (gCt hk).2.2.2.2.2).1 (by decide) ((gSd (gCt hk).2.2.2.2.2).2.2.2.1 9 (by decide)) rfl rfl qn36 dX0_takeService_57 (fun σ2 => ?_)
  refine g_iload_n C 1 dX0_takeService_60 rfl rfl ?_
  refine gX_z (fun z3 => ?_)
  exact g_iretz C z3 hr dX0_takeService_61

set_option maxHeartbeats 4000000 in
set_option maxRecDepth 100000 in
theorem b_Court_takeService_B23 {p : Program} {l : Launch} {e : Env} {s : State} {m : MethodId} {args : Array Value} {below : List Frame} {meth : Method} {c : Code} {D : va_G} {cI cJ : ClassId} {ad : Nat → Nat} {sz : Nat} {r : Int32} {σ' : gSt} (C : gC p s m args meth c D cI cJ ad (gA ad sz) cX0_takeService 4 RX0) (hr : meth.sig.returnType = (some .boolean)) (hl : l.stackTraces = false) (k : Nat) (p1 : Int32) (hk : gIsCourt k) (l2 : Nat) (s0 : Int32) (hl2 : gIsSide l2) (σ : gSt) : gX (F_Court_takeService_B23 k p1 l2 s0 σ) (r, σ') (gG p l e { frames := 2, cells := 0, slots := 0, locals := 42 } s m args below meth c D cI cJ ad (gA ad sz) 4 0 0 (MQ below (va_Qi (fun r1 (_ : Unit) => r1 = r) (fun _ t => va_P D vwCl (gw cI cJ ad σ') t.heap) (gA ad sz)) args s 0 0 (gA ad sz)) σ 23 [(0, .ref (ad k)), (2, .ref (ad l2))] [.int s0]) := by
  unfold F_Court_takeService_B23
  refine g_istore_n (L' := [(3, .int s0), (0, .ref (ad k)), (2, .ref (ad l2))]) C dX0_takeService_23 rfl (by decide) rfl ?_
  refine g_iload_n C 0 dX0_takeService_24 rfl rfl ?_
  refine g_if_ne (tgt := 44) C dX0_takeService_25 (by decide) (fun h1 => ?_) (fun h1 => ?_)
  · refine g_aload_n C 1 dX0_takeService_28 rfl rfl ?_
    refine g_getI C k 3 gcl0 (gCt hk).1 (by decide) ((gCt hk).2.2.2.1 3 (by decide)) qw20 dX0_takeService_29 ?_
    refine g_iconst (v := (-1 : Int32)) C dX0_takeService_32 (by decide) ?_
    refine g_icmp_ne (tgt := 44) C dX0_takeService_33 (by decide) (fun h2 => ?_) (fun h2 => ?_)
    · refine g_aload_n C 1 dX0_takeService_36 rfl rfl ?_
      refine g_aload_n C 2 dX0_takeService_37 rfl rfl ?_
      refine g_getIN C l2 4 gcl4 (gSd hl2).1 (by decide) ((gSd hl2).2.2.2.1 4 (by decide)) qn35 dX0_takeService_38 ?_
      refine g_putI C k 3 gcl0 gft0 (gCt hk).1 (by decide) ((gCt hk).2.2.2.1 3 (by decide)) rfl rfl qw20 dX0_takeService_41 (fun σ3 => ?_)
      refine g_loc [1, 0] rfl ?_
      exact b_Court_takeService_B44 C hr hl k p1 hk s0 σ3
    · refine g_loc [1, 0] rfl ?_
      exact b_Court_takeService_B44 C hr hl k p1 hk s0 σ
  · refine g_loc [1, 0] rfl ?_
    exact b_Court_takeService_B44 C hr hl k p1 hk s0 σ

set_option maxHeartbeats 4000000 in
set_option maxRecDepth 100000 in
theorem c_Court_takeService (l : Launch) (hl : l.stackTraces = false) (D : va_G) (cI cJ : ClassId) (ad : Nat → Nat) (k : Nat) (p1 : Int32) (hk : gIsCourt k) : gMi l D cI cJ ad yX0_takeService cX0_takeService 4 (some .boolean) { frames := 2, cells := 0, slots := 0, locals := 42 } [.ref (ad k), .int p1] (F_Court_takeService k p1) := by
  refine gStartI (L0 := [(0, .ref (ad k)), (1, .int p1)]) RX0 (by decide) rfl rfl (Nat.le_of_ble_eq_true rfl) ?_
  intro p e s m args below meth c sz σ r σ' C hr
  unfold F_Court_takeService
  refine g_aload_n C 0 dX0_takeService_0 rfl rfl ?_
  refine g_aload_n C 0 dX0_takeService_1 rfl rfl ?_
  refine g_getI C k 2 gcl0 (gCt hk).1 (by decide) ((gCt hk).2.2.2.1 2 (by decide)) qw3 dX0_takeService_2 ?_
  refine g_callvr (As := [.int (σ k 2)]) (n := 1) C (c_Court_sideOf l hl D cI cJ ad k (σ k 2) hk) ⟨rfl, rfl⟩ gcl0 (gCt hk).1 qc4 (hR := ⟨Nat.le_of_ble_eq_true rfl, Nat.le_of_ble_eq_true rfl⟩) rfl rfl (Nat.le_of_ble_eq_true rfl) dX0_takeService_5 ⟨Nat.zero_le _, Nat.zero_le _⟩ (fun o2 σ1 h3 => ?_)
  refine g_astore_n (L' := [(2, .ref (ad o2)), (0, .ref (ad k)), (1, .int p1)]) C dX0_takeService_8 rfl (by decide) rfl ?_
  refine g_aload_n C 0 dX0_takeService_9 rfl rfl ?_
  refine g_iconst (v := (1 : Int32)) C dX0_takeService_10 (by decide) ?_
  refine g_callvi (As := [.int (1 : Int32)]) (n := 1) C (c_Side_shirtIn l hl D cI cJ ad o2 (1 : Int32) (gOf_side hk h3)) ⟨rfl, rfl⟩ gcl4 (gSd (gOf_side hk h3)).1 qc5 (hR := ⟨Nat.le_of_ble_eq_true rfl, Nat.le_of_ble_eq_true rfl⟩) rfl rfl (Nat.le_of_ble_eq_true rfl) dX0_takeService_11 ⟨Nat.zero_le _, Nat.zero_le _⟩ (fun r5 σ4 => ?_)
  refine g_iload_n C 2 dX0_takeService_14 rfl rfl ?_
  refine g_icmp_ne (tgt := 22) C dX0_takeService_15 (by decide) (fun h6 => ?_) (fun h6 => ?_)
  · refine g_iconst (v := (1 : Int32)) C dX0_takeService_18 (by decide) ?_
    refine g_goto (tgt := 23) C dX0_takeService_19 (by decide) ?_
    refine g_loc [1, 0] rfl ?_
    exact b_Court_takeService_B23 C hr hl k p1 hk o2 (1 : Int32) (gOf_side hk h3) σ4
  · refine g_iconst (v := (0 : Int32)) C dX0_takeService_22 (by decide) ?_
    refine g_loc [1, 0] rfl ?_
    exact b_Court_takeService_B23 C hr hl k p1 hk o2 (0 : Int32) (gOf_side hk h3) σ4

def F_Court_givePoint (k : Nat) (p1 : Int32) (σ : gSt) : Option gSt := gbr (F_Court_sideOf k p1 σ) fun o2 σ1 => gl (gup σ1 o2 4 ((σ1 o2 4) + (1 : Int32))) fun σ4 => if (σ4 k 2) = p1 then (some σ4) else (gl (gup σ4 k 2 p1) fun σ6 => gl (gup σ6 k 3 (-1 : Int32)) fun σ7 => gbv (F_Side_rotate o2 σ7) fun σ8 => some σ8)

set_option maxHeartbeats 4000000 in
set_option maxRecDepth 100000 in
theorem c_Court_givePoint (l : Launch) (hl : l.stackTraces = false) (D : va_G) (cI cJ : ClassId) (ad : Nat → Nat) (k : Nat) (p1 : Int32) (hk : gIsCourt k) : gMv l D cI cJ ad yX0_givePoint cX0_givePoint 3 none { frames := 3, cells := 0, slots := 0, locals := 66 } [.ref (ad k), .int p1] (F_Court_givePoint k p1) := by
  refine gStartV (L0 := [(0, .ref (ad k)), (1, .int p1)]) RX0 (by decide) rfl rfl (Nat.le_of_ble_eq_true rfl) ?_
  intro p e s m args below meth c sz σ σ' C hr
  unfold F_Court_givePoint
  refine g_aload_n C 0 dX0_givePoint_0 rfl rfl ?_
  refine g_iload_n C 1 dX0_givePoint_1 rfl rfl ?_
  refine g_callvr (As := [.int p1]) (n := 1) C (c_Court_sideOf l hl D cI cJ ad k p1 hk) ⟨rfl, rfl⟩ gcl0 (gCt hk).1 qc4 (hR := ⟨Nat.le_of_ble_eq_true rfl, Nat.le_of_ble_eq_true rfl⟩) rfl rfl (Nat.le_of_ble_eq_true rfl) dX0_givePoint_2 ⟨Nat.zero_le _, Nat.zero_le _⟩ (fun o2 σ1 h3 => ?_)
  refine g_astore_n (L' := [(2, .ref (ad o2)), (0, .ref (ad k)), (1, .int p1)]) C dX0_givePoint_5 rfl (by decide) rfl ?_
  refine g_aload_n C 0 dX0_givePoint_6 rfl rfl ?_
  refine g_dup C dX0_givePoint_7 rfl ?_
  refine g_getIN C o2 4 gcl4 (gSd (gOf_side hk h3)).1 (by decide) ((gSd (gOf_side hk h3)).2.2.2.1 4 (by decide)) qn35 dX0_givePoint_8 ?_
  refine g_iconst (v := (1 : Int32)) C dX0_givePoint_11 (by decide) ?_
  refine g_iadd C dX0_givePoint_12 ?_
  refine g_putIN C o2 4 gcl4 gft4 (gSd (gOf_side hk h3)).1 (by decide) ((gSd (gOf_side hk h3)).2.2.2.1 4 (by decide)) rfl rfl qn35 dX0_givePoint_13 (fun σ4 => ?_)
  refine g_aload_n C 1 dX0_givePoint_16 rfl rfl ?_
  refine g_getI C k 2 gcl0 (gCt hk).1 (by decide) ((gCt hk).2.2.2.1 2 (by decide)) qw3 dX0_givePoint_17 ?_
  refine g_iload_n C 2 dX0_givePoint_20 rfl rfl ?_
  refine g_icmp_eq (tgt := 38) C dX0_givePoint_21 (by decide) (fun h5 => ?_) (fun h5 => ?_)
  · exact g_retv C hr dX0_givePoint_38
  · refine g_aload_n C 1 dX0_givePoint_24 rfl rfl ?_
    refine g_iload_n C 2 dX0_givePoint_25 rfl rfl ?_
    refine g_putI C k 2 gcl0 gft0 (gCt hk).1 (by decide) ((gCt hk).2.2.2.1 2 (by decide)) rfl rfl qw3 dX0_givePoint_26 (fun σ6 => ?_)
    refine g_aload_n C 1 dX0_givePoint_29 rfl rfl ?_
    refine g_iconst (v := (-1 : Int32)) C dX0_givePoint_30 (by decide) ?_
    refine g_putI C k 3 gcl0 gft0 (gCt hk).1 (by decide) ((gCt hk).2.2.2.1 3 (by decide)) rfl rfl qw20 dX0_givePoint_31 (fun σ7 => ?_)
    refine g_aload_n C 0 dX0_givePoint_34 rfl rfl ?_
    refine g_callvv (As := []) (n := 0) C (c_Side_rotate l hl D cI cJ ad o2 (gOf_side hk h3)) ⟨rfl, rfl⟩ gcl4 (gSd (gOf_side hk h3)).1 qc9 (hR := ⟨Nat.le_of_ble_eq_true rfl, Nat.le_of_ble_eq_true rfl⟩) rfl rfl (Nat.le_of_ble_eq_true rfl) dX0_givePoint_35 ⟨Nat.zero_le _, Nat.zero_le _⟩ (fun σ8 => ?_)
    exact g_retv C hr dX0_givePoint_38

def F_Court_takeBack (k : Nat) (σ : gSt) : Option (Int32 × gSt) := gbr (F_Court_sideOf k (σ k 2) σ) fun o2 σ1 => gl ((σ1 o2 4) - (σ1 k 3)) fun x4 => gl (gup σ1 o2 4 (σ1 k 3)) fun σ5 => gbv (F_Court_givePoint k ((1 : Int32) - (σ5 k 2)) σ5) fun σ6 => some (x4, σ6)

set_option maxHeartbeats 4000000 in
set_option maxRecDepth 100000 in
theorem c_Court_takeBack (l : Launch) (hl : l.stackTraces = false) (D : va_G) (cI cJ : ClassId) (ad : Nat → Nat) (k : Nat) (hk : gIsCourt k) : gMi l D cI cJ ad yX0_takeBack cX0_takeBack 3 (some .int) { frames := 4, cells := 0, slots := 0, locals := 88 } [.ref (ad k)] (F_Court_takeBack k) := by
  refine gStartI (L0 := [(0, .ref (ad k))]) RX0 (by decide) rfl rfl (Nat.le_of_ble_eq_true rfl) ?_
  intro p e s m args below meth c sz σ r σ' C hr
  unfold F_Court_takeBack
  refine g_aload_n C 0 dX0_takeBack_0 rfl rfl ?_
  refine g_aload_n C 0 dX0_takeBack_1 rfl rfl ?_
  refine g_getI C k 2 gcl0 (gCt hk).1 (by decide) ((gCt hk).2.2.2.1 2 (by decide)) qw3 dX0_takeBack_2 ?_
  refine g_callvr (As := [.int (σ k 2)]) (n := 1) C (c_Court_sideOf l hl D cI cJ ad k (σ k 2) hk) ⟨rfl, rfl⟩ gcl0 (gCt hk).1 qc4 (hR := ⟨Nat.le_of_ble_eq_true rfl, Nat.le_of_ble_eq_true rfl⟩) rfl rfl (Nat.le_of_ble_eq_true rfl) dX0_takeBack_5 ⟨Nat.zero_le _, Nat.zero_le _⟩ (fun o2 σ1 h3 => ?_)
  refine g_astore_n (L' := [(1, .ref (ad o2)), (0, .ref (ad k))]) C dX0_takeBack_8 rfl (by decide) rfl ?_
  refine g_aload_n C 0 dX0_takeBack_9 rfl rfl ?_
  refine g_getIN C o2 4 gcl4 (gSd (gOf_side hk h3)).1 (by decide) ((gSd (gOf_side hk h3)).2.2.2.1 4 (by decide)) qn35 dX0_takeBack_10 ?_
  refine g_aload_n C 1 dX0_takeBack_13 rfl rfl ?_
  refine g_getI C k 3 gcl0 (gCt hk).1 (by decide) ((gCt hk).2.2.2.1 3 (by decide)) qw20 dX0_takeBack_14 ?_
  refine g_isub C dX0_takeBack_17 ?_
  refine g_name ?_; intro x4
  refine g_istore_n (L' := [(2, .int x4), (1, .ref (ad o2)), (0, .ref (ad k))]) C dX0_takeBack_18 rfl (by decide) rfl ?_
  refine g_aload_n C 1 dX0_takeBack_19 rfl rfl ?_
  refine g_aload_n C 2 dX0_takeBack_20 rfl rfl ?_
  refine g_getI C k 3 gcl0 (gCt hk).1 (by decide) ((gCt hk).2.2.2.1 3 (by decide)) qw20 dX0_takeBack_21 ?_
  refine g_putIN C o2 4 gcl4 gft4 (gSd (gOf_side hk h3)).1 (by decide) ((gSd (gOf_side hk h3)).2.2.2.1 4 (by decide)) rfl rfl qn35 dX0_takeBack_24 (fun σ5 => ?_)
  refine g_aload_n C 2 dX0_takeBack_27 rfl rfl ?_
  refine g_iconst (v := (1 : Int32)) C dX0_takeBack_28 (by decide) ?_
  refine g_aload_n C 2 dX0_takeBack_29 rfl rfl ?_
  refine g_getI C k 2 gcl0 (gCt hk).1 (by decide) ((gCt hk).2.2.2.1 2 (by decide)) qw3 dX0_takeBack_30 ?_
  refine g_isub C dX0_takeBack_33 ?_
  refine g_callvv (As := [.int ((1 : Int32) - (σ5 k 2))]) (n := 1) C (c_Court_givePoint l hl D cI cJ ad k ((1 : Int32) - (σ5 k 2)) hk) ⟨rfl, rfl⟩ gcl0 (gCt hk).1 qc10 (hR := ⟨Nat.le_of_ble_eq_true rfl, Nat.le_of_ble_eq_true rfl⟩) rfl rfl (Nat.le_of_ble_eq_true rfl) dX0_takeBack_34 ⟨Nat.zero_le _, Nat.zero_le _⟩ (fun σ6 => ?_)
  refine g_iload_n C 0 dX0_takeBack_37 rfl rfl ?_
  exact g_ireti C hr dX0_takeBack_38

def F_Court_hasWonSet_B15 (k : Nat) (p1 : Int32) (l1 : Int32) (s0 : Int32) (σ : gSt) : Option (Int32 × gSt) := gbr (F_Court_sideOf k l1 σ) fun o2 σ1 => gl (σ1 o2 4) fun x4 => if x4 < s0 then (some ((0 : Int32), σ1)) else (gbr (F_Court_sideOf k ((1 : Int32) - l1) σ1) fun o7 σ6 => if x4 < ((σ6 o7 4) + (2 : Int32)) then (some ((0 : Int32), σ6)) else (some ((1 : Int32), σ6)))

def F_Court_hasWonSet (k : Nat) (p1 : Int32) (σ : gSt) : Option (Int32 × gSt) := gbi (F_Court_setsPlayed k σ) fun r2 σ1 => if r2 = (4 : Int32) then (F_Court_hasWonSet_B15 k p1 p1 (15 : Int32) σ1) else (F_Court_hasWonSet_B15 k p1 p1 (25 : Int32) σ1)

set_option maxHeartbeats 4000000 in
set_option maxRecDepth 100000 in
theorem b_Court_hasWonSet_B15 {p : Program} {l : Launch} {e : Env} {s : State} {m : MethodId} {args : Array Value} {below : List Frame} {meth : Method} {c : Code} {D : va_G} {cI cJ : ClassId} {ad : Nat → Nat} {sz : Nat} {r : Int32} {σ' : gSt} (C : gC p s m args meth c D cI cJ ad (gA ad sz) cX0_hasWonSet 4 RX0) (hr : meth.sig.returnType = (some .boolean)) (hl : l.stackTraces = false) (k : Nat) (p1 : Int32) (hk : gIsCourt k) (l1 : Int32) (s0 : Int32) (σ : gSt) : gX (F_Court_hasWonSet_B15 k p1 l1 s0 σ) (r, σ') (gG p l e { frames := 1, cells := 0, slots := 0, locals := 21 } s m args below meth c D cI cJ ad (gA ad sz) 4 0 0 (MQ below (va_Qi (fun r1 (_ : Unit) => r1 = r) (fun _ t => va_P D vwCl (gw cI cJ ad σ') t.heap) (gA ad sz)) args s 0 0 (gA ad sz)) σ 15 [(0, .ref (ad k)), (1, .int l1)] [.int s0]) := by
  unfold F_Court_hasWonSet_B15
  refine g_istore_n (L' := [(2, .int s0), (0, .ref (ad k)), (1, .int l1)]) C dX0_hasWonSet_15 rfl (by decide) rfl ?_
  refine g_aload_n C 1 dX0_hasWonSet_16 rfl rfl ?_
  refine g_iload_n C 2 dX0_hasWonSet_17 rfl rfl ?_
  refine g_callvr (As := [.int l1]) (n := 1) C (c_Court_sideOf l hl D cI cJ ad k l1 hk) ⟨rfl, rfl⟩ gcl0 (gCt hk).1 qc4 (hR := ⟨Nat.le_of_ble_eq_true rfl, Nat.le_of_ble_eq_true rfl⟩) rfl rfl (Nat.le_of_ble_eq_true rfl) dX0_hasWonSet_18 ⟨Nat.zero_le _, Nat.zero_le _⟩ (fun o2 σ1 h3 => ?_)
  refine g_getIN C o2 4 gcl4 (gSd (gOf_side hk h3)).1 (by decide) ((gSd (gOf_side hk h3)).2.2.2.1 4 (by decide)) qn35 dX0_hasWonSet_21 ?_
  refine g_name ?_; intro x4
  refine g_istore_n (L' := [(3, .int x4), (2, .int s0), (0, .ref (ad k)), (1, .int l1)]) C dX0_hasWonSet_24 rfl (by decide) rfl ?_
  refine g_iload_n C 0 dX0_hasWonSet_25 rfl rfl ?_
  refine g_iload_n C 1 dX0_hasWonSet_26 rfl rfl ?_
  refine g_icmp_lt (tgt := 50) C dX0_hasWonSet_27 (by decide) (fun h5 => ?_) (fun h5 => ?_)
  · refine g_iconst (v := (0 : Int32)) C dX0_hasWonSet_50 (by decide) ?_
    exact g_iretz C (by decide) hr dX0_hasWonSet_51
  · refine g_iload_n C 0 dX0_hasWonSet_30 rfl rfl ?_
    refine g_aload_n C 2 dX0_hasWonSet_31 rfl rfl ?_
    refine g_iconst (v := (1 : Int32)) C dX0_hasWonSet_32 (by decide) ?_
    refine g_iload_n C 3 dX0_hasWonSet_33 rfl rfl ?_
    refine g_isub C dX0_hasWonSet_34 ?_
    refine g_callvr (As := [.int ((1 : Int32) - l1)]) (n := 1) C (c_Court_sideOf l hl D cI cJ ad k ((1 : Int32) - l1) hk) ⟨rfl, rfl⟩ gcl0 (gCt hk).1 qc4 (hR := ⟨Nat.le_of_ble_eq_true rfl, Nat.le_of_ble_eq_true rfl⟩) rfl rfl (Nat.le_of_ble_eq_true rfl) dX0_hasWonSet_35 ⟨Nat.zero_le _, Nat.zero_le _⟩ (fun o7 σ6 h8 => ?_)
    refine g_getIN C o7 4 gcl4 (gSd (gOf_side hk h8)).1 (by decide) ((gSd (gOf_side hk h8)).2.2.2.1 4 (by decide)) qn35 dX0_hasWonSet_38 ?_
    refine g_iconst (v := (2 : Int32)) C dX0_hasWonSet_41 (by decide) ?_
    refine g_iadd C dX0_hasWonSet_42 ?_
    refine g_icmp_lt (tgt := 50) C dX0_hasWonSet_43 (by decide) (fun h9 => ?_) (fun h9 => ?_)
    · refine g_iconst (v := (0 : Int32)) C dX0_hasWonSet_50 (by decide) ?_
      exact g_iretz C (by decide) hr dX0_hasWonSet_51
    · refine g_iconst (v := (1 : Int32)) C dX0_hasWonSet_46 (by decide) ?_
      refine g_goto (tgt := 51) C dX0_hasWonSet_47 (by decide) ?_
      exact g_iretz C (by decide) hr dX0_hasWonSet_51

set_option maxHeartbeats 4000000 in
set_option maxRecDepth 100000 in
theorem c_Court_hasWonSet (l : Launch) (hl : l.stackTraces = false) (D : va_G) (cI cJ : ClassId) (ad : Nat → Nat) (k : Nat) (p1 : Int32) (hk : gIsCourt k) : gMi l D cI cJ ad yX0_hasWonSet cX0_hasWonSet 4 (some .boolean) { frames := 1, cells := 0, slots := 0, locals := 21 } [.ref (ad k), .int p1] (F_Court_hasWonSet k p1) := by
  refine gStartI (L0 := [(0, .ref (ad k)), (1, .int p1)]) RX0 (by decide) rfl rfl (Nat.le_of_ble_eq_true rfl) ?_
  intro p e s m args below meth c sz σ r σ' C hr
  unfold F_Court_hasWonSet
  refine g_aload_n C 0 dX0_hasWonSet_0 rfl rfl ?_
  refine g_callvi (As := []) (n := 0) C (c_Court_setsPlayed l hl D cI cJ ad k hk) ⟨rfl, rfl⟩ gcl0 (gCt hk).1 qc11 (hR := ⟨Nat.le_of_ble_eq_true rfl, Nat.le_of_ble_eq_true rfl⟩) rfl rfl (Nat.le_of_ble_eq_true rfl) dX0_hasWonSet_1 ⟨Nat.zero_le _, Nat.zero_le _⟩ (fun r2 σ1 => ?_)
  refine g_iconst (v := (4 : Int32)) C dX0_hasWonSet_4 (by decide) ?_
  refine g_icmp_ne (tgt := 13) C dX0_hasWonSet_5 (by decide) (fun h3 => ?_) (fun h3 => ?_)
  · refine g_bipush (v := (15 : Int32)) C dX0_hasWonSet_8 (by decide) ?_
    refine g_goto (tgt := 15) C dX0_hasWonSet_10 (by decide) ?_
    refine g_loc [0, 1] rfl ?_
    exact b_Court_hasWonSet_B15 C hr hl k p1 hk p1 (15 : Int32) σ1
  · refine g_bipush (v := (25 : Int32)) C dX0_hasWonSet_13 (by decide) ?_
    refine g_loc [0, 1] rfl ?_
    exact b_Court_hasWonSet_B15 C hr hl k p1 hk p1 (25 : Int32) σ1

def F_Court_endSet (k : Nat) (p1 : Int32) (σ : gSt) : Option gSt := gbr (F_Court_sideOf k p1 σ) fun o2 σ1 => gl (gup σ1 o2 5 ((σ1 o2 5) + (1 : Int32))) fun σ4 => gbv (F_Side_clearOrder (k + 1) σ4) fun σ5 => gbv (F_Side_clearOrder (k + 4) σ5) fun σ6 => gl (gup σ6 k 2 (-1 : Int32)) fun σ7 => gl (gup σ7 k 3 (-1 : Int32)) fun σ8 => some σ8

set_option maxHeartbeats 4000000 in
set_option maxRecDepth 100000 in
theorem c_Court_endSet (l : Launch) (hl : l.stackTraces = false) (D : va_G) (cI cJ : ClassId) (ad : Nat → Nat) (k : Nat) (p1 : Int32) (hk : gIsCourt k) : gMv l D cI cJ ad yX0_endSet cX0_endSet 2 none { frames := 3, cells := 0, slots := 0, locals := 65 } [.ref (ad k), .int p1] (F_Court_endSet k p1) := by
  refine gStartV (L0 := [(0, .ref (ad k)), (1, .int p1)]) RX0 (by decide) rfl rfl (Nat.le_of_ble_eq_true rfl) ?_
  intro p e s m args below meth c sz σ σ' C hr
  unfold F_Court_endSet
  refine g_aload_n C 0 dX0_endSet_0 rfl rfl ?_
  refine g_iload_n C 1 dX0_endSet_1 rfl rfl ?_
  refine g_callvr (As := [.int p1]) (n := 1) C (c_Court_sideOf l hl D cI cJ ad k p1 hk) ⟨rfl, rfl⟩ gcl0 (gCt hk).1 qc4 (hR := ⟨Nat.le_of_ble_eq_true rfl, Nat.le_of_ble_eq_true rfl⟩) rfl rfl (Nat.le_of_ble_eq_true rfl) dX0_endSet_2 ⟨Nat.zero_le _, Nat.zero_le _⟩ (fun o2 σ1 h3 => ?_)
  refine g_dup C dX0_endSet_5 rfl ?_
  refine g_getIN C o2 5 gcl4 (gSd (gOf_side hk h3)).1 (by decide) ((gSd (gOf_side hk h3)).2.2.2.1 5 (by decide)) qn4 dX0_endSet_6 ?_
  refine g_iconst (v := (1 : Int32)) C dX0_endSet_9 (by decide) ?_
  refine g_iadd C dX0_endSet_10 ?_
  refine g_putIN C o2 5 gcl4 gft4 (gSd (gOf_side hk h3)).1 (by decide) ((gSd (gOf_side hk h3)).2.2.2.1 5 (by decide)) rfl rfl qn4 dX0_endSet_11 (fun σ4 => ?_)
  refine g_aload_n C 0 dX0_endSet_14 rfl rfl ?_
  refine g_getR (o' := (k + 1)) C k 0 gcl0 (gCt hk).1 (by decide) (gCt hk).2.1 qw2 dX0_endSet_15 ?_
  refine g_callvv (As := []) (n := 0) C (c_Side_clearOrder l hl D cI cJ ad (k + 1) (gCt hk).2.2.2.2.1) ⟨rfl, rfl⟩ gcl4 (gSd (gCt hk).2.2.2.2.1).1 qc12 (hR := ⟨Nat.le_of_ble_eq_true rfl, Nat.le_of_ble_eq_true rfl⟩) rfl rfl (Nat.le_of_ble_eq_true rfl) dX0_endSet_18 ⟨Nat.zero_le _, Nat.zero_le _⟩ (fun σ5 => ?_)
  refine g_aload_n C 0 dX0_endSet_21 rfl rfl ?_
  refine g_getR (o' := (k + 4)) C k 1 gcl0 (gCt hk).1 (by decide) (gCt hk).2.2.1 qw1 dX0_endSet_22 ?_
  refine g_callvv (As := []) (n := 0) C (c_Side_clearOrder l hl D cI cJ ad (k + 4) (gCt hk).2.2.2.2.2) ⟨rfl, rfl⟩ gcl4 (gSd (gCt hk).2.2.2.2.2).1 qc12 (hR := ⟨Nat.le_of_ble_eq_true rfl, Nat.le_of_ble_eq_true rfl⟩) rfl rfl (Nat.le_of_ble_eq_true rfl) dX0_endSet_25 ⟨Nat.zero_le _, Nat.zero_le _⟩ (fun σ6 => ?_)
  refine g_aload_n C 0 dX0_endSet_28 rfl rfl ?_
  refine g_iconst (v := (-1 : Int32)) C dX0_endSet_29 (by decide) ?_
  refine g_putI C k 2 gcl0 gft0 (gCt hk).1 (by decide) ((gCt hk).2.2.2.1 2 (by decide)) rfl rfl qw3 dX0_endSet_30 (fun σ7 => ?_)
  refine g_aload_n C 0 dX0_endSet_33 rfl rfl ?_
  refine g_iconst (v := (-1 : Int32)) C dX0_endSet_34 (by decide) ?_
  refine g_putI C k 3 gcl0 gft0 (gCt hk).1 (by decide) ((gCt hk).2.2.2.1 3 (by decide)) rfl rfl qw20 dX0_endSet_35 (fun σ8 => ?_)
  exact g_retv C hr dX0_endSet_38

def F_Court_copyFrom (k : Nat) (a1 : Nat) (σ : gSt) : Option gSt := gbv (F_Side_copyFrom (k + 1) (a1 + 1) σ) fun σ1 => gbv (F_Side_copyFrom (k + 4) (a1 + 4) σ1) fun σ2 => gl (gup σ2 k 2 (σ2 a1 2)) fun σ3 => gl (gup σ3 k 3 (σ3 a1 3)) fun σ4 => some σ4

set_option maxHeartbeats 4000000 in
set_option maxRecDepth 100000 in
theorem c_Court_copyFrom (l : Launch) (hl : l.stackTraces = false) (D : va_G) (cI cJ : ClassId) (ad : Nat → Nat) (k : Nat) (a1 : Nat) (hk : gIsCourt k) (ha1 : gIsCourt a1) : gMv l D cI cJ ad yX0_copyFrom cX0_copyFrom 2 none { frames := 3, cells := 0, slots := 0, locals := 66 } [.ref (ad k), .ref (ad a1)] (F_Court_copyFrom k a1) := by
  refine gStartV (L0 := [(0, .ref (ad k)), (1, .ref (ad a1))]) RX0 (by decide) rfl rfl (Nat.le_of_ble_eq_true rfl) ?_
  intro p e s m args below meth c sz σ σ' C hr
  unfold F_Court_copyFrom
  refine g_aload_n C 0 dX0_copyFrom_0 rfl rfl ?_
  refine g_getR (o' := (k + 1)) C k 0 gcl0 (gCt hk).1 (by decide) (gCt hk).2.1 qw2 dX0_copyFrom_1 ?_
  refine g_aload_n C 1 dX0_copyFrom_4 rfl rfl ?_
  refine g_getR (o' := (a1 + 1)) C a1 0 gcl0 (gCt ha1).1 (by decide) (gCt ha1).2.1 qw2 dX0_copyFrom_5 ?_
  refine g_callvv (As := [.ref (ad (a1 + 1))]) (n := 1) C (c_Side_copyFrom l hl D cI cJ ad (k + 1) (a1 + 1) (gCt hk).2.2.2.2.1 (gCt ha1).2.2.2.2.1) ⟨rfl, rfl⟩ gcl4 (gSd (gCt hk).2.2.2.2.1).1 qc13 (hR := ⟨Nat.le_of_ble_eq_true rfl, Nat.le_of_ble_eq_true rfl⟩) rfl rfl (Nat.le_of_ble_eq_true rfl) dX0_copyFrom_8 ⟨Nat.zero_le _, Nat.zero_le _⟩ (fun σ1 => ?_)
  refine g_aload_n C 0 dX0_copyFrom_11 rfl rfl ?_
  refine g_getR (o' := (k + 4)) C k 1 gcl0 (gCt hk).1 (by decide) (gCt hk).2.2.1 qw1 dX0_copyFrom_12 ?_
  refine g_aload_n C 1 dX0_copyFrom_15 rfl rfl ?_
  refine g_getR (o' := (a1 + 4)) C a1 1 gcl0 (gCt ha1).1 (by decide) (gCt ha1).2.2.1 qw1 dX0_copyFrom_16 ?_
  refine g_callvv (As := [.ref (ad (a1 + 4))]) (n := 1) C (c_Side_copyFrom l hl D cI cJ ad (k + 4) (a1 + 4) (gCt hk).2.2.2.2.2 (gCt ha1).2.2.2.2.2) ⟨rfl, rfl⟩ gcl4 (gSd (gCt hk).2.2.2.2.2).1 qc13 (hR := ⟨Nat.le_of_ble_eq_true rfl, Nat.le_of_ble_eq_true rfl⟩) rfl rfl (Nat.le_of_ble_eq_true rfl) dX0_copyFrom_19 ⟨Nat.zero_le _, Nat.zero_le _⟩ (fun σ2 => ?_)
  refine g_aload_n C 0 dX0_copyFrom_22 rfl rfl ?_
  refine g_aload_n C 1 dX0_copyFrom_23 rfl rfl ?_
  refine g_getI C a1 2 gcl0 (gCt ha1).1 (by decide) ((gCt ha1).2.2.2.1 2 (by decide)) qw3 dX0_copyFrom_24 ?_
  refine g_putI C k 2 gcl0 gft0 (gCt hk).1 (by decide) ((gCt hk).2.2.2.1 2 (by decide)) rfl rfl qw3 dX0_copyFrom_27 (fun σ3 => ?_)
  refine g_aload_n C 0 dX0_copyFrom_30 rfl rfl ?_
  refine g_aload_n C 1 dX0_copyFrom_31 rfl rfl ?_
  refine g_getI C a1 3 gcl0 (gCt ha1).1 (by decide) ((gCt ha1).2.2.2.1 3 (by decide)) qw20 dX0_copyFrom_32 ?_
  refine g_putI C k 3 gcl0 gft0 (gCt hk).1 (by decide) ((gCt hk).2.2.2.1 3 (by decide)) rfl rfl qw20 dX0_copyFrom_35 (fun σ4 => ?_)
  exact g_retv C hr dX0_copyFrom_38
end
section
def F_Rally_start (p1 : Int32) (p2 : Int32) (σ : gSt) : Option gSt := gl (gup σ 15 0 (1 : Int32)) fun σ1 => gl (gup σ1 15 1 p1) fun σ2 => gl (gup σ2 15 2 p2) fun σ3 => gl (gup σ3 15 3 (-1 : Int32)) fun σ4 => gl (gup σ4 15 4 (0 : Int32)) fun σ5 => gl (gup σ5 15 5 (0 : Int32)) fun σ6 => gl (gup σ6 15 6 (0 : Int32)) fun σ7 => some σ7

set_option maxHeartbeats 4000000 in
set_option maxRecDepth 100000 in
theorem c_Rally_start (l : Launch) (hl : l.stackTraces = false) (D : va_G) (cI cJ : ClassId) (ad : Nat → Nat) (p1 : Int32) (p2 : Int32) : gMv l D cI cJ ad yX1_start cX1_start 3 none { frames := 0, cells := 0, slots := 0, locals := 0 } [.ref (ad 15), .int p1, .int p2] (F_Rally_start p1 p2) := by
  refine gStartV (L0 := [(0, .ref (ad 15)), (1, .int p1), (2, .int p2)]) RX1 (by decide) rfl rfl (Nat.le_of_ble_eq_true rfl) ?_
  intro p e s m args below meth c sz σ σ' C hr
  unfold F_Rally_start
  refine g_aload_n C 0 dX1_start_0 rfl rfl ?_
  refine g_iconst (v := (1 : Int32)) C dX1_start_1 (by decide) ?_
  refine g_putZ C 15 0 (by decide) gcl1 gft1 rfl (by decide) rfl rfl rfl qw69 dX1_start_2 (fun σ1 => ?_)
  refine g_aload_n C 0 dX1_start_5 rfl rfl ?_
  refine g_iload_n C 1 dX1_start_6 rfl rfl ?_
  refine g_putI C 15 1 gcl1 gft1 rfl (by decide) rfl rfl rfl qw70 dX1_start_7 (fun σ2 => ?_)
  refine g_aload_n C 0 dX1_start_10 rfl rfl ?_
  refine g_iload_n C 2 dX1_start_11 rfl rfl ?_
  refine g_putI C 15 2 gcl1 gft1 rfl (by decide) rfl rfl rfl qw71 dX1_start_12 (fun σ3 => ?_)
  refine g_aload_n C 0 dX1_start_15 rfl rfl ?_
  refine g_iconst (v := (-1 : Int32)) C dX1_start_16 (by decide) ?_
  refine g_putI C 15 3 gcl1 gft1 rfl (by decide) rfl rfl rfl qw72 dX1_start_17 (fun σ4 => ?_)
  refine g_aload_n C 0 dX1_start_20 rfl rfl ?_
  refine g_iconst (v := (0 : Int32)) C dX1_start_21 (by decide) ?_
  refine g_putI C 15 4 gcl1 gft1 rfl (by decide) rfl rfl rfl qw73 dX1_start_22 (fun σ5 => ?_)
  refine g_aload_n C 0 dX1_start_25 rfl rfl ?_
  refine g_iconst (v := (0 : Int32)) C dX1_start_26 (by decide) ?_
  refine g_putZ C 15 5 (by decide) gcl1 gft1 rfl (by decide) rfl rfl rfl qw74 dX1_start_27 (fun σ6 => ?_)
  refine g_aload_n C 0 dX1_start_30 rfl rfl ?_
  refine g_iconst (v := (0 : Int32)) C dX1_start_31 (by decide) ?_
  refine g_putZ C 15 6 (by decide) gcl1 gft1 rfl (by decide) rfl rfl rfl qw75 dX1_start_32 (fun σ7 => ?_)
  exact g_retv C hr dX1_start_35

def F_Rally_faultOf_B38 (p1 : Int32) (p2 : Int32) (p3 : Int32) (l3 : Int32) (σ : gSt) : Option (Int32 × gSt) := if (σ 15 4) = (3 : Int32) then (if l3 = (2 : Int32) then (some ((0 : Int32), σ)) else (some ((3 : Int32), σ))) else (some ((0 : Int32), σ))

def F_Rally_faultOf (p1 : Int32) (p2 : Int32) (p3 : Int32) (σ : gSt) : Option (Int32 × gSt) := if (σ 15 1) = p1 then (if (σ 15 3) = (-1 : Int32) then (some ((1 : Int32), σ)) else (if (σ 15 2) = p2 then (if (σ 15 3) = (2 : Int32) then (F_Rally_faultOf_B38 p1 p2 p3 p3 σ) else (some ((2 : Int32), σ))) else (F_Rally_faultOf_B38 p1 p2 p3 p3 σ))) else (some ((0 : Int32), σ))

set_option maxHeartbeats 4000000 in
set_option maxRecDepth 100000 in
theorem b_Rally_faultOf_B38 {p : Program} {l : Launch} {e : Env} {s : State} {m : MethodId} {args : Array Value} {below : List Frame} {meth : Method} {c : Code} {D : va_G} {cI cJ : ClassId} {ad : Nat → Nat} {sz : Nat} {r : Int32} {σ' : gSt} (C : gC p s m args meth c D cI cJ ad (gA ad sz) cX1_faultOf 4 RX1) (hr : meth.sig.returnType = (some .int)) (hl : l.stackTraces = false) (p1 : Int32) (p2 : Int32) (p3 : Int32) (l3 : Int32) (σ : gSt) : gX (F_Rally_faultOf_B38 p1 p2 p3 l3 σ) (r, σ') (gG p l e { frames := 0, cells := 0, slots := 0, locals := 0 } s m args below meth c D cI cJ ad (gA ad sz) 4 0 0 (MQ below (va_Qi (fun r1 (_ : Unit) => r1 = r) (fun _ t => va_P D vwCl (gw cI cJ ad σ') t.heap) (gA ad sz)) args s 0 0 (gA ad sz)) σ 38 [(0, .ref (ad 15)), (3, .int l3)] []) := by
  unfold F_Rally_faultOf_B38
  refine g_aload_n C 0 dX1_faultOf_38 rfl rfl ?_
  refine g_getI C 15 4 gcl1 rfl (by decide) rfl qw73 dX1_faultOf_39 ?_
  refine g_iconst (v := (3 : Int32)) C dX1_faultOf_42 (by decide) ?_
  refine g_icmp_ne (tgt := 55) C dX1_faultOf_43 (by decide) (fun h1 => ?_) (fun h1 => ?_)
  · refine g_iload_n C 1 dX1_faultOf_46 rfl rfl ?_
    refine g_iconst (v := (2 : Int32)) C dX1_faultOf_47 (by decide) ?_
    refine g_icmp_eq (tgt := 55) C dX1_faultOf_48 (by decide) (fun h2 => ?_) (fun h2 => ?_)
    · refine g_iconst (v := (0 : Int32)) C dX1_faultOf_55 (by decide) ?_
      exact g_ireti C hr dX1_faultOf_56
    · refine g_iconst (v := (3 : Int32)) C dX1_faultOf_51 (by decide) ?_
      refine g_goto (tgt := 56) C dX1_faultOf_52 (by decide) ?_
      exact g_ireti C hr dX1_faultOf_56
  · refine g_iconst (v := (0 : Int32)) C dX1_faultOf_55 (by decide) ?_
    exact g_ireti C hr dX1_faultOf_56

set_option maxHeartbeats 4000000 in
set_option maxRecDepth 100000 in
theorem c_Rally_faultOf (l : Launch) (hl : l.stackTraces = false) (D : va_G) (cI cJ : ClassId) (ad : Nat → Nat) (p1 : Int32) (p2 : Int32) (p3 : Int32) : gMi l D cI cJ ad yX1_faultOf cX1_faultOf 4 (some .int) { frames := 0, cells := 0, slots := 0, locals := 0 } [.ref (ad 15), .int p1, .int p2, .int p3] (F_Rally_faultOf p1 p2 p3) := by
  refine gStartI (L0 := [(0, .ref (ad 15)), (1, .int p1), (2, .int p2), (3, .int p3)]) RX1 (by decide) rfl rfl (Nat.le_of_ble_eq_true rfl) ?_
  intro p e s m args below meth c sz σ r σ' C hr
  unfold F_Rally_faultOf
  refine g_aload_n C 0 dX1_faultOf_0 rfl rfl ?_
  refine g_getI C 15 1 gcl1 rfl (by decide) rfl qw70 dX1_faultOf_1 ?_
  refine g_iload_n C 1 dX1_faultOf_4 rfl rfl ?_
  refine g_icmp_eq (tgt := 10) C dX1_faultOf_5 (by decide) (fun h1 => ?_) (fun h1 => ?_)
  · refine g_aload_n C 0 dX1_faultOf_10 rfl rfl ?_
    refine g_getI C 15 3 gcl1 rfl (by decide) rfl qw72 dX1_faultOf_11 ?_
    refine g_iconst (v := (-1 : Int32)) C dX1_faultOf_14 (by decide) ?_
    refine g_icmp_ne (tgt := 20) C dX1_faultOf_15 (by decide) (fun h2 => ?_) (fun h2 => ?_)
    · refine g_iconst (v := (1 : Int32)) C dX1_faultOf_18 (by decide) ?_
      exact g_ireti C hr dX1_faultOf_19
    · refine g_aload_n C 0 dX1_faultOf_20 rfl rfl ?_
      refine g_getI C 15 2 gcl1 rfl (by decide) rfl qw71 dX1_faultOf_21 ?_
      refine g_iload_n C 2 dX1_faultOf_24 rfl rfl ?_
      refine g_icmp_ne (tgt := 38) C dX1_faultOf_25 (by decide) (fun h3 => ?_) (fun h3 => ?_)
      · refine g_aload_n C 0 dX1_faultOf_28 rfl rfl ?_
        refine g_getI C 15 3 gcl1 rfl (by decide) rfl qw72 dX1_faultOf_29 ?_
        refine g_iconst (v := (2 : Int32)) C dX1_faultOf_32 (by decide) ?_
        refine g_icmp_eq (tgt := 38) C dX1_faultOf_33 (by decide) (fun h4 => ?_) (fun h4 => ?_)
        · refine g_loc [0, 3] rfl ?_
          exact b_Rally_faultOf_B38 C hr hl p1 p2 p3 p3 σ
        · refine g_iconst (v := (2 : Int32)) C dX1_faultOf_36 (by decide) ?_
          exact g_ireti C hr dX1_faultOf_37
      · refine g_loc [0, 3] rfl ?_
        exact b_Rally_faultOf_B38 C hr hl p1 p2 p3 p3 σ
  · refine g_iconst (v := (0 : Int32)) C dX1_faultOf_8 (by decide) ?_
    exact g_ireti C hr dX1_faultOf_9

def F_Rally_note_B32 (p1 : Int32) (p2 : Int32) (p3 : Int32) (l1 : Int32) (l2 : Int32) (l3 : Int32) (s0 : Int32) (σ : gSt) : Option gSt := gl (gup σ 15 4 s0) fun σ1 => gl (gup σ1 15 1 l1) fun σ2 => gl (gup σ2 15 2 l2) fun σ3 => gl (gup σ3 15 3 l3) fun σ4 => some σ4

def F_Rally_note_B16 (p1 : Int32) (p2 : Int32) (p3 : Int32) (l1 : Int32) (l2 : Int32) (l3 : Int32) (s0 : Int32) (σ : gSt) : Option gSt := if l3 = (2 : Int32) then (F_Rally_note_B32 p1 p2 p3 l1 l2 l3 (0 : Int32) σ) else (F_Rally_note_B32 p1 p2 p3 l1 l2 l3 (s0 + (1 : Int32)) σ)

def F_Rally_note (p1 : Int32) (p2 : Int32) (p3 : Int32) (σ : gSt) : Option gSt := if (σ 15 1) = p1 then (F_Rally_note_B16 p1 p2 p3 p1 p2 p3 (σ 15 4) σ) else (F_Rally_note_B16 p1 p2 p3 p1 p2 p3 (0 : Int32) σ)

set_option maxHeartbeats 4000000 in
set_option maxRecDepth 100000 in
theorem b_Rally_note_B32 {p : Program} {l : Launch} {e : Env} {s : State} {m : MethodId} {args : Array Value} {below : List Frame} {meth : Method} {c : Code} {D : va_G} {cI cJ : ClassId} {ad : Nat → Nat} {sz : Nat} {σ' : gSt} (C : gC p s m args meth c D cI cJ ad (gA ad sz) cX1_note 5 RX1) (hr : meth.sig.returnType = none) (hl : l.stackTraces = false) (p1 : Int32) (p2 : Int32) (p3 : Int32) (l1 : Int32) (l2 : Int32) (l3 : Int32) (s0 : Int32) (σ : gSt) : gX (F_Rally_note_B32 p1 p2 p3 l1 l2 l3 s0 σ) σ' (gG p l e { frames := 0, cells := 0, slots := 0, locals := 0 } s m args below meth c D cI cJ ad (gA ad sz) 5 0 0 (MQ below (va_Qv (fun (_ : Unit) => True) (fun _ t => va_P D vwCl (gw cI cJ ad σ') t.heap) (gA ad sz)) args s 0 0 (gA ad sz)) σ 32 [(0, .ref (ad 15)), (1, .int l1), (2, .int l2), (3, .int l3)] [.int s0, .ref (ad 15)]) := by
  unfold F_Rally_note_B32
  refine g_putI C 15 4 gcl1 gft1 rfl (by decide) rfl rfl rfl qw73 dX1_note_32 (fun σ1 => ?_)
  refine g_aload_n C 0 dX1_note_35 rfl rfl ?_
  refine g_iload_n C 1 dX1_note_36 rfl rfl ?_
  refine g_putI C 15 1 gcl1 gft1 rfl (by decide) rfl rfl rfl qw70 dX1_note_37 (fun σ2 => ?_)
  refine g_aload_n C 0 dX1_note_40 rfl rfl ?_
  refine g_iload_n C 2 dX1_note_41 rfl rfl ?_
  refine g_putI C 15 2 gcl1 gft1 rfl (by decide) rfl rfl rfl qw71 dX1_note_42 (fun σ3 => ?_)
  refine g_aload_n C 0 dX1_note_45 rfl rfl ?_
  refine g_iload_n C 3 dX1_note_46 rfl rfl ?_
  refine g_putI C 15 3 gcl1 gft1 rfl (by decide) rfl rfl rfl qw72 dX1_note_47 (fun σ4 => ?_)
  exact g_retv C hr dX1_note_50

set_option maxHeartbeats 4000000 in
set_option maxRecDepth 100000 in
theorem b_Rally_note_B16 {p : Program} {l : Launch} {e : Env} {s : State} {m : MethodId} {args : Array Value} {below : List Frame} {meth : Method} {c : Code} {D : va_G} {cI cJ : ClassId} {ad : Nat → Nat} {sz : Nat} {σ' : gSt} (C : gC p s m args meth c D cI cJ ad (gA ad sz) cX1_note 5 RX1) (hr : meth.sig.returnType = none) (hl : l.stackTraces = false) (p1 : Int32) (p2 : Int32) (p3 : Int32) (l1 : Int32) (l2 : Int32) (l3 : Int32) (s0 : Int32) (σ : gSt) : gX (F_Rally_note_B16 p1 p2 p3 l1 l2 l3 s0 σ) σ' (gG p l e { frames := 0, cells := 0, slots := 0, locals := 0 } s m args below meth c D cI cJ ad (gA ad sz) 5 0 0 (MQ below (va_Qv (fun (_ : Unit) => True) (fun _ t => va_P D vwCl (gw cI cJ ad σ') t.heap) (gA ad sz)) args s 0 0 (gA ad sz)) σ 16 [(0, .ref (ad 15)), (1, .int l1), (2, .int l2), (3, .int l3)] [.int s0]) := by
  unfold F_Rally_note_B16
  refine g_istore (L' := [(4, .int s0), (0, .ref (ad 15)), (1, .int l1), (2, .int l2), (3, .int l3)]) C dX1_note_16 (by decide) rfl ?_
  refine g_aload_n C 1 dX1_note_18 rfl rfl ?_
  refine g_iload_n C 4 dX1_note_19 rfl rfl ?_
  refine g_iconst (v := (2 : Int32)) C dX1_note_20 (by decide) ?_
  refine g_icmp_ne (tgt := 28) C dX1_note_21 (by decide) (fun h1 => ?_) (fun h1 => ?_)
  · refine g_iconst (v := (0 : Int32)) C dX1_note_24 (by decide) ?_
    refine g_goto (tgt := 32) C dX1_note_25 (by decide) ?_
    refine g_loc [1, 2, 3, 4] rfl ?_
    exact b_Rally_note_B32 C hr hl p1 p2 p3 l1 l2 l3 (0 : Int32) σ
  · refine g_iload C 0 dX1_note_28 rfl ?_
    refine g_iconst (v := (1 : Int32)) C dX1_note_30 (by decide) ?_
    refine g_iadd C dX1_note_31 ?_
    refine g_loc [1, 2, 3, 4] rfl ?_
    exact b_Rally_note_B32 C hr hl p1 p2 p3 l1 l2 l3 (s0 + (1 : Int32)) σ

set_option maxHeartbeats 4000000 in
set_option maxRecDepth 100000 in
theorem c_Rally_note (l : Launch) (hl : l.stackTraces = false) (D : va_G) (cI cJ : ClassId) (ad : Nat → Nat) (p1 : Int32) (p2 : Int32) (p3 : Int32) : gMv l D cI cJ ad yX1_note cX1_note 5 none { frames := 0, cells := 0, slots := 0, locals := 0 } [.ref (ad 15), .int p1, .int p2, .int p3] (F_Rally_note p1 p2 p3) := by
  refine gStartV (L0 := [(0, .ref (ad 15)), (1, .int p1), (2, .int p2), (3, .int p3)]) RX1 (by decide) rfl rfl (Nat.le_of_ble_eq_true rfl) ?_
  intro p e s m args below meth c sz σ σ' C hr
  unfold F_Rally_note
  refine g_aload_n C 0 dX1_note_0 rfl rfl ?_
  refine g_getI C 15 1 gcl1 rfl (by decide) rfl qw70 dX1_note_1 ?_
  refine g_iload_n C 1 dX1_note_4 rfl rfl ?_
  refine g_icmp_ne (tgt := 15) C dX1_note_5 (by decide) (fun h1 => ?_) (fun h1 => ?_)
  · refine g_aload_n C 0 dX1_note_8 rfl rfl ?_
    refine g_getI C 15 4 gcl1 rfl (by decide) rfl qw73 dX1_note_9 ?_
    refine g_goto (tgt := 16) C dX1_note_12 (by decide) ?_
    refine g_loc [0, 1, 2, 3] rfl ?_
    exact b_Rally_note_B16 C hr hl p1 p2 p3 p1 p2 p3 (σ 15 4) σ
  · refine g_iconst (v := (0 : Int32)) C dX1_note_15 (by decide) ?_
    refine g_loc [0, 1, 2, 3] rfl ?_
    exact b_Rally_note_B16 C hr hl p1 p2 p3 p1 p2 p3 (0 : Int32) σ

def F_Rally_noteNet (p1 : Int32) (σ : gSt) : Option gSt := if p1 = (1 : Int32) then (gl (gup σ 15 6 (1 : Int32)) fun σ2 => some σ2) else (gl (gup σ 15 5 (1 : Int32)) fun σ3 => some σ3)

set_option maxHeartbeats 4000000 in
set_option maxRecDepth 100000 in
theorem c_Rally_noteNet (l : Launch) (hl : l.stackTraces = false) (D : va_G) (cI cJ : ClassId) (ad : Nat → Nat) (p1 : Int32) : gMv l D cI cJ ad yX1_noteNet cX1_noteNet 2 none { frames := 0, cells := 0, slots := 0, locals := 0 } [.ref (ad 15), .int p1] (F_Rally_noteNet p1) := by
  refine gStartV (L0 := [(0, .ref (ad 15)), (1, .int p1)]) RX1 (by decide) rfl rfl (Nat.le_of_ble_eq_true rfl) ?_
  intro p e s m args below meth c sz σ σ' C hr
  unfold F_Rally_noteNet
  refine g_iload_n C 1 dX1_noteNet_0 rfl rfl ?_
  refine g_iconst (v := (1 : Int32)) C dX1_noteNet_1 (by decide) ?_
  refine g_icmp_ne (tgt := 13) C dX1_noteNet_2 (by decide) (fun h1 => ?_) (fun h1 => ?_)
  · refine g_aload_n C 0 dX1_noteNet_5 rfl rfl ?_
    refine g_iconst (v := (1 : Int32)) C dX1_noteNet_6 (by decide) ?_
    refine g_putZ C 15 6 (by decide) gcl1 gft1 rfl (by decide) rfl rfl rfl qw75 dX1_noteNet_7 (fun σ2 => ?_)
    refine g_goto (tgt := 18) C dX1_noteNet_10 (by decide) ?_
    exact g_retv C hr dX1_noteNet_18
  · refine g_aload_n C 0 dX1_noteNet_13 rfl rfl ?_
    refine g_iconst (v := (1 : Int32)) C dX1_noteNet_14 (by decide) ?_
    refine g_putZ C 15 5 (by decide) gcl1 gft1 rfl (by decide) rfl rfl rfl qw74 dX1_noteNet_15 (fun σ3 => ?_)
    exact g_retv C hr dX1_noteNet_18

def F_Rally_isNetNotedOf (p1 : Int32) (σ : gSt) : Option (Int32 × gSt) := if p1 = (1 : Int32) then (if (σ 15 6) = 0 ∨ (σ 15 6) = 1 then some ((σ 15 6), σ) else none) else (if (σ 15 5) = 0 ∨ (σ 15 5) = 1 then some ((σ 15 5), σ) else none)

set_option maxHeartbeats 4000000 in
set_option maxRecDepth 100000 in
theorem c_Rally_isNetNotedOf (l : Launch) (hl : l.stackTraces = false) (D : va_G) (cI cJ : ClassId) (ad : Nat → Nat) (p1 : Int32) : gMi l D cI cJ ad yX1_isNetNotedOf cX1_isNetNotedOf 2 (some .boolean) { frames := 0, cells := 0, slots := 0, locals := 0 } [.ref (ad 15), .int p1] (F_Rally_isNetNotedOf p1) := by
  refine gStartI (L0 := [(0, .ref (ad 15)), (1, .int p1)]) RX1 (by decide) rfl rfl (Nat.le_of_ble_eq_true rfl) ?_
  intro p e s m args below meth c sz σ r σ' C hr
  unfold F_Rally_isNetNotedOf
  refine g_iload_n C 1 dX1_isNetNotedOf_0 rfl rfl ?_
  refine g_iconst (v := (1 : Int32)) C dX1_isNetNotedOf_1 (by decide) ?_
  refine g_icmp_ne (tgt := 12) C dX1_isNetNotedOf_2 (by decide) (fun h1 => ?_) (fun h1 => ?_)
  · refine g_aload_n C 0 dX1_isNetNotedOf_5 rfl rfl ?_
    refine g_getI C 15 6 gcl1 rfl (by decide) rfl qw75 dX1_isNetNotedOf_6 ?_
    refine g_goto (tgt := 16) C dX1_isNetNotedOf_9 (by decide) ?_
    refine gX_z (fun z2 => ?_)
    exact g_iretz C z2 hr dX1_isNetNotedOf_16
  · refine g_aload_n C 0 dX1_isNetNotedOf_12 rfl rfl ?_
    refine g_getI C 15 5 gcl1 rfl (by decide) rfl qw74 dX1_isNetNotedOf_13 ?_
    refine gX_z (fun z3 => ?_)
    exact g_iretz C z3 hr dX1_isNetNotedOf_16

def F_Reader_clear_B22  : Nat → Int32 → gSt → Option gSt
  | 0, _, _ => none
  | n + 1, l1, σ => if (6 : Int32) ≤ l1 then (some σ) else (gbv (F_Game_putIn 26 l1 (0 : Int32) σ) fun σ2 => gbv (F_Game_putIn 27 l1 (0 : Int32) σ2) fun σ3 => F_Reader_clear_B22 n (l1 + (1 : Int32)) σ3)

def F_Reader_clear  (σ : gSt) : Option gSt := gbv (F_Side_clearOrder 20 σ) fun σ1 => gbv (F_Side_clearOrder 23 σ1) fun σ2 => F_Reader_clear_B22 100 (0 : Int32) σ2

set_option maxHeartbeats 4000000 in
set_option maxRecDepth 100000 in
theorem b_Reader_clear_B22 {p : Program} {l : Launch} {e : Env} {s : State} {m : MethodId} {args : Array Value} {below : List Frame} {meth : Method} {c : Code} {D : va_G} {cI cJ : ClassId} {ad : Nat → Nat} {sz : Nat} {σ' : gSt} (C : gC p s m args meth c D cI cJ ad (gA ad sz) cX2_clear 2 RX2) (hr : meth.sig.returnType = none) (hl : l.stackTraces = false) : ∀ (n : Nat) (l1 : Int32) (σ : gSt), gX (F_Reader_clear_B22 n l1 σ) σ' (gG p l e { frames := 3, cells := 0, slots := 0, locals := 65 } s m args below meth c D cI cJ ad (gA ad sz) 2 0 0 (MQ below (va_Qv (fun (_ : Unit) => True) (fun _ t => va_P D vwCl (gw cI cJ ad σ') t.heap) (gA ad sz)) args s 0 0 (gA ad sz)) σ 22 [(0, .ref (ad 18)), (1, .int l1)] []) := by
  intro n
  induction n with
  | zero =>
    intro l1 σ
    unfold F_Reader_clear_B22
    exact gX_none
  | succ n ih =>
    intro l1 σ
    unfold F_Reader_clear_B22
    refine g_iload_n C 1 dX2_clear_22 rfl rfl ?_
    refine g_bipush (v := (6 : Int32)) C dX2_clear_23 (by decide) ?_
    refine g_icmp_ge (tgt := 52) C dX2_clear_25 (by decide) (fun h1 => ?_) (fun h1 => ?_)
    · exact g_retv C hr dX2_clear_52
    · refine g_aload_n C 0 dX2_clear_28 rfl rfl ?_
      refine g_getR (o' := 26) C 18 1 gcl2 rfl (by decide) rfl qw80 dX2_clear_29 ?_
      refine g_iload_n C 1 dX2_clear_32 rfl rfl ?_
      refine g_iconst (v := (0 : Int32)) C dX2_clear_33 (by decide) ?_
      refine g_callnv (As := [.ref (ad 26), .int l1, .int (0 : Int32)]) (n := 3) C (c_Game_putIn l hl D cI cJ ad 26 l1 (0 : Int32) rfl) ⟨rfl, rfl⟩ qc15 (hR := ⟨Nat.le_of_ble_eq_true rfl, Nat.le_of_ble_eq_true rfl⟩) rfl rfl (Nat.le_of_ble_eq_true rfl) dX2_clear_34 ⟨Nat.zero_le _, Nat.zero_le _⟩ (fun σ2 => ?_)
      refine g_aload_n C 0 dX2_clear_37 rfl rfl ?_
      refine g_getR (o' := 27) C 18 2 gcl2 rfl (by decide) rfl qw82 dX2_clear_38 ?_
      refine g_iload_n C 1 dX2_clear_41 rfl rfl ?_
      refine g_iconst (v := (0 : Int32)) C dX2_clear_42 (by decide) ?_
      refine g_callnv (As := [.ref (ad 27), .int l1, .int (0 : Int32)]) (n := 3) C (c_Game_putIn l hl D cI cJ ad 27 l1 (0 : Int32) rfl) ⟨rfl, rfl⟩ qc15 (hR := ⟨Nat.le_of_ble_eq_true rfl, Nat.le_of_ble_eq_true rfl⟩) rfl rfl (Nat.le_of_ble_eq_true rfl) dX2_clear_43 ⟨Nat.zero_le _, Nat.zero_le _⟩ (fun σ3 => ?_)
      refine g_iinc (v := (l1 + (1 : Int32))) (L' := [(1, .int (l1 + (1 : Int32))), (0, .ref (ad 18))]) C 1 dX2_clear_46 rfl (by rfl) (by decide) rfl ?_
      refine g_goto (tgt := 22) C dX2_clear_49 (by decide) ?_
      refine g_loc [1, 0] rfl ?_
      exact ih (l1 + (1 : Int32)) σ3

set_option maxHeartbeats 4000000 in
set_option maxRecDepth 100000 in
theorem c_Reader_clear (l : Launch) (hl : l.stackTraces = false) (D : va_G) (cI cJ : ClassId) (ad : Nat → Nat) : gMv l D cI cJ ad yX2_clear cX2_clear 2 none { frames := 3, cells := 0, slots := 0, locals := 65 } [.ref (ad 18)] (F_Reader_clear) := by
  refine gStartV (L0 := [(0, .ref (ad 18))]) RX2 (by decide) rfl rfl (Nat.le_of_ble_eq_true rfl) ?_
  intro p e s m args below meth c sz σ σ' C hr
  unfold F_Reader_clear
  refine g_aload_n C 0 dX2_clear_0 rfl rfl ?_
  refine g_getR (o' := 19) C 18 0 gcl2 rfl (by decide) rfl qw76 dX2_clear_1 ?_
  refine g_getRN (o' := 20) C 19 0 gcl0 rfl (by decide) rfl qn77 dX2_clear_4 ?_
  refine g_callvv (As := []) (n := 0) C (c_Side_clearOrder l hl D cI cJ ad 20 gs20) ⟨rfl, rfl⟩ gcl4 rfl qc14 (hR := ⟨Nat.le_of_ble_eq_true rfl, Nat.le_of_ble_eq_true rfl⟩) rfl rfl (Nat.le_of_ble_eq_true rfl) dX2_clear_7 ⟨Nat.zero_le _, Nat.zero_le _⟩ (fun σ1 => ?_)
  refine g_aload_n C 0 dX2_clear_10 rfl rfl ?_
  refine g_getR (o' := 19) C 18 0 gcl2 rfl (by decide) rfl qw76 dX2_clear_11 ?_
  refine g_getRN (o' := 23) C 19 1 gcl0 rfl (by decide) rfl qn79 dX2_clear_14 ?_
  refine g_callvv (As := []) (n := 0) C (c_Side_clearOrder l hl D cI cJ ad 23 gs23) ⟨rfl, rfl⟩ gcl4 rfl qc14 (hR := ⟨Nat.le_of_ble_eq_true rfl, Nat.le_of_ble_eq_true rfl⟩) rfl rfl (Nat.le_of_ble_eq_true rfl) dX2_clear_17 ⟨Nat.zero_le _, Nat.zero_le _⟩ (fun σ2 => ?_)
  refine g_iconst (v := (0 : Int32)) C dX2_clear_20 (by decide) ?_
  refine g_istore_n (L' := [(1, .int (0 : Int32)), (0, .ref (ad 18))]) C dX2_clear_21 rfl (by decide) rfl ?_
  refine g_loc [1, 0] rfl ?_
  exact b_Reader_clear_B22 C hr hl 100 (0 : Int32) σ2

def F_Sheet_signAt (p1 : Int32) (σ : gSt) : Option (Int32 × gSt) := gbi (F_Game_valueIn 17 p1 σ) fun r2 σ1 => some (r2, σ1)

set_option maxHeartbeats 4000000 in
set_option maxRecDepth 100000 in
theorem c_Sheet_signAt (l : Launch) (hl : l.stackTraces = false) (D : va_G) (cI cJ : ClassId) (ad : Nat → Nat) (p1 : Int32) : gMi l D cI cJ ad yX3_signAt cX3_signAt 2 (some .int) { frames := 1, cells := 0, slots := 0, locals := 21 } [.ref (ad 16), .int p1] (F_Sheet_signAt p1) := by
  refine gStartI (L0 := [(0, .ref (ad 16)), (1, .int p1)]) RX3 (by decide) rfl rfl (Nat.le_of_ble_eq_true rfl) ?_
  intro p e s m args below meth c sz σ r σ' C hr
  unfold F_Sheet_signAt
  refine g_aload_n C 0 dX3_signAt_0 rfl rfl ?_
  refine g_getR (o' := 17) C 16 0 gcl3 rfl (by decide) rfl qw83 dX3_signAt_1 ?_
  refine g_iload_n C 1 dX3_signAt_4 rfl rfl ?_
  refine g_callni (As := [.ref (ad 17), .int p1]) (n := 2) C (c_Game_valueIn l hl D cI cJ ad 17 p1 rfl) ⟨rfl, rfl⟩ qc16 (hR := ⟨Nat.le_of_ble_eq_true rfl, Nat.le_of_ble_eq_true rfl⟩) rfl rfl (Nat.le_of_ble_eq_true rfl) dX3_signAt_5 ⟨Nat.zero_le _, Nat.zero_le _⟩ (fun r2 σ1 => ?_)
  exact g_ireti C hr dX3_signAt_8

def F_Sheet_kindOf (p1 : Int32) (σ : gSt) : Option (Int32 × gSt) := some ((p1 >>> ((11 : Int32) &&& 31)), σ)

set_option maxHeartbeats 4000000 in
set_option maxRecDepth 100000 in
theorem c_Sheet_kindOf (l : Launch) (hl : l.stackTraces = false) (D : va_G) (cI cJ : ClassId) (ad : Nat → Nat) (p1 : Int32) : gMi l D cI cJ ad yX3_kindOf cX3_kindOf 1 (some .int) { frames := 0, cells := 0, slots := 0, locals := 0 } [.int p1] (F_Sheet_kindOf p1) := by
  refine gStartI (L0 := [(0, .int p1)]) RX3 (by decide) rfl rfl (Nat.le_of_ble_eq_true rfl) ?_
  intro p e s m args below meth c sz σ r σ' C hr
  unfold F_Sheet_kindOf
  refine g_iload_n C 0 dX3_kindOf_0 rfl rfl ?_
  refine g_bipush (v := (11 : Int32)) C dX3_kindOf_1 (by decide) ?_
  refine g_ishr C dX3_kindOf_3 ?_
  exact g_ireti C hr dX3_kindOf_4

def F_Sheet_teamOf (p1 : Int32) (σ : gSt) : Option (Int32 × gSt) := some (((p1 >>> ((10 : Int32) &&& 31)) &&& (1 : Int32)), σ)

set_option maxHeartbeats 4000000 in
set_option maxRecDepth 100000 in
theorem c_Sheet_teamOf (l : Launch) (hl : l.stackTraces = false) (D : va_G) (cI cJ : ClassId) (ad : Nat → Nat) (p1 : Int32) : gMi l D cI cJ ad yX3_teamOf cX3_teamOf 1 (some .int) { frames := 0, cells := 0, slots := 0, locals := 0 } [.int p1] (F_Sheet_teamOf p1) := by
  refine gStartI (L0 := [(0, .int p1)]) RX3 (by decide) rfl rfl (Nat.le_of_ble_eq_true rfl) ?_
  intro p e s m args below meth c sz σ r σ' C hr
  unfold F_Sheet_teamOf
  refine g_iload_n C 0 dX3_teamOf_0 rfl rfl ?_
  refine g_bipush (v := (10 : Int32)) C dX3_teamOf_1 (by decide) ?_
  refine g_ishr C dX3_teamOf_3 ?_
  refine g_iconst (v := (1 : Int32)) C dX3_teamOf_4 (by decide) ?_
  refine g_iand C dX3_teamOf_5 ?_
  exact g_ireti C hr dX3_teamOf_6

def F_Sheet_oneOf (p1 : Int32) (σ : gSt) : Option (Int32 × gSt) := some (((p1 >>> ((5 : Int32) &&& 31)) &&& (31 : Int32)), σ)

set_option maxHeartbeats 4000000 in
set_option maxRecDepth 100000 in
theorem c_Sheet_oneOf (l : Launch) (hl : l.stackTraces = false) (D : va_G) (cI cJ : ClassId) (ad : Nat → Nat) (p1 : Int32) : gMi l D cI cJ ad yX3_oneOf cX3_oneOf 1 (some .int) { frames := 0, cells := 0, slots := 0, locals := 0 } [.int p1] (F_Sheet_oneOf p1) := by
  refine gStartI (L0 := [(0, .int p1)]) RX3 (by decide) rfl rfl (Nat.le_of_ble_eq_true rfl) ?_
  intro p e s m args below meth c sz σ r σ' C hr
  unfold F_Sheet_oneOf
  refine g_iload_n C 0 dX3_oneOf_0 rfl rfl ?_
  refine g_iconst (v := (5 : Int32)) C dX3_oneOf_1 (by decide) ?_
  refine g_ishr C dX3_oneOf_2 ?_
  refine g_bipush (v := (31 : Int32)) C dX3_oneOf_3 (by decide) ?_
  refine g_iand C dX3_oneOf_5 ?_
  exact g_ireti C hr dX3_oneOf_6

def F_Sheet_twoOf (p1 : Int32) (σ : gSt) : Option (Int32 × gSt) := some ((p1 &&& (31 : Int32)), σ)

set_option maxHeartbeats 4000000 in
set_option maxRecDepth 100000 in
theorem c_Sheet_twoOf (l : Launch) (hl : l.stackTraces = false) (D : va_G) (cI cJ : ClassId) (ad : Nat → Nat) (p1 : Int32) : gMi l D cI cJ ad yX3_twoOf cX3_twoOf 1 (some .int) { frames := 0, cells := 0, slots := 0, locals := 0 } [.int p1] (F_Sheet_twoOf p1) := by
  refine gStartI (L0 := [(0, .int p1)]) RX3 (by decide) rfl rfl (Nat.le_of_ble_eq_true rfl) ?_
  intro p e s m args below meth c sz σ r σ' C hr
  unfold F_Sheet_twoOf
  refine g_iload_n C 0 dX3_twoOf_0 rfl rfl ?_
  refine g_bipush (v := (31 : Int32)) C dX3_twoOf_1 (by decide) ?_
  refine g_iand C dX3_twoOf_3 ?_
  exact g_ireti C hr dX3_twoOf_4

def F_Reader_rowOf (p1 : Int32) (σ : gSt) : Option (Nat × gSt) := if p1 = (1 : Int32) then (some (27, σ)) else (some (26, σ))

set_option maxHeartbeats 4000000 in
set_option maxRecDepth 100000 in
theorem c_Reader_rowOf (l : Launch) (hl : l.stackTraces = false) (D : va_G) (cI cJ : ClassId) (ad : Nat → Nat) (p1 : Int32) : gMr l D cI cJ ad yX2_rowOf cX2_rowOf 2 (some (.array .int)) { frames := 0, cells := 0, slots := 0, locals := 0 } [.ref (ad 18), .int p1] (F_Reader_rowOf p1) := by
  refine gStartR (L0 := [(0, .ref (ad 18)), (1, .int p1)]) RX2 (by decide) rfl rfl (Nat.le_of_ble_eq_true rfl) ?_
  intro p e s m args below meth c sz σ r σ' C hr
  unfold F_Reader_rowOf
  refine g_iload_n C 1 dX2_rowOf_0 rfl rfl ?_
  refine g_iconst (v := (1 : Int32)) C dX2_rowOf_1 (by decide) ?_
  refine g_icmp_ne (tgt := 12) C dX2_rowOf_2 (by decide) (fun h1 => ?_) (fun h1 => ?_)
  · refine g_aload_n C 0 dX2_rowOf_5 rfl rfl ?_
    refine g_getR (o' := 27) C 18 2 gcl2 rfl (by decide) rfl qw82 dX2_rowOf_6 ?_
    refine g_goto (tgt := 16) C dX2_rowOf_9 (by decide) ?_
    exact g_areto C hr (by first | exact Or.inl ⟨_, rfl⟩ | exact Or.inr ⟨_, rfl⟩) dX2_rowOf_16
  · refine g_aload_n C 0 dX2_rowOf_12 rfl rfl ?_
    refine g_getR (o' := 26) C 18 1 gcl2 rfl (by decide) rfl qw80 dX2_rowOf_13 ?_
    exact g_areto C hr (by first | exact Or.inl ⟨_, rfl⟩ | exact Or.inr ⟨_, rfl⟩) dX2_rowOf_16

theorem gRow_arr {t : Int32} {σ : gSt} {o : Nat} {σ' : gSt} (h : F_Reader_rowOf t σ = some (o, σ')) : gKd o = 7 ∧ gLn o = 6 := by
  unfold F_Reader_rowOf at h
  split at h <;> (cases h; exact ⟨rfl, rfl⟩)

def F_Reader_lostBy (p1 : Int32) (p2 : Int32) (σ : gSt) : Option (Int32 × gSt) := gbr (F_Reader_rowOf p1 σ) fun o2 σ1 => gbi (F_Game_valueIn o2 p2 σ1) fun r5 σ4 => some (r5, σ4)

set_option maxHeartbeats 4000000 in
set_option maxRecDepth 100000 in
theorem c_Reader_lostBy (l : Launch) (hl : l.stackTraces = false) (D : va_G) (cI cJ : ClassId) (ad : Nat → Nat) (p1 : Int32) (p2 : Int32) : gMi l D cI cJ ad yX2_lostBy cX2_lostBy 3 (some .int) { frames := 1, cells := 0, slots := 0, locals := 21 } [.ref (ad 18), .int p1, .int p2] (F_Reader_lostBy p1 p2) := by
  refine gStartI (L0 := [(0, .ref (ad 18)), (1, .int p1), (2, .int p2)]) RX2 (by decide) rfl rfl (Nat.le_of_ble_eq_true rfl) ?_
  intro p e s m args below meth c sz σ r σ' C hr
  unfold F_Reader_lostBy
  refine g_aload_n C 0 dX2_lostBy_0 rfl rfl ?_
  refine g_iload_n C 1 dX2_lostBy_1 rfl rfl ?_
  refine g_callvr (As := [.int p1]) (n := 1) C (c_Reader_rowOf l hl D cI cJ ad p1) ⟨rfl, rfl⟩ gcl2 rfl qc17 (hR := ⟨Nat.le_of_ble_eq_true rfl, Nat.le_of_ble_eq_true rfl⟩) rfl rfl (Nat.le_of_ble_eq_true rfl) dX2_lostBy_2 ⟨Nat.zero_le _, Nat.zero_le _⟩ (fun o2 σ1 h3 => ?_)
  refine g_iload_n C 2 dX2_lostBy_5 rfl rfl ?_
  refine g_callni (As := [.ref (ad o2), .int p2]) (n := 2) C (c_Game_valueIn l hl D cI cJ ad o2 p2 (gRow_arr h3).1) ⟨rfl, rfl⟩ qc18 (hR := ⟨Nat.le_of_ble_eq_true rfl, Nat.le_of_ble_eq_true rfl⟩) rfl rfl (Nat.le_of_ble_eq_true rfl) dX2_lostBy_6 ⟨Nat.zero_le _, Nat.zero_le _⟩ (fun r5 σ4 => ?_)
  exact g_ireti C hr dX2_lostBy_9

def F_Reader_countLost (p1 : Int32) (σ : gSt) : Option gSt := gbr (F_Court_sideOf 19 p1 σ) fun o2 σ1 => gl ((σ1 o2 6) - (σ1 o2 6) / (6 : Int32) * (6 : Int32)) fun x4 => gbr (F_Reader_rowOf p1 σ1) fun o6 σ5 => gbi (F_Reader_lostBy p1 x4 σ5) fun r9 σ8 => gbv (F_Game_putIn o6 x4 (r9 + (1 : Int32)) σ8) fun σ10 => some σ10

set_option maxHeartbeats 4000000 in
set_option maxRecDepth 100000 in
theorem c_Reader_countLost (l : Launch) (hl : l.stackTraces = false) (D : va_G) (cI cJ : ClassId) (ad : Nat → Nat) (p1 : Int32) : gMv l D cI cJ ad yX2_countLost cX2_countLost 3 none { frames := 2, cells := 0, slots := 0, locals := 43 } [.ref (ad 18), .int p1] (F_Reader_countLost p1) := by
  refine gStartV (L0 := [(0, .ref (ad 18)), (1, .int p1)]) RX2 (by decide) rfl rfl (Nat.le_of_ble_eq_true rfl) ?_
  intro p e s m args below meth c sz σ σ' C hr
  unfold F_Reader_countLost
  refine g_aload_n C 0 dX2_countLost_0 rfl rfl ?_
  refine g_getR (o' := 19) C 18 0 gcl2 rfl (by decide) rfl qw76 dX2_countLost_1 ?_
  refine g_iload_n C 1 dX2_countLost_4 rfl rfl ?_
  refine g_callvr (As := [.int p1]) (n := 1) C (c_Court_sideOf l hl D cI cJ ad 19 p1 gc19) ⟨rfl, rfl⟩ gcl0 rfl qc19 (hR := ⟨Nat.le_of_ble_eq_true rfl, Nat.le_of_ble_eq_true rfl⟩) rfl rfl (Nat.le_of_ble_eq_true rfl) dX2_countLost_5 ⟨Nat.zero_le _, Nat.zero_le _⟩ (fun o2 σ1 h3 => ?_)
  refine g_getIN C o2 6 gcl4 (gSd (gOf_side gc19 h3)).1 (by decide) ((gSd (gOf_side gc19 h3)).2.2.2.1 6 (by decide)) qn92 dX2_countLost_8 ?_
  refine g_bipush (v := (6 : Int32)) C dX2_countLost_11 (by decide) ?_
  refine g_irem C dX2_countLost_13 (by decide) ?_
  refine g_name ?_; intro x4
  refine g_istore_n (L' := [(2, .int x4), (0, .ref (ad 18)), (1, .int p1)]) C dX2_countLost_14 rfl (by decide) rfl ?_
  refine g_aload_n C 1 dX2_countLost_15 rfl rfl ?_
  refine g_iload_n C 2 dX2_countLost_16 rfl rfl ?_
  refine g_callvr (As := [.int p1]) (n := 1) C (c_Reader_rowOf l hl D cI cJ ad p1) ⟨rfl, rfl⟩ gcl2 rfl qc17 (hR := ⟨Nat.le_of_ble_eq_true rfl, Nat.le_of_ble_eq_true rfl⟩) rfl rfl (Nat.le_of_ble_eq_true rfl) dX2_countLost_17 ⟨Nat.zero_le _, Nat.zero_le _⟩ (fun o6 σ5 h7 => ?_)
  refine g_iload_n C 0 dX2_countLost_20 rfl rfl ?_
  refine g_aload_n C 1 dX2_countLost_21 rfl rfl ?_
  refine g_iload_n C 2 dX2_countLost_22 rfl rfl ?_
  refine g_iload_n C 0 dX2_countLost_23 rfl rfl ?_
  refine g_callvi (As := [.int p1, .int x4]) (n := 2) C (c_Reader_lostBy l hl D cI cJ ad p1 x4) ⟨rfl, rfl⟩ gcl2 rfl qc20 (hR := ⟨Nat.le_of_ble_eq_true rfl, Nat.le_of_ble_eq_true rfl⟩) rfl rfl (Nat.le_of_ble_eq_true rfl) dX2_countLost_24 ⟨Nat.zero_le _, Nat.zero_le _⟩ (fun r9 σ8 => ?_)
  refine g_iconst (v := (1 : Int32)) C dX2_countLost_27 (by decide) ?_
  refine g_iadd C dX2_countLost_28 ?_
  refine g_callnv (As := [.ref (ad o6), .int x4, .int (r9 + (1 : Int32))]) (n := 3) C (c_Game_putIn l hl D cI cJ ad o6 x4 (r9 + (1 : Int32)) (gRow_arr h7).1) ⟨rfl, rfl⟩ qc15 (hR := ⟨Nat.le_of_ble_eq_true rfl, Nat.le_of_ble_eq_true rfl⟩) rfl rfl (Nat.le_of_ble_eq_true rfl) dX2_countLost_29 ⟨Nat.zero_le _, Nat.zero_le _⟩ (fun σ10 => ?_)
  exact g_retv C hr dX2_countLost_32

def F_Reader_follow (p1 : Int32) (p2 : Int32) (p3 : Int32) (p4 : Int32) (σ : gSt) : Option gSt := gbr (F_Court_sideOf 19 p2 σ) fun o2 σ1 => if p1 = (0 : Int32) then (gbv (F_Side_put o2 p3 p4 σ1) fun σ5 => some σ5) else if p1 = (1 : Int32) then (gl (gup σ1 o2 2 p3) fun σ7 => some σ7) else if p1 = (2 : Int32) then (gbv (F_Court_startSet 19 p2 σ1) fun σ9 => some σ9) else if p1 = (3 : Int32) then (gbi (F_Court_takeService 19 p3 σ1) fun r12 σ11 => some σ11) else if p1 = (4 : Int32) then (gbv (F_Reader_countLost ((1 : Int32) - p2) σ1) fun σ14 => gbv (F_Court_givePoint 19 p2 σ14) fun σ15 => some σ15) else if p1 = (5 : Int32) then (gbi (F_Court_takeBack 19 σ1) fun r18 σ17 => some σ17) else if p1 = (6 : Int32) then (gbv (F_Side_swapLibero o2 p3 σ1) fun σ20 => some σ20) else if p1 = (7 : Int32) then (gbv (F_Side_swapByPair o2 p3 p4 σ1) fun σ22 => some σ22) else (some σ1)

set_option maxHeartbeats 4000000 in
set_option maxRecDepth 100000 in
theorem c_Reader_follow (l : Launch) (hl : l.stackTraces = false) (D : va_G) (cI cJ : ClassId) (ad : Nat → Nat) (p1 : Int32) (p2 : Int32) (p3 : Int32) (p4 : Int32) : gMv l D cI cJ ad yX2_follow cX2_follow 6 none { frames := 5, cells := 0, slots := 0, locals := 110 } [.ref (ad 18), .int p1, .int p2, .int p3, .int p4] (F_Reader_follow p1 p2 p3 p4) := by
  refine gStartV (L0 := [(0, .ref (ad 18)), (1, .int p1), (2, .int p2), (3, .int p3), (4, .int p4)]) RX2 (by decide) rfl rfl (Nat.le_of_ble_eq_true rfl) ?_
  intro p e s m args below meth c sz σ σ' C hr
  unfold F_Reader_follow
  refine g_aload_n C 0 dX2_follow_0 rfl rfl ?_
  refine g_getR (o' := 19) C 18 0 gcl2 rfl (by decide) rfl qw76 dX2_follow_1 ?_
  refine g_iload_n C 2 dX2_follow_4 rfl rfl ?_
  refine g_callvr (As := [.int p2]) (n := 1) C (c_Court_sideOf l hl D cI cJ ad 19 p2 gc19) ⟨rfl, rfl⟩ gcl0 rfl qc19 (hR := ⟨Nat.le_of_ble_eq_true rfl, Nat.le_of_ble_eq_true rfl⟩) rfl rfl (Nat.le_of_ble_eq_true rfl) dX2_follow_5 ⟨Nat.zero_le _, Nat.zero_le _⟩ (fun o2 σ1 h3 => ?_)
  refine g_astore (L' := [(5, .ref (ad o2)), (0, .ref (ad 18)), (1, .int p1), (2, .int p2), (3, .int p3), (4, .int p4)]) C dX2_follow_8 (by decide) rfl ?_
  refine g_iload_n C 2 dX2_follow_10 rfl rfl ?_
  refine gX_if (fun h4 => ?_) (fun h4 => ?_)
  · refine g_tswIn (tgt := 56) C dX2_follow_11 (0) (by rw [h4]; decide) (by decide) (by decide) rfl (by decide) ?_
    refine g_aload C 0 dX2_follow_56 rfl ?_
    refine g_iload_n C 4 dX2_follow_58 rfl rfl ?_
    refine g_iload C 5 dX2_follow_59 rfl ?_
    refine g_callvv (As := [.int p3, .int p4]) (n := 2) C (c_Side_put l hl D cI cJ ad o2 p3 p4 (gOf_side gc19 h3)) ⟨rfl, rfl⟩ gcl4 (gSd (gOf_side gc19 h3)).1 qc22 (hR := ⟨Nat.le_of_ble_eq_true rfl, Nat.le_of_ble_eq_true rfl⟩) rfl rfl (Nat.le_of_ble_eq_true rfl) dX2_follow_61 ⟨Nat.zero_le _, Nat.zero_le _⟩ (fun σ5 => ?_)
    refine g_goto (tgt := 148) C dX2_follow_64 (by decide) ?_
    exact g_retv C hr dX2_follow_148
  · refine gX_if (fun h6 => ?_) (fun h6 => ?_)
    · refine g_tswIn (tgt := 67) C dX2_follow_11 (1) (by rw [h6]; decide) (by decide) (by decide) rfl (by decide) ?_
      refine g_aload C 0 dX2_follow_67 rfl ?_
      refine g_iload_n C 4 dX2_follow_69 rfl rfl ?_
      refine g_putIN C o2 2 gcl4 gft4 (gSd (gOf_side gc19 h3)).1 (by decide) ((gSd (gOf_side gc19 h3)).2.2.2.1 2 (by decide)) rfl rfl qn102 dX2_follow_70 (fun σ7 => ?_)
      refine g_goto (tgt := 148) C dX2_follow_73 (by decide) ?_
      exact g_retv C hr dX2_follow_148
    · refine gX_if (fun h8 => ?_) (fun h8 => ?_)
      · refine g_tswIn (tgt := 76) C dX2_follow_11 (2) (by rw [h8]; decide) (by decide) (by decide) rfl (by decide) ?_
        refine g_aload_n C 1 dX2_follow_76 rfl rfl ?_
        refine g_getR (o' := 19) C 18 0 gcl2 rfl (by decide) rfl qw76 dX2_follow_77 ?_
        refine g_iload_n C 3 dX2_follow_80 rfl rfl ?_
        refine g_callvv (As := [.int p2]) (n := 1) C (c_Court_startSet l hl D cI cJ ad 19 p2 gc19) ⟨rfl, rfl⟩ gcl0 rfl qc23 (hR := ⟨Nat.le_of_ble_eq_true rfl, Nat.le_of_ble_eq_true rfl⟩) rfl rfl (Nat.le_of_ble_eq_true rfl) dX2_follow_81 ⟨Nat.zero_le _, Nat.zero_le _⟩ (fun σ9 => ?_)
        refine g_goto (tgt := 148) C dX2_follow_84 (by decide) ?_
        exact g_retv C hr dX2_follow_148
      · refine gX_if (fun h10 => ?_) (fun h10 => ?_)
        · refine g_tswIn (tgt := 87) C dX2_follow_11 (3) (by rw [h10]; decide) (by decide) (by decide) rfl (by decide) ?_
          refine g_aload_n C 1 dX2_follow_87 rfl rfl ?_
          refine g_getR (o' := 19) C 18 0 gcl2 rfl (by decide) rfl qw76 dX2_follow_88 ?_
          refine g_iload_n C 4 dX2_follow_91 rfl rfl ?_
          refine g_callvi (As := [.int p3]) (n := 1) C (c_Court_takeService l hl D cI cJ ad 19 p3 gc19) ⟨rfl, rfl⟩ gcl0 rfl qc24 (hR := ⟨Nat.le_of_ble_eq_true rfl, Nat.le_of_ble_eq_true rfl⟩) rfl rfl (Nat.le_of_ble_eq_true rfl) dX2_follow_92 ⟨Nat.zero_le _, Nat.zero_le _⟩ (fun r12 σ11 => ?_)
          refine g_pop C dX2_follow_95 rfl ?_
          refine g_goto (tgt := 148) C dX2_follow_96 (by decide) ?_
          exact g_retv C hr dX2_follow_148
        · refine gX_if (fun h13 => ?_) (fun h13 => ?_)
          · refine g_tswIn (tgt := 99) C dX2_follow_11 (4) (by rw [h13]; decide) (by decide) (by decide) rfl (by decide) ?_
            refine g_aload_n C 1 dX2_follow_99 rfl rfl ?_
            refine g_iconst (v := (1 : Int32)) C dX2_follow_100 (by decide) ?_
            refine g_iload_n C 3 dX2_follow_101 rfl rfl ?_
            refine g_isub C dX2_follow_102 ?_
            refine g_callvv (As := [.int ((1 : Int32) - p2)]) (n := 1) C (c_Reader_countLost l hl D cI cJ ad ((1 : Int32) - p2)) ⟨rfl, rfl⟩ gcl2 rfl qc25 (hR := ⟨Nat.le_of_ble_eq_true rfl, Nat.le_of_ble_eq_true rfl⟩) rfl rfl (Nat.le_of_ble_eq_true rfl) dX2_follow_103 ⟨Nat.zero_le _, Nat.zero_le _⟩ (fun σ14 => ?_)
            refine g_aload_n C 1 dX2_follow_106 rfl rfl ?_
            refine g_getR (o' := 19) C 18 0 gcl2 rfl (by decide) rfl qw76 dX2_follow_107 ?_
            refine g_iload_n C 3 dX2_follow_110 rfl rfl ?_
            refine g_callvv (As := [.int p2]) (n := 1) C (c_Court_givePoint l hl D cI cJ ad 19 p2 gc19) ⟨rfl, rfl⟩ gcl0 rfl qc26 (hR := ⟨Nat.le_of_ble_eq_true rfl, Nat.le_of_ble_eq_true rfl⟩) rfl rfl (Nat.le_of_ble_eq_true rfl) dX2_follow_111 ⟨Nat.zero_le _, Nat.zero_le _⟩ (fun σ15 => ?_)
            refine g_goto (tgt := 148) C dX2_follow_114 (by decide) ?_
            exact g_retv C hr dX2_follow_148
          · refine gX_if (fun h16 => ?_) (fun h16 => ?_)
            · refine g_tswIn (tgt := 117) C dX2_follow_11 (5) (by rw [h16]; decide) (by decide) (by decide) rfl (by decide) ?_
              refine g_aload_n C 1 dX2_follow_117 rfl rfl ?_
              refine g_getR (o' := 19) C 18 0 gcl2 rfl (by decide) rfl qw76 dX2_follow_118 ?_
              refine g_callvi (As := []) (n := 0) C (c_Court_takeBack l hl D cI cJ ad 19 gc19) ⟨rfl, rfl⟩ gcl0 rfl qc27 (hR := ⟨Nat.le_of_ble_eq_true rfl, Nat.le_of_ble_eq_true rfl⟩) rfl rfl (Nat.le_of_ble_eq_true rfl) dX2_follow_121 ⟨Nat.zero_le _, Nat.zero_le _⟩ (fun r18 σ17 => ?_)
              refine g_pop C dX2_follow_124 rfl ?_
              refine g_goto (tgt := 148) C dX2_follow_125 (by decide) ?_
              exact g_retv C hr dX2_follow_148
            · refine gX_if (fun h19 => ?_) (fun h19 => ?_)
              · refine g_tswIn (tgt := 128) C dX2_follow_11 (6) (by rw [h19]; decide) (by decide) (by decide) rfl (by decide) ?_
                refine g_aload C 0 dX2_follow_128 rfl ?_
                refine g_iload_n C 4 dX2_follow_130 rfl rfl ?_
                refine g_callvv (As := [.int p3]) (n := 1) C (c_Side_swapLibero l hl D cI cJ ad o2 p3 (gOf_side gc19 h3)) ⟨rfl, rfl⟩ gcl4 (gSd (gOf_side gc19 h3)).1 qc28 (hR := ⟨Nat.le_of_ble_eq_true rfl, Nat.le_of_ble_eq_true rfl⟩) rfl rfl (Nat.le_of_ble_eq_true rfl) dX2_follow_131 ⟨Nat.zero_le _, Nat.zero_le _⟩ (fun σ20 => ?_)
                refine g_goto (tgt := 148) C dX2_follow_134 (by decide) ?_
                exact g_retv C hr dX2_follow_148
              · refine gX_if (fun h21 => ?_) (fun h21 => ?_)
                · refine g_tswIn (tgt := 137) C dX2_follow_11 (7) (by rw [h21]; decide) (by decide) (by decide) rfl (by decide) ?_
                  refine g_aload C 0 dX2_follow_137 rfl ?_
                  refine g_iload_n C 4 dX2_follow_139 rfl rfl ?_
                  refine g_iload C 5 dX2_follow_140 rfl ?_
                  refine g_callvv (As := [.int p3, .int p4]) (n := 2) C (c_Side_swapByPair l hl D cI cJ ad o2 p3 p4 (gOf_side gc19 h3)) ⟨rfl, rfl⟩ gcl4 (gSd (gOf_side gc19 h3)).1 qc29 (hR := ⟨Nat.le_of_ble_eq_true rfl, Nat.le_of_ble_eq_true rfl⟩) rfl rfl (Nat.le_of_ble_eq_true rfl) dX2_follow_142 ⟨Nat.zero_le _, Nat.zero_le _⟩ (fun σ22 => ?_)
                  refine g_goto (tgt := 148) C dX2_follow_145 (by decide) ?_
                  exact g_retv C hr dX2_follow_148
                · refine g_tswOut (tgt := 148) C dX2_follow_11 (by have t0 := lv_neT h4 (show ((0 : Int32)).toInt = 0 by decide); have t1 := lv_neT h6 (show ((1 : Int32)).toInt = 1 by decide); have t2 := lv_neT h8 (show ((2 : Int32)).toInt = 2 by decide); have t3 := lv_neT h10 (show ((3 : Int32)).toInt = 3 by decide); have t4 := lv_neT h13 (show ((4 : Int32)).toInt = 4 by decide); have t5 := lv_neT h16 (show ((5 : Int32)).toInt = 5 by decide); have t6 := lv_neT h19 (show ((6 : Int32)).toInt = 6 by decide); have t7 := lv_neT h21 (show ((7 : Int32)).toInt = 7 by decide); omega) (by decide) ?_
                  exact g_retv C hr dX2_follow_148

def F_Reader_read_B6  : Nat → Int32 → gSt → Option gSt
  | 0, _, _ => none
  | n + 1, l2, σ => if (σ 16 1) ≤ l2 then (some σ) else (gbi (F_Sheet_signAt l2 σ) fun r3 σ2 => gbi (F_Sheet_kindOf r3 σ2) fun r5 σ4 => gbi (F_Sheet_teamOf r3 σ4) fun r7 σ6 => gbi (F_Sheet_oneOf r3 σ6) fun r9 σ8 => gbi (F_Sheet_twoOf r3 σ8) fun r11 σ10 => gbv (F_Reader_follow r5 r7 r9 r11 σ10) fun σ12 => F_Reader_read_B6 n (l2 + (1 : Int32)) σ12)

def F_Reader_read  (σ : gSt) : Option gSt := gbv (F_Reader_clear σ) fun σ1 => F_Reader_read_B6 1000 (0 : Int32) σ1

set_option maxHeartbeats 4000000 in
set_option maxRecDepth 100000 in
theorem b_Reader_read_B6 {p : Program} {l : Launch} {e : Env} {s : State} {m : MethodId} {args : Array Value} {below : List Frame} {meth : Method} {c : Code} {D : va_G} {cI cJ : ClassId} {ad : Nat → Nat} {sz : Nat} {σ' : gSt} (C : gC p s m args meth c D cI cJ ad (gA ad sz) cX2_read 4 RX2) (hr : meth.sig.returnType = none) (hl : l.stackTraces = false) : ∀ (n : Nat) (l2 : Int32) (σ : gSt), gX (F_Reader_read_B6 n l2 σ) σ' (gG p l e { frames := 6, cells := 0, slots := 0, locals := 135 } s m args below meth c D cI cJ ad (gA ad sz) 4 0 0 (MQ below (va_Qv (fun (_ : Unit) => True) (fun _ t => va_P D vwCl (gw cI cJ ad σ') t.heap) (gA ad sz)) args s 0 0 (gA ad sz)) σ 6 [(0, .ref (ad 18)), (1, .ref (ad 16)), (2, .int l2)] []) := by
  intro n
  induction n with
  | zero =>
    intro l2 σ
    unfold F_Reader_read_B6
    exact gX_none
  | succ n ih =>
    intro l2 σ
    unfold F_Reader_read_B6
    refine g_iload_n C 2 dX2_read_6 rfl rfl ?_
    refine g_aload_n C 1 dX2_read_7 rfl rfl ?_
    refine g_getIN C 16 1 gcl3 rfl (by decide) rfl qn132 dX2_read_8 ?_
    refine g_icmp_ge (tgt := 46) C dX2_read_11 (by decide) (fun h1 => ?_) (fun h1 => ?_)
    · exact g_retv C hr dX2_read_46
    · refine g_aload_n C 1 dX2_read_14 rfl rfl ?_
      refine g_iload_n C 2 dX2_read_15 rfl rfl ?_
      refine g_callvi (As := [.int l2]) (n := 1) C (c_Sheet_signAt l hl D cI cJ ad l2) ⟨rfl, rfl⟩ gcl3 rfl qc31 (hR := ⟨Nat.le_of_ble_eq_true rfl, Nat.le_of_ble_eq_true rfl⟩) rfl rfl (Nat.le_of_ble_eq_true rfl) dX2_read_16 ⟨Nat.zero_le _, Nat.zero_le _⟩ (fun r3 σ2 => ?_)
      refine g_istore_n (L' := [(3, .int r3), (0, .ref (ad 18)), (1, .ref (ad 16)), (2, .int l2)]) C dX2_read_19 rfl (by decide) rfl ?_
      refine g_aload_n C 1 dX2_read_20 rfl rfl ?_
      refine g_iload_n C 0 dX2_read_21 rfl rfl ?_
      refine g_callsi (As := [.int r3]) (n := 1) C (c_Sheet_kindOf l hl D cI cJ ad r3) ⟨rfl, rfl⟩ qc32 (hR := ⟨Nat.le_of_ble_eq_true rfl, Nat.le_of_ble_eq_true rfl⟩) rfl rfl (Nat.le_of_ble_eq_true rfl) dX2_read_22 ⟨Nat.zero_le _, Nat.zero_le _⟩ (fun r5 σ4 => ?_)
      refine g_iload_n C 0 dX2_read_25 rfl rfl ?_
      refine g_callsi (As := [.int r3]) (n := 1) C (c_Sheet_teamOf l hl D cI cJ ad r3) ⟨rfl, rfl⟩ qc33 (hR := ⟨Nat.le_of_ble_eq_true rfl, Nat.le_of_ble_eq_true rfl⟩) rfl rfl (Nat.le_of_ble_eq_true rfl) dX2_read_26 ⟨Nat.zero_le _, Nat.zero_le _⟩ (fun r7 σ6 => ?_)
      refine g_iload_n C 0 dX2_read_29 rfl rfl ?_
      refine g_callsi (As := [.int r3]) (n := 1) C (c_Sheet_oneOf l hl D cI cJ ad r3) ⟨rfl, rfl⟩ qc34 (hR := ⟨Nat.le_of_ble_eq_true rfl, Nat.le_of_ble_eq_true rfl⟩) rfl rfl (Nat.le_of_ble_eq_true rfl) dX2_read_30 ⟨Nat.zero_le _, Nat.zero_le _⟩ (fun r9 σ8 => ?_)
      refine g_iload_n C 0 dX2_read_33 rfl rfl ?_
      refine g_callsi (As := [.int r3]) (n := 1) C (c_Sheet_twoOf l hl D cI cJ ad r3) ⟨rfl, rfl⟩ qc35 (hR := ⟨Nat.le_of_ble_eq_true rfl, Nat.le_of_ble_eq_true rfl⟩) rfl rfl (Nat.le_of_ble_eq_true rfl) dX2_read_34 ⟨Nat.zero_le _, Nat.zero_le _⟩ (fun r11 σ10 => ?_)
      refine g_callvv (As := [.int r5, .int r7, .int r9, .int r11]) (n := 4) C (c_Reader_follow l hl D cI cJ ad r5 r7 r9 r11) ⟨rfl, rfl⟩ gcl2 rfl qc36 (hR := ⟨Nat.le_of_ble_eq_true rfl, Nat.le_of_ble_eq_true rfl⟩) rfl rfl (Nat.le_of_ble_eq_true rfl) dX2_read_37 ⟨Nat.zero_le _, Nat.zero_le _⟩ (fun σ12 => ?_)
      refine g_iinc (v := (l2 + (1 : Int32))) (L' := [(2, .int (l2 + (1 : Int32))), (3, .int r3), (0, .ref (ad 18)), (1, .ref (ad 16))]) C 3 dX2_read_40 rfl (by rfl) (by decide) rfl ?_
      refine g_goto (tgt := 6) C dX2_read_43 (by decide) ?_
      refine g_loc [2, 3, 0] rfl ?_
      exact ih (l2 + (1 : Int32)) σ12

set_option maxHeartbeats 4000000 in
set_option maxRecDepth 100000 in
theorem c_Reader_read (l : Launch) (hl : l.stackTraces = false) (D : va_G) (cI cJ : ClassId) (ad : Nat → Nat) : gMv l D cI cJ ad yX2_read cX2_read 4 none { frames := 6, cells := 0, slots := 0, locals := 135 } [.ref (ad 18), .ref (ad 16)] (F_Reader_read) := by
  refine gStartV (L0 := [(0, .ref (ad 18)), (1, .ref (ad 16))]) RX2 (by decide) rfl rfl (Nat.le_of_ble_eq_true rfl) ?_
  intro p e s m args below meth c sz σ σ' C hr
  unfold F_Reader_read
  refine g_aload_n C 0 dX2_read_0 rfl rfl ?_
  refine g_callvv (As := []) (n := 0) C (c_Reader_clear l hl D cI cJ ad) ⟨rfl, rfl⟩ gcl2 rfl qc30 (hR := ⟨Nat.le_of_ble_eq_true rfl, Nat.le_of_ble_eq_true rfl⟩) rfl rfl (Nat.le_of_ble_eq_true rfl) dX2_read_1 ⟨Nat.zero_le _, Nat.zero_le _⟩ (fun σ1 => ?_)
  refine g_iconst (v := (0 : Int32)) C dX2_read_4 (by decide) ?_
  refine g_istore_n (L' := [(2, .int (0 : Int32)), (0, .ref (ad 18)), (1, .ref (ad 16))]) C dX2_read_5 rfl (by decide) rfl ?_
  refine g_loc [1, 2, 0] rfl ?_
  exact b_Reader_read_B6 C hr hl 1000 (0 : Int32) σ1

def F_Sheet_write (p1 : Int32) (p2 : Int32) (p3 : Int32) (p4 : Int32) (σ : gSt) : Option gSt := if (640 : Int32) ≤ (σ 16 1) then (some σ) else (gbv (F_Game_putIn 17 (σ 16 1) ((((p1 <<< ((11 : Int32) &&& 31)) ||| (p2 <<< ((10 : Int32) &&& 31))) ||| (p3 <<< ((5 : Int32) &&& 31))) ||| p4) σ) fun σ2 => gl (gup σ2 16 1 ((σ2 16 1) + (1 : Int32))) fun σ3 => some σ3)

set_option maxHeartbeats 4000000 in
set_option maxRecDepth 100000 in
theorem c_Sheet_write (l : Launch) (hl : l.stackTraces = false) (D : va_G) (cI cJ : ClassId) (ad : Nat → Nat) (p1 : Int32) (p2 : Int32) (p3 : Int32) (p4 : Int32) : gMv l D cI cJ ad yX3_write cX3_write 5 none { frames := 1, cells := 0, slots := 0, locals := 22 } [.ref (ad 16), .int p1, .int p2, .int p3, .int p4] (F_Sheet_write p1 p2 p3 p4) := by
  refine gStartV (L0 := [(0, .ref (ad 16)), (1, .int p1), (2, .int p2), (3, .int p3), (4, .int p4)]) RX3 (by decide) rfl rfl (Nat.le_of_ble_eq_true rfl) ?_
  intro p e s m args below meth c sz σ σ' C hr
  unfold F_Sheet_write
  refine g_aload_n C 0 dX3_write_0 rfl rfl ?_
  refine g_getI C 16 1 gcl3 rfl (by decide) rfl qw158 dX3_write_1 ?_
  refine g_sipush (v := (640 : Int32)) C dX3_write_4 (by decide) ?_
  refine g_icmp_ge (tgt := 47) C dX3_write_7 (by decide) (fun h1 => ?_) (fun h1 => ?_)
  · exact g_retv C hr dX3_write_47
  · refine g_aload_n C 0 dX3_write_10 rfl rfl ?_
    refine g_getR (o' := 17) C 16 0 gcl3 rfl (by decide) rfl qw83 dX3_write_11 ?_
    refine g_aload_n C 0 dX3_write_14 rfl rfl ?_
    refine g_getI C 16 1 gcl3 rfl (by decide) rfl qw158 dX3_write_15 ?_
    refine g_iload_n C 1 dX3_write_18 rfl rfl ?_
    refine g_bipush (v := (11 : Int32)) C dX3_write_19 (by decide) ?_
    refine g_ishl C dX3_write_21 ?_
    refine g_iload_n C 2 dX3_write_22 rfl rfl ?_
    refine g_bipush (v := (10 : Int32)) C dX3_write_23 (by decide) ?_
    refine g_ishl C dX3_write_25 ?_
    refine g_ior C dX3_write_26 ?_
    refine g_iload_n C 3 dX3_write_27 rfl rfl ?_
    refine g_iconst (v := (5 : Int32)) C dX3_write_28 (by decide) ?_
    refine g_ishl C dX3_write_29 ?_
    refine g_ior C dX3_write_30 ?_
    refine g_iload C 4 dX3_write_31 rfl ?_
    refine g_ior C dX3_write_33 ?_
    refine g_callnv (As := [.ref (ad 17), .int (σ 16 1), .int ((((p1 <<< ((11 : Int32) &&& 31)) ||| (p2 <<< ((10 : Int32) &&& 31))) ||| (p3 <<< ((5 : Int32) &&& 31))) ||| p4)]) (n := 3) C (c_Game_putIn l hl D cI cJ ad 17 (σ 16 1) ((((p1 <<< ((11 : Int32) &&& 31)) ||| (p2 <<< ((10 : Int32) &&& 31))) ||| (p3 <<< ((5 : Int32) &&& 31))) ||| p4) rfl) ⟨rfl, rfl⟩ qc37 (hR := ⟨Nat.le_of_ble_eq_true rfl, Nat.le_of_ble_eq_true rfl⟩) rfl rfl (Nat.le_of_ble_eq_true rfl) dX3_write_34 ⟨Nat.zero_le _, Nat.zero_le _⟩ (fun σ2 => ?_)
    refine g_aload_n C 0 dX3_write_37 rfl rfl ?_
    refine g_dup C dX3_write_38 rfl ?_
    refine g_getI C 16 1 gcl3 rfl (by decide) rfl qw158 dX3_write_39 ?_
    refine g_iconst (v := (1 : Int32)) C dX3_write_42 (by decide) ?_
    refine g_iadd C dX3_write_43 ?_
    refine g_putI C 16 1 gcl3 gft3 rfl (by decide) rfl rfl rfl qw158 dX3_write_44 (fun σ3 => ?_)
    exact g_retv C hr dX3_write_47

def F_Sheet_cutTo (p1 : Int32) (σ : gSt) : Option gSt := gl (gup σ 16 1 p1) fun σ1 => some σ1

set_option maxHeartbeats 4000000 in
set_option maxRecDepth 100000 in
theorem c_Sheet_cutTo (l : Launch) (hl : l.stackTraces = false) (D : va_G) (cI cJ : ClassId) (ad : Nat → Nat) (p1 : Int32) : gMv l D cI cJ ad yX3_cutTo cX3_cutTo 2 none { frames := 0, cells := 0, slots := 0, locals := 0 } [.ref (ad 16), .int p1] (F_Sheet_cutTo p1) := by
  refine gStartV (L0 := [(0, .ref (ad 16)), (1, .int p1)]) RX3 (by decide) rfl rfl (Nat.le_of_ble_eq_true rfl) ?_
  intro p e s m args below meth c sz σ σ' C hr
  unfold F_Sheet_cutTo
  refine g_aload_n C 0 dX3_cutTo_0 rfl rfl ?_
  refine g_iload_n C 1 dX3_cutTo_1 rfl rfl ?_
  refine g_putI C 16 1 gcl3 gft3 rfl (by decide) rfl rfl rfl qw158 dX3_cutTo_2 (fun σ1 => ?_)
  exact g_retv C hr dX3_cutTo_5
end
section
def F_Game_checkTeam_B9 (p1 : Int32) (σ : gSt) : Option (Int32 × Int32 × gSt) := some ((1 : Int32), (0 : Int32), σ)

def F_Game_checkTeam (p1 : Int32) (σ : gSt) : Option (Int32 × Int32 × gSt) := if p1 < (0 : Int32) then (F_Game_checkTeam_B9 p1 σ) else (if p1 ≤ (1 : Int32) then (some ((0 : Int32), (0 : Int32), σ)) else (F_Game_checkTeam_B9 p1 σ))

set_option maxHeartbeats 4000000 in
set_option maxRecDepth 100000 in
theorem b_Game_checkTeam_B9 {p : Program} {l : Launch} {e : Env} {s : State} {m : MethodId} {args : Array Value} {below : List Frame} {meth : Method} {c : Code} {D : va_G} {cI cJ : ClassId} {ad : Nat → Nat} {sz : Nat} {q : Int32 × Int32 × gSt} (C : gC p s m args meth c D cI cJ ad (gA ad sz) cX5_checkTeam 1 RX5) (hr : meth.sig.returnType = none) (hnt : ∀ x ∈ c.exceptionTable.toList, False) (hl : l.stackTraces = false) (p1 : Int32) (σ : gSt) : gX (F_Game_checkTeam_B9 p1 σ) q (gG p l e { frames := 6, cells := 1, slots := 6, locals := 82 } s m args below meth c D cI cJ ad (gA ad sz) 1 0 0 (vz_MQ below (gQv D cI cJ ad (gA ad sz) q) (gXC D cI cJ ad (gA ad sz) q) args s 1 6 (gA ad sz)) σ 9 [] []) := by
  unfold F_Game_checkTeam_B9
  exact g_throw (text := "no such team") (names := ["java/lang/RuntimeException", "java/lang/Exception"]) C hl hnt (1) (by decide) (by decide) (by decide) (by decide) qw164 qw165 (by decide) qt1 dX5_checkTeam_9 dX5_checkTeam_12 dX5_checkTeam_13 dX5_checkTeam_15 dX5_checkTeam_18 (Nat.le_of_ble_eq_true rfl) (Nat.le_of_ble_eq_true rfl) ⟨Nat.le_refl _, Nat.le_refl _⟩

set_option maxHeartbeats 4000000 in
set_option maxRecDepth 100000 in
theorem c_Game_checkTeam (l : Launch) (hl : l.stackTraces = false) (D : va_G) (cI cJ : ClassId) (ad : Nat → Nat) (p1 : Int32) : gMxv l D cI cJ ad yX5_checkTeam cX5_checkTeam 1 none { frames := 6, cells := 1, slots := 6, locals := 82 } [.int p1] (F_Game_checkTeam p1) := by
  refine gStartXv (L0 := [(0, .int p1)]) RX5 (by decide) rfl rfl (Nat.le_of_ble_eq_true rfl) ?_
  intro p e s m args below meth c sz σ q C hr hnt
  unfold F_Game_checkTeam
  refine g_iload_n C 0 dX5_checkTeam_0 rfl rfl ?_
  refine g_if_lt (tgt := 9) C dX5_checkTeam_1 (by decide) (fun h1 => ?_) (fun h1 => ?_)
  · refine g_loc [] rfl ?_
    exact b_Game_checkTeam_B9 C hr hnt hl p1 σ
  · refine g_iload_n C 0 dX5_checkTeam_4 rfl rfl ?_
    refine g_iconst (v := (1 : Int32)) C dX5_checkTeam_5 (by decide) ?_
    refine g_icmp_le (tgt := 19) C dX5_checkTeam_6 (by decide) (fun h2 => ?_) (fun h2 => ?_)
    · exact g_xretv C hr dX5_checkTeam_19
    · refine g_loc [] rfl ?_
      exact b_Game_checkTeam_B9 C hr hnt hl p1 σ

def F_Game_checkPlace_B11 (p1 : Int32) (σ : gSt) : Option (Int32 × Int32 × gSt) := some ((1 : Int32), (0 : Int32), σ)

def F_Game_checkPlace (p1 : Int32) (σ : gSt) : Option (Int32 × Int32 × gSt) := if p1 < (1 : Int32) then (F_Game_checkPlace_B11 p1 σ) else (if p1 ≤ (6 : Int32) then (some ((0 : Int32), (0 : Int32), σ)) else (F_Game_checkPlace_B11 p1 σ))

set_option maxHeartbeats 4000000 in
set_option maxRecDepth 100000 in
theorem b_Game_checkPlace_B11 {p : Program} {l : Launch} {e : Env} {s : State} {m : MethodId} {args : Array Value} {below : List Frame} {meth : Method} {c : Code} {D : va_G} {cI cJ : ClassId} {ad : Nat → Nat} {sz : Nat} {q : Int32 × Int32 × gSt} (C : gC p s m args meth c D cI cJ ad (gA ad sz) cX5_checkPlace 1 RX5) (hr : meth.sig.returnType = none) (hnt : ∀ x ∈ c.exceptionTable.toList, False) (hl : l.stackTraces = false) (p1 : Int32) (σ : gSt) : gX (F_Game_checkPlace_B11 p1 σ) q (gG p l e { frames := 6, cells := 1, slots := 6, locals := 82 } s m args below meth c D cI cJ ad (gA ad sz) 1 0 0 (vz_MQ below (gQv D cI cJ ad (gA ad sz) q) (gXC D cI cJ ad (gA ad sz) q) args s 1 6 (gA ad sz)) σ 11 [] []) := by
  unfold F_Game_checkPlace_B11
  exact g_throw (text := "no such place") (names := ["java/lang/RuntimeException", "java/lang/Exception"]) C hl hnt (1) (by decide) (by decide) (by decide) (by decide) qw164 qw165 (by decide) qt1 dX5_checkPlace_11 dX5_checkPlace_14 dX5_checkPlace_15 dX5_checkPlace_17 dX5_checkPlace_20 (Nat.le_of_ble_eq_true rfl) (Nat.le_of_ble_eq_true rfl) ⟨Nat.le_refl _, Nat.le_refl _⟩

set_option maxHeartbeats 4000000 in
set_option maxRecDepth 100000 in
theorem c_Game_checkPlace (l : Launch) (hl : l.stackTraces = false) (D : va_G) (cI cJ : ClassId) (ad : Nat → Nat) (p1 : Int32) : gMxv l D cI cJ ad yX5_checkPlace cX5_checkPlace 1 none { frames := 6, cells := 1, slots := 6, locals := 82 } [.int p1] (F_Game_checkPlace p1) := by
  refine gStartXv (L0 := [(0, .int p1)]) RX5 (by decide) rfl rfl (Nat.le_of_ble_eq_true rfl) ?_
  intro p e s m args below meth c sz σ q C hr hnt
  unfold F_Game_checkPlace
  refine g_iload_n C 0 dX5_checkPlace_0 rfl rfl ?_
  refine g_iconst (v := (1 : Int32)) C dX5_checkPlace_1 (by decide) ?_
  refine g_icmp_lt (tgt := 11) C dX5_checkPlace_2 (by decide) (fun h1 => ?_) (fun h1 => ?_)
  · refine g_loc [] rfl ?_
    exact b_Game_checkPlace_B11 C hr hnt hl p1 σ
  · refine g_iload_n C 0 dX5_checkPlace_5 rfl rfl ?_
    refine g_bipush (v := (6 : Int32)) C dX5_checkPlace_6 (by decide) ?_
    refine g_icmp_le (tgt := 21) C dX5_checkPlace_8 (by decide) (fun h2 => ?_) (fun h2 => ?_)
    · exact g_xretv C hr dX5_checkPlace_21
    · refine g_loc [] rfl ?_
      exact b_Game_checkPlace_B11 C hr hnt hl p1 σ

def F_Game_checkShirt_B11 (p1 : Int32) (σ : gSt) : Option (Int32 × Int32 × gSt) := some ((1 : Int32), (0 : Int32), σ)

def F_Game_checkShirt (p1 : Int32) (σ : gSt) : Option (Int32 × Int32 × gSt) := if p1 < (1 : Int32) then (F_Game_checkShirt_B11 p1 σ) else (if p1 ≤ (20 : Int32) then (some ((0 : Int32), (0 : Int32), σ)) else (F_Game_checkShirt_B11 p1 σ))

set_option maxHeartbeats 4000000 in
set_option maxRecDepth 100000 in
theorem b_Game_checkShirt_B11 {p : Program} {l : Launch} {e : Env} {s : State} {m : MethodId} {args : Array Value} {below : List Frame} {meth : Method} {c : Code} {D : va_G} {cI cJ : ClassId} {ad : Nat → Nat} {sz : Nat} {q : Int32 × Int32 × gSt} (C : gC p s m args meth c D cI cJ ad (gA ad sz) cX5_checkShirt 1 RX5) (hr : meth.sig.returnType = none) (hnt : ∀ x ∈ c.exceptionTable.toList, False) (hl : l.stackTraces = false) (p1 : Int32) (σ : gSt) : gX (F_Game_checkShirt_B11 p1 σ) q (gG p l e { frames := 6, cells := 1, slots := 6, locals := 82 } s m args below meth c D cI cJ ad (gA ad sz) 1 0 0 (vz_MQ below (gQv D cI cJ ad (gA ad sz) q) (gXC D cI cJ ad (gA ad sz) q) args s 1 6 (gA ad sz)) σ 11 [] []) := by
  unfold F_Game_checkShirt_B11
  exact g_throw (text := "no such shirt") (names := ["java/lang/RuntimeException", "java/lang/Exception"]) C hl hnt (1) (by decide) (by decide) (by decide) (by decide) qw164 qw165 (by decide) qt1 dX5_checkShirt_11 dX5_checkShirt_14 dX5_checkShirt_15 dX5_checkShirt_17 dX5_checkShirt_20 (Nat.le_of_ble_eq_true rfl) (Nat.le_of_ble_eq_true rfl) ⟨Nat.le_refl _, Nat.le_refl _⟩

set_option maxHeartbeats 4000000 in
set_option maxRecDepth 100000 in
theorem c_Game_checkShirt (l : Launch) (hl : l.stackTraces = false) (D : va_G) (cI cJ : ClassId) (ad : Nat → Nat) (p1 : Int32) : gMxv l D cI cJ ad yX5_checkShirt cX5_checkShirt 1 none { frames := 6, cells := 1, slots := 6, locals := 82 } [.int p1] (F_Game_checkShirt p1) := by
  refine gStartXv (L0 := [(0, .int p1)]) RX5 (by decide) rfl rfl (Nat.le_of_ble_eq_true rfl) ?_
  intro p e s m args below meth c sz σ q C hr hnt
  unfold F_Game_checkShirt
  refine g_iload_n C 0 dX5_checkShirt_0 rfl rfl ?_
  refine g_iconst (v := (1 : Int32)) C dX5_checkShirt_1 (by decide) ?_
  refine g_icmp_lt (tgt := 11) C dX5_checkShirt_2 (by decide) (fun h1 => ?_) (fun h1 => ?_)
  · refine g_loc [] rfl ?_
    exact b_Game_checkShirt_B11 C hr hnt hl p1 σ
  · refine g_iload_n C 0 dX5_checkShirt_5 rfl rfl ?_
    refine g_bipush (v := (20 : Int32)) C dX5_checkShirt_6 (by decide) ?_
    refine g_icmp_le (tgt := 21) C dX5_checkShirt_8 (by decide) (fun h2 => ?_) (fun h2 => ?_)
    · exact g_xretv C hr dX5_checkShirt_21
    · refine g_loc [] rfl ?_
      exact b_Game_checkShirt_B11 C hr hnt hl p1 σ

def F_Game_checkAheadOfSet_B20  (σ : gSt) : Option (Int32 × Int32 × gSt) := some ((3 : Int32), (0 : Int32), σ)

def F_Game_checkAheadOfSet  (σ : gSt) : Option (Int32 × Int32 × gSt) := gbi (F_Court_isSetOn 1 σ) fun r2 σ1 => if r2 = (0 : Int32) then (gbi (F_Court_isMatchOver 1 σ1) fun r5 σ4 => if r5 = (0 : Int32) then (some ((0 : Int32), (0 : Int32), σ4)) else (F_Game_checkAheadOfSet_B20 σ4)) else (F_Game_checkAheadOfSet_B20 σ1)

set_option maxHeartbeats 4000000 in
set_option maxRecDepth 100000 in
theorem b_Game_checkAheadOfSet_B20 {p : Program} {l : Launch} {e : Env} {s : State} {m : MethodId} {args : Array Value} {below : List Frame} {meth : Method} {c : Code} {D : va_G} {cI cJ : ClassId} {ad : Nat → Nat} {sz : Nat} {q : Int32 × Int32 × gSt} (C : gC p s m args meth c D cI cJ ad (gA ad sz) cX5_checkAheadOfSet 1 RX5) (hr : meth.sig.returnType = none) (hnt : ∀ x ∈ c.exceptionTable.toList, False) (hl : l.stackTraces = false) (σ : gSt) : gX (F_Game_checkAheadOfSet_B20 σ) q (gG p l e { frames := 6, cells := 1, slots := 6, locals := 82 } s m args below meth c D cI cJ ad (gA ad sz) 1 0 0 (vz_MQ below (gQv D cI cJ ad (gA ad sz) q) (gXC D cI cJ ad (gA ad sz) q) args s 1 6 (gA ad sz)) σ 20 [] []) := by
  unfold F_Game_checkAheadOfSet_B20
  exact g_throw (text := "a set goes on, or the match is over") (names := ["java/lang/RuntimeException", "java/lang/Exception"]) C hl hnt (3) (by decide) (by decide) (by decide) (by decide) qw175 qw176 (by decide) qt2 dX5_checkAheadOfSet_20 dX5_checkAheadOfSet_23 dX5_checkAheadOfSet_24 dX5_checkAheadOfSet_26 dX5_checkAheadOfSet_29 (Nat.le_of_ble_eq_true rfl) (Nat.le_of_ble_eq_true rfl) ⟨Nat.le_refl _, Nat.le_refl _⟩

set_option maxHeartbeats 4000000 in
set_option maxRecDepth 100000 in
theorem c_Game_checkAheadOfSet (l : Launch) (hl : l.stackTraces = false) (D : va_G) (cI cJ : ClassId) (ad : Nat → Nat) : gMxv l D cI cJ ad yX5_checkAheadOfSet cX5_checkAheadOfSet 1 none { frames := 6, cells := 1, slots := 6, locals := 82 } [.ref (ad 0)] (F_Game_checkAheadOfSet) := by
  refine gStartXv (L0 := [(0, .ref (ad 0))]) RX5 (by decide) rfl rfl (Nat.le_of_ble_eq_true rfl) ?_
  intro p e s m args below meth c sz σ q C hr hnt
  unfold F_Game_checkAheadOfSet
  refine g_aload_n C 0 dX5_checkAheadOfSet_0 rfl rfl ?_
  refine g_getR (o' := 1) C 0 0 gcl5 rfl (by decide) rfl qw166 dX5_checkAheadOfSet_1 ?_
  refine g_callvi (As := []) (n := 0) C (c_Court_isSetOn l hl D cI cJ ad 1 gc1) ⟨rfl, rfl⟩ gcl0 rfl qc39 (hR := ⟨Nat.le_of_ble_eq_true rfl, Nat.le_of_ble_eq_true rfl⟩) rfl rfl (Nat.le_of_ble_eq_true rfl) dX5_checkAheadOfSet_4 ⟨Nat.zero_le _, Nat.zero_le _⟩ (fun r2 σ1 => ?_)
  refine g_if_ne (tgt := 20) C dX5_checkAheadOfSet_7 (by decide) (fun h3 => ?_) (fun h3 => ?_)
  · refine g_aload_n C 0 dX5_checkAheadOfSet_10 rfl rfl ?_
    refine g_getR (o' := 1) C 0 0 gcl5 rfl (by decide) rfl qw166 dX5_checkAheadOfSet_11 ?_
    refine g_callvi (As := []) (n := 0) C (c_Court_isMatchOver l hl D cI cJ ad 1 gc1) ⟨rfl, rfl⟩ gcl0 rfl qc40 (hR := ⟨Nat.le_of_ble_eq_true rfl, Nat.le_of_ble_eq_true rfl⟩) rfl rfl (Nat.le_of_ble_eq_true rfl) dX5_checkAheadOfSet_14 ⟨Nat.zero_le _, Nat.zero_le _⟩ (fun r5 σ4 => ?_)
    refine g_if_eq (tgt := 30) C dX5_checkAheadOfSet_17 (by decide) (fun h6 => ?_) (fun h6 => ?_)
    · exact g_xretv C hr dX5_checkAheadOfSet_30
    · refine g_loc [] rfl ?_
      exact b_Game_checkAheadOfSet_B20 C hr hnt hl σ4
  · refine g_loc [] rfl ?_
    exact b_Game_checkAheadOfSet_B20 C hr hnt hl σ1

def F_Game_line (p1 : Int32) (p2 : Int32) (p3 : Int32) (σ : gSt) : Option (Int32 × Int32 × gSt) := gbx (F_Game_checkTeam p1 σ) fun σ1 => gbx (F_Game_checkPlace p2 σ1) fun σ2 => gbx (F_Game_checkShirt p3 σ2) fun σ3 => gbx (F_Game_checkAheadOfSet σ3) fun σ4 => gbr (F_Court_sideOf 1 p1 σ4) fun o6 σ5 => gbi (F_Side_shirtIn o6 p2 σ5) fun r9 σ8 => gbv (F_Side_put o6 p2 p3 σ8) fun σ10 => gl (gup σ10 0 6 (-1 : Int32)) fun σ11 => some ((0 : Int32), r9, σ11)

set_option maxHeartbeats 4000000 in
set_option maxRecDepth 100000 in
theorem c_Game_line (l : Launch) (hl : l.stackTraces = false) (D : va_G) (cI cJ : ClassId) (ad : Nat → Nat) (p1 : Int32) (p2 : Int32) (p3 : Int32) : gMxi l D cI cJ ad yX5_line cX5_line 6 (some .int) { frames := 7, cells := 1, slots := 6, locals := 102 } [.ref (ad 0), .int p1, .int p2, .int p3] (F_Game_line p1 p2 p3) := by
  refine gStartXi (L0 := [(0, .ref (ad 0)), (1, .int p1), (2, .int p2), (3, .int p3)]) RX5 (by decide) rfl rfl (Nat.le_of_ble_eq_true rfl) ?_
  intro p e s m args below meth c sz σ q C hr hnt
  unfold F_Game_line
  refine g_iload_n C 1 dX5_line_0 rfl rfl ?_
  refine g_callsx (As := [.int p1]) (n := 1) C hnt (c_Game_checkTeam l hl D cI cJ ad p1) ⟨rfl, rfl⟩ qc41 (hR := ⟨Nat.le_of_ble_eq_true rfl, Nat.le_of_ble_eq_true rfl⟩) rfl rfl (Nat.le_of_ble_eq_true rfl) dX5_line_1 ⟨Nat.le_refl _, Nat.le_refl _⟩ (fun σ1 => ?_)
  refine g_iload_n C 2 dX5_line_4 rfl rfl ?_
  refine g_callsx (As := [.int p2]) (n := 1) C hnt (c_Game_checkPlace l hl D cI cJ ad p2) ⟨rfl, rfl⟩ qc42 (hR := ⟨Nat.le_of_ble_eq_true rfl, Nat.le_of_ble_eq_true rfl⟩) rfl rfl (Nat.le_of_ble_eq_true rfl) dX5_line_5 ⟨Nat.le_refl _, Nat.le_refl _⟩ (fun σ2 => ?_)
  refine g_iload_n C 3 dX5_line_8 rfl rfl ?_
  refine g_callsx (As := [.int p3]) (n := 1) C hnt (c_Game_checkShirt l hl D cI cJ ad p3) ⟨rfl, rfl⟩ qc43 (hR := ⟨Nat.le_of_ble_eq_true rfl, Nat.le_of_ble_eq_true rfl⟩) rfl rfl (Nat.le_of_ble_eq_true rfl) dX5_line_9 ⟨Nat.le_refl _, Nat.le_refl _⟩ (fun σ3 => ?_)
  refine g_aload_n C 0 dX5_line_12 rfl rfl ?_
  refine g_callvx (As := []) (n := 0) C hnt (c_Game_checkAheadOfSet l hl D cI cJ ad) ⟨rfl, rfl⟩ gcl5 rfl qc44 (hR := ⟨Nat.le_of_ble_eq_true rfl, Nat.le_of_ble_eq_true rfl⟩) rfl rfl (Nat.le_of_ble_eq_true rfl) dX5_line_13 ⟨Nat.le_refl _, Nat.le_refl _⟩ (fun σ4 => ?_)
  refine g_aload_n C 0 dX5_line_16 rfl rfl ?_
  refine g_getR (o' := 1) C 0 0 gcl5 rfl (by decide) rfl qw166 dX5_line_17 ?_
  refine g_iload_n C 1 dX5_line_20 rfl rfl ?_
  refine g_callvr (As := [.int p1]) (n := 1) C (c_Court_sideOf l hl D cI cJ ad 1 p1 gc1) ⟨rfl, rfl⟩ gcl0 rfl qc45 (hR := ⟨Nat.le_of_ble_eq_true rfl, Nat.le_of_ble_eq_true rfl⟩) rfl rfl (Nat.le_of_ble_eq_true rfl) dX5_line_21 ⟨Nat.zero_le _, Nat.zero_le _⟩ (fun o6 σ5 h7 => ?_)
  refine g_astore (L' := [(4, .ref (ad o6)), (0, .ref (ad 0)), (1, .int p1), (2, .int p2), (3, .int p3)]) C dX5_line_24 (by decide) rfl ?_
  refine g_aload C 0 dX5_line_26 rfl ?_
  refine g_iload_n C 3 dX5_line_28 rfl rfl ?_
  refine g_callvi (As := [.int p2]) (n := 1) C (c_Side_shirtIn l hl D cI cJ ad o6 p2 (gOf_side gc1 h7)) ⟨rfl, rfl⟩ gcl4 (gSd (gOf_side gc1 h7)).1 qc46 (hR := ⟨Nat.le_of_ble_eq_true rfl, Nat.le_of_ble_eq_true rfl⟩) rfl rfl (Nat.le_of_ble_eq_true rfl) dX5_line_29 ⟨Nat.zero_le _, Nat.zero_le _⟩ (fun r9 σ8 => ?_)
  refine g_istore (L' := [(5, .int r9), (4, .ref (ad o6)), (0, .ref (ad 0)), (1, .int p1), (2, .int p2), (3, .int p3)]) C dX5_line_32 (by decide) rfl ?_
  refine g_aload C 1 dX5_line_34 rfl ?_
  refine g_iload_n C 4 dX5_line_36 rfl rfl ?_
  refine g_iload_n C 5 dX5_line_37 rfl rfl ?_
  refine g_callvv (As := [.int p2, .int p3]) (n := 2) C (c_Side_put l hl D cI cJ ad o6 p2 p3 (gOf_side gc1 h7)) ⟨rfl, rfl⟩ gcl4 (gSd (gOf_side gc1 h7)).1 qc47 (hR := ⟨Nat.le_of_ble_eq_true rfl, Nat.le_of_ble_eq_true rfl⟩) rfl rfl (Nat.le_of_ble_eq_true rfl) dX5_line_38 ⟨Nat.zero_le _, Nat.zero_le _⟩ (fun σ10 => ?_)
  refine g_aload_n C 2 dX5_line_41 rfl rfl ?_
  refine g_iconst (v := (-1 : Int32)) C dX5_line_42 (by decide) ?_
  refine g_putI C 0 6 gcl5 gft5 rfl (by decide) rfl rfl rfl qw197 dX5_line_43 (fun σ11 => ?_)
  refine g_iload C 0 dX5_line_46 rfl ?_
  exact g_xireti C hr dX5_line_48

def F_Game_libero (p1 : Int32) (p2 : Int32) (σ : gSt) : Option (Int32 × Int32 × gSt) := gbx (F_Game_checkTeam p1 σ) fun σ1 => gbx (F_Game_checkShirt p2 σ1) fun σ2 => gbx (F_Game_checkAheadOfSet σ2) fun σ3 => gbr (F_Court_sideOf 1 p1 σ3) fun o5 σ4 => gl (σ4 o5 2) fun x7 => gl (gup σ4 o5 2 p2) fun σ8 => gl (gup σ8 0 6 (-1 : Int32)) fun σ9 => some ((0 : Int32), x7, σ9)

set_option maxHeartbeats 4000000 in
set_option maxRecDepth 100000 in
theorem c_Game_libero (l : Launch) (hl : l.stackTraces = false) (D : va_G) (cI cJ : ClassId) (ad : Nat → Nat) (p1 : Int32) (p2 : Int32) : gMxi l D cI cJ ad yX5_libero cX5_libero 5 (some .int) { frames := 7, cells := 1, slots := 6, locals := 102 } [.ref (ad 0), .int p1, .int p2] (F_Game_libero p1 p2) := by
  refine gStartXi (L0 := [(0, .ref (ad 0)), (1, .int p1), (2, .int p2)]) RX5 (by decide) rfl rfl (Nat.le_of_ble_eq_true rfl) ?_
  intro p e s m args below meth c sz σ q C hr hnt
  unfold F_Game_libero
  refine g_iload_n C 1 dX5_libero_0 rfl rfl ?_
  refine g_callsx (As := [.int p1]) (n := 1) C hnt (c_Game_checkTeam l hl D cI cJ ad p1) ⟨rfl, rfl⟩ qc41 (hR := ⟨Nat.le_of_ble_eq_true rfl, Nat.le_of_ble_eq_true rfl⟩) rfl rfl (Nat.le_of_ble_eq_true rfl) dX5_libero_1 ⟨Nat.le_refl _, Nat.le_refl _⟩ (fun σ1 => ?_)
  refine g_iload_n C 2 dX5_libero_4 rfl rfl ?_
  refine g_callsx (As := [.int p2]) (n := 1) C hnt (c_Game_checkShirt l hl D cI cJ ad p2) ⟨rfl, rfl⟩ qc43 (hR := ⟨Nat.le_of_ble_eq_true rfl, Nat.le_of_ble_eq_true rfl⟩) rfl rfl (Nat.le_of_ble_eq_true rfl) dX5_libero_5 ⟨Nat.le_refl _, Nat.le_refl _⟩ (fun σ2 => ?_)
  refine g_aload_n C 0 dX5_libero_8 rfl rfl ?_
  refine g_callvx (As := []) (n := 0) C hnt (c_Game_checkAheadOfSet l hl D cI cJ ad) ⟨rfl, rfl⟩ gcl5 rfl qc44 (hR := ⟨Nat.le_of_ble_eq_true rfl, Nat.le_of_ble_eq_true rfl⟩) rfl rfl (Nat.le_of_ble_eq_true rfl) dX5_libero_9 ⟨Nat.le_refl _, Nat.le_refl _⟩ (fun σ3 => ?_)
  refine g_aload_n C 0 dX5_libero_12 rfl rfl ?_
  refine g_getR (o' := 1) C 0 0 gcl5 rfl (by decide) rfl qw166 dX5_libero_13 ?_
  refine g_iload_n C 1 dX5_libero_16 rfl rfl ?_
  refine g_callvr (As := [.int p1]) (n := 1) C (c_Court_sideOf l hl D cI cJ ad 1 p1 gc1) ⟨rfl, rfl⟩ gcl0 rfl qc45 (hR := ⟨Nat.le_of_ble_eq_true rfl, Nat.le_of_ble_eq_true rfl⟩) rfl rfl (Nat.le_of_ble_eq_true rfl) dX5_libero_17 ⟨Nat.zero_le _, Nat.zero_le _⟩ (fun o5 σ4 h6 => ?_)
  refine g_astore_n (L' := [(3, .ref (ad o5)), (0, .ref (ad 0)), (1, .int p1), (2, .int p2)]) C dX5_libero_20 rfl (by decide) rfl ?_
  refine g_aload_n C 0 dX5_libero_21 rfl rfl ?_
  refine g_getIN C o5 2 gcl4 (gSd (gOf_side gc1 h6)).1 (by decide) ((gSd (gOf_side gc1 h6)).2.2.2.1 2 (by decide)) qn198 dX5_libero_22 ?_
  refine g_name ?_; intro x7
  refine g_istore (L' := [(4, .int x7), (3, .ref (ad o5)), (0, .ref (ad 0)), (1, .int p1), (2, .int p2)]) C dX5_libero_25 (by decide) rfl ?_
  refine g_aload_n C 1 dX5_libero_27 rfl rfl ?_
  refine g_iload_n C 4 dX5_libero_28 rfl rfl ?_
  refine g_putIN C o5 2 gcl4 gft4 (gSd (gOf_side gc1 h6)).1 (by decide) ((gSd (gOf_side gc1 h6)).2.2.2.1 2 (by decide)) rfl rfl qn198 dX5_libero_29 (fun σ8 => ?_)
  refine g_aload_n C 2 dX5_libero_32 rfl rfl ?_
  refine g_iconst (v := (-1 : Int32)) C dX5_libero_33 (by decide) ?_
  refine g_putI C 0 6 gcl5 gft5 rfl (by decide) rfl rfl rfl qw197 dX5_libero_34 (fun σ9 => ?_)
  refine g_iload C 0 dX5_libero_37 rfl ?_
  exact g_xireti C hr dX5_libero_39

def F_Game_writeOrder_B11 (p1 : Int32) : Nat → Int32 → Nat → Int32 → gSt → Option gSt
  | 0, _, _, _, _ => none
  | n + 1, l1, l2, l3, σ => if (6 : Int32) < l3 then (if (σ l2 2) = (-1 : Int32) then (some σ) else (gbv (F_Sheet_write (1 : Int32) l1 (σ l2 2) (0 : Int32) σ) fun σ3 => some σ3)) else (gbi (F_Side_shirtIn l2 l3 σ) fun r5 σ4 => gbv (F_Sheet_write (0 : Int32) l1 l3 r5 σ4) fun σ6 => F_Game_writeOrder_B11 p1 n l1 l2 (l3 + (1 : Int32)) σ6)

def F_Game_writeOrder (p1 : Int32) (σ : gSt) : Option gSt := gbr (F_Court_sideOf 1 p1 σ) fun o2 σ1 => F_Game_writeOrder_B11 p1 100 p1 o2 (1 : Int32) σ1

set_option maxHeartbeats 4000000 in
set_option maxRecDepth 100000 in
theorem b_Game_writeOrder_B11 {p : Program} {l : Launch} {e : Env} {s : State} {m : MethodId} {args : Array Value} {below : List Frame} {meth : Method} {c : Code} {D : va_G} {cI cJ : ClassId} {ad : Nat → Nat} {sz : Nat} {σ' : gSt} (C : gC p s m args meth c D cI cJ ad (gA ad sz) cX5_writeOrder 4 RX5) (hr : meth.sig.returnType = none) (hl : l.stackTraces = false) (p1 : Int32) : ∀ (n : Nat) (l1 : Int32) (l2 : Nat) (l3 : Int32) (hl2 : gIsSide l2) (σ : gSt), gX (F_Game_writeOrder_B11 p1 n l1 l2 l3 σ) σ' (gG p l e { frames := 2, cells := 0, slots := 0, locals := 46 } s m args below meth c D cI cJ ad (gA ad sz) 4 0 0 (MQ below (va_Qv (fun (_ : Unit) => True) (fun _ t => va_P D vwCl (gw cI cJ ad σ') t.heap) (gA ad sz)) args s 0 0 (gA ad sz)) σ 11 [(0, .ref (ad 0)), (1, .int l1), (2, .ref (ad l2)), (3, .int l3)] []) := by
  intro n
  induction n with
  | zero =>
    intro l1 l2 l3 hl2 σ
    unfold F_Game_writeOrder_B11
    exact gX_none
  | succ n ih =>
    intro l1 l2 l3 hl2 σ
    unfold F_Game_writeOrder_B11
    refine g_iload_n C 3 dX5_writeOrder_11 rfl rfl ?_
    refine g_bipush (v := (6 : Int32)) C dX5_writeOrder_12 (by decide) ?_
    refine g_icmp_gt (tgt := 38) C dX5_writeOrder_14 (by decide) (fun h1 => ?_) (fun h1 => ?_)
    · refine g_aload_n C 2 dX5_writeOrder_38 rfl rfl ?_
      refine g_getIN C l2 2 gcl4 (gSd hl2).1 (by decide) ((gSd hl2).2.2.2.1 2 (by decide)) qn198 dX5_writeOrder_39 ?_
      refine g_iconst (v := (-1 : Int32)) C dX5_writeOrder_42 (by decide) ?_
      refine g_icmp_eq (tgt := 60) C dX5_writeOrder_43 (by decide) (fun h2 => ?_) (fun h2 => ?_)
      · exact g_retv C hr dX5_writeOrder_60
      · refine g_aload_n C 0 dX5_writeOrder_46 rfl rfl ?_
        refine g_getR (o' := 16) C 0 3 gcl5 rfl (by decide) rfl qw199 dX5_writeOrder_47 ?_
        refine g_iconst (v := (1 : Int32)) C dX5_writeOrder_50 (by decide) ?_
        refine g_iload_n C 1 dX5_writeOrder_51 rfl rfl ?_
        refine g_aload_n C 2 dX5_writeOrder_52 rfl rfl ?_
        refine g_getIN C l2 2 gcl4 (gSd hl2).1 (by decide) ((gSd hl2).2.2.2.1 2 (by decide)) qn198 dX5_writeOrder_53 ?_
        refine g_iconst (v := (0 : Int32)) C dX5_writeOrder_56 (by decide) ?_
        refine g_callvv (As := [.int (1 : Int32), .int l1, .int (σ l2 2), .int (0 : Int32)]) (n := 4) C (c_Sheet_write l hl D cI cJ ad (1 : Int32) l1 (σ l2 2) (0 : Int32)) ⟨rfl, rfl⟩ gcl3 rfl qc48 (hR := ⟨Nat.le_of_ble_eq_true rfl, Nat.le_of_ble_eq_true rfl⟩) rfl rfl (Nat.le_of_ble_eq_true rfl) dX5_writeOrder_57 ⟨Nat.zero_le _, Nat.zero_le _⟩ (fun σ3 => ?_)
        exact g_retv C hr dX5_writeOrder_60
    · refine g_aload_n C 0 dX5_writeOrder_17 rfl rfl ?_
      refine g_getR (o' := 16) C 0 3 gcl5 rfl (by decide) rfl qw199 dX5_writeOrder_18 ?_
      refine g_iconst (v := (0 : Int32)) C dX5_writeOrder_21 (by decide) ?_
      refine g_iload_n C 1 dX5_writeOrder_22 rfl rfl ?_
      refine g_iload_n C 3 dX5_writeOrder_23 rfl rfl ?_
      refine g_aload_n C 2 dX5_writeOrder_24 rfl rfl ?_
      refine g_iload_n C 3 dX5_writeOrder_25 rfl rfl ?_
      refine g_callvi (As := [.int l3]) (n := 1) C (c_Side_shirtIn l hl D cI cJ ad l2 l3 hl2) ⟨rfl, rfl⟩ gcl4 (gSd hl2).1 qc46 (hR := ⟨Nat.le_of_ble_eq_true rfl, Nat.le_of_ble_eq_true rfl⟩) rfl rfl (Nat.le_of_ble_eq_true rfl) dX5_writeOrder_26 ⟨Nat.zero_le _, Nat.zero_le _⟩ (fun r5 σ4 => ?_)
      refine g_callvv (As := [.int (0 : Int32), .int l1, .int l3, .int r5]) (n := 4) C (c_Sheet_write l hl D cI cJ ad (0 : Int32) l1 l3 r5) ⟨rfl, rfl⟩ gcl3 rfl qc48 (hR := ⟨Nat.le_of_ble_eq_true rfl, Nat.le_of_ble_eq_true rfl⟩) rfl rfl (Nat.le_of_ble_eq_true rfl) dX5_writeOrder_29 ⟨Nat.zero_le _, Nat.zero_le _⟩ (fun σ6 => ?_)
      refine g_iinc (v := (l3 + (1 : Int32))) (L' := [(3, .int (l3 + (1 : Int32))), (0, .ref (ad 0)), (1, .int l1), (2, .ref (ad l2))]) C 3 dX5_writeOrder_32 rfl (by rfl) (by decide) rfl ?_
      refine g_goto (tgt := 11) C dX5_writeOrder_35 (by decide) ?_
      refine g_loc [1, 2, 3, 0] rfl ?_
      exact ih l1 l2 (l3 + (1 : Int32)) hl2 σ6

set_option maxHeartbeats 4000000 in
set_option maxRecDepth 100000 in
theorem c_Game_writeOrder (l : Launch) (hl : l.stackTraces = false) (D : va_G) (cI cJ : ClassId) (ad : Nat → Nat) (p1 : Int32) : gMv l D cI cJ ad yX5_writeOrder cX5_writeOrder 4 none { frames := 2, cells := 0, slots := 0, locals := 46 } [.ref (ad 0), .int p1] (F_Game_writeOrder p1) := by
  refine gStartV (L0 := [(0, .ref (ad 0)), (1, .int p1)]) RX5 (by decide) rfl rfl (Nat.le_of_ble_eq_true rfl) ?_
  intro p e s m args below meth c sz σ σ' C hr
  unfold F_Game_writeOrder
  refine g_aload_n C 0 dX5_writeOrder_0 rfl rfl ?_
  refine g_getR (o' := 1) C 0 0 gcl5 rfl (by decide) rfl qw166 dX5_writeOrder_1 ?_
  refine g_iload_n C 1 dX5_writeOrder_4 rfl rfl ?_
  refine g_callvr (As := [.int p1]) (n := 1) C (c_Court_sideOf l hl D cI cJ ad 1 p1 gc1) ⟨rfl, rfl⟩ gcl0 rfl qc45 (hR := ⟨Nat.le_of_ble_eq_true rfl, Nat.le_of_ble_eq_true rfl⟩) rfl rfl (Nat.le_of_ble_eq_true rfl) dX5_writeOrder_5 ⟨Nat.zero_le _, Nat.zero_le _⟩ (fun o2 σ1 h3 => ?_)
  refine g_astore_n (L' := [(2, .ref (ad o2)), (0, .ref (ad 0)), (1, .int p1)]) C dX5_writeOrder_8 rfl (by decide) rfl ?_
  refine g_iconst (v := (1 : Int32)) C dX5_writeOrder_9 (by decide) ?_
  refine g_istore_n (L' := [(3, .int (1 : Int32)), (2, .ref (ad o2)), (0, .ref (ad 0)), (1, .int p1)]) C dX5_writeOrder_10 rfl (by decide) rfl ?_
  refine g_loc [2, 3, 1, 0] rfl ?_
  exact b_Game_writeOrder_B11 C hr hl p1 100 p1 o2 (1 : Int32) (gOf_side gc1 h3) σ1

def F_Game_begin_B34 (p1 : Int32) (σ : gSt) : Option (Int32 × Int32 × gSt) := some ((3 : Int32), (0 : Int32), σ)

def F_Game_begin (p1 : Int32) (σ : gSt) : Option (Int32 × Int32 × gSt) := gbx (F_Game_checkTeam p1 σ) fun σ1 => gbx (F_Game_checkAheadOfSet σ1) fun σ2 => gbi (F_Side_isReady 2 σ2) fun r4 σ3 => if r4 = (0 : Int32) then (F_Game_begin_B34 p1 σ3) else (gbi (F_Side_isReady 5 σ3) fun r7 σ6 => if r7 = (0 : Int32) then (F_Game_begin_B34 p1 σ6) else (gbv (F_Court_startSet 1 p1 σ6) fun σ9 => gbv (F_Sheet_cutTo (0 : Int32) σ9) fun σ10 => gbv (F_Game_writeOrder (0 : Int32) σ10) fun σ11 => gbv (F_Game_writeOrder (1 : Int32) σ11) fun σ12 => gbv (F_Sheet_write (2 : Int32) p1 (0 : Int32) (0 : Int32) σ12) fun σ13 => gl (gup σ13 0 6 (-1 : Int32)) fun σ14 => gl (gup σ14 0 7 (0 : Int32)) fun σ15 => gbi (F_Court_setsPlayed 1 σ15) fun r17 σ16 => some ((0 : Int32), (r17 + (1 : Int32)), σ16)))

set_option maxHeartbeats 4000000 in
set_option maxRecDepth 100000 in
theorem b_Game_begin_B34 {p : Program} {l : Launch} {e : Env} {s : State} {m : MethodId} {args : Array Value} {below : List Frame} {meth : Method} {c : Code} {D : va_G} {cI cJ : ClassId} {ad : Nat → Nat} {sz : Nat} {q : Int32 × Int32 × gSt} (C : gC p s m args meth c D cI cJ ad (gA ad sz) cX5_begin 2 RX5) (hr : meth.sig.returnType = (some .int)) (hnt : ∀ x ∈ c.exceptionTable.toList, False) (hl : l.stackTraces = false) (p1 : Int32) (σ : gSt) : gX (F_Game_begin_B34 p1 σ) q (gG p l e { frames := 7, cells := 1, slots := 6, locals := 102 } s m args below meth c D cI cJ ad (gA ad sz) 2 0 0 (vz_MQ below (gQi D cI cJ ad (gA ad sz) q) (gXC D cI cJ ad (gA ad sz) q) args s 1 6 (gA ad sz)) σ 34 [] []) := by
  unfold F_Game_begin_B34
  exact g_throw (text := "the orders are not as told") (names := ["java/lang/RuntimeException", "java/lang/Exception"]) C hl hnt (3) (by decide) (by decide) (by decide) (by decide) qw175 qw176 (by decide) qt2 dX5_begin_34 dX5_begin_37 dX5_begin_38 dX5_begin_40 dX5_begin_43 (Nat.le_of_ble_eq_true rfl) (Nat.le_of_ble_eq_true rfl) ⟨Nat.le_refl _, Nat.le_refl _⟩

set_option maxHeartbeats 4000000 in
set_option maxRecDepth 100000 in
theorem c_Game_begin (l : Launch) (hl : l.stackTraces = false) (D : va_G) (cI cJ : ClassId) (ad : Nat → Nat) (p1 : Int32) : gMxi l D cI cJ ad yX5_begin cX5_begin 2 (some .int) { frames := 7, cells := 1, slots := 6, locals := 102 } [.ref (ad 0), .int p1] (F_Game_begin p1) := by
  refine gStartXi (L0 := [(0, .ref (ad 0)), (1, .int p1)]) RX5 (by decide) rfl rfl (Nat.le_of_ble_eq_true rfl) ?_
  intro p e s m args below meth c sz σ q C hr hnt
  unfold F_Game_begin
  refine g_iload_n C 1 dX5_begin_0 rfl rfl ?_
  refine g_callsx (As := [.int p1]) (n := 1) C hnt (c_Game_checkTeam l hl D cI cJ ad p1) ⟨rfl, rfl⟩ qc41 (hR := ⟨Nat.le_of_ble_eq_true rfl, Nat.le_of_ble_eq_true rfl⟩) rfl rfl (Nat.le_of_ble_eq_true rfl) dX5_begin_1 ⟨Nat.le_refl _, Nat.le_refl _⟩ (fun σ1 => ?_)
  refine g_aload_n C 0 dX5_begin_4 rfl rfl ?_
  refine g_callvx (As := []) (n := 0) C hnt (c_Game_checkAheadOfSet l hl D cI cJ ad) ⟨rfl, rfl⟩ gcl5 rfl qc44 (hR := ⟨Nat.le_of_ble_eq_true rfl, Nat.le_of_ble_eq_true rfl⟩) rfl rfl (Nat.le_of_ble_eq_true rfl) dX5_begin_5 ⟨Nat.le_refl _, Nat.le_refl _⟩ (fun σ2 => ?_)
  refine g_aload_n C 0 dX5_begin_8 rfl rfl ?_
  refine g_getR (o' := 1) C 0 0 gcl5 rfl (by decide) rfl qw166 dX5_begin_9 ?_
  refine g_getRN (o' := 2) C 1 0 gcl0 rfl (by decide) rfl qn204 dX5_begin_12 ?_
  refine g_callvi (As := []) (n := 0) C (c_Side_isReady l hl D cI cJ ad 2 gs2) ⟨rfl, rfl⟩ gcl4 rfl qc49 (hR := ⟨Nat.le_of_ble_eq_true rfl, Nat.le_of_ble_eq_true rfl⟩) rfl rfl (Nat.le_of_ble_eq_true rfl) dX5_begin_15 ⟨Nat.zero_le _, Nat.zero_le _⟩ (fun r4 σ3 => ?_)
  refine g_if_eq (tgt := 34) C dX5_begin_18 (by decide) (fun h5 => ?_) (fun h5 => ?_)
  · refine g_loc [] rfl ?_
    exact b_Game_begin_B34 C hr hnt hl p1 σ3
  · refine g_aload_n C 0 dX5_begin_21 rfl rfl ?_
    refine g_getR (o' := 1) C 0 0 gcl5 rfl (by decide) rfl qw166 dX5_begin_22 ?_
    refine g_getRN (o' := 5) C 1 1 gcl0 rfl (by decide) rfl qn209 dX5_begin_25 ?_
    refine g_callvi (As := []) (n := 0) C (c_Side_isReady l hl D cI cJ ad 5 gs5) ⟨rfl, rfl⟩ gcl4 rfl qc49 (hR := ⟨Nat.le_of_ble_eq_true rfl, Nat.le_of_ble_eq_true rfl⟩) rfl rfl (Nat.le_of_ble_eq_true rfl) dX5_begin_28 ⟨Nat.zero_le _, Nat.zero_le _⟩ (fun r7 σ6 => ?_)
    refine g_if_ne (tgt := 44) C dX5_begin_31 (by decide) (fun h8 => ?_) (fun h8 => ?_)
    · refine g_loc [] rfl ?_
      exact b_Game_begin_B34 C hr hnt hl p1 σ6
    · refine g_aload_n C 0 dX5_begin_44 rfl rfl ?_
      refine g_getR (o' := 1) C 0 0 gcl5 rfl (by decide) rfl qw166 dX5_begin_45 ?_
      refine g_iload_n C 1 dX5_begin_48 rfl rfl ?_
      refine g_callvv (As := [.int p1]) (n := 1) C (c_Court_startSet l hl D cI cJ ad 1 p1 gc1) ⟨rfl, rfl⟩ gcl0 rfl qc50 (hR := ⟨Nat.le_of_ble_eq_true rfl, Nat.le_of_ble_eq_true rfl⟩) rfl rfl (Nat.le_of_ble_eq_true rfl) dX5_begin_49 ⟨Nat.zero_le _, Nat.zero_le _⟩ (fun σ9 => ?_)
      refine g_aload_n C 0 dX5_begin_52 rfl rfl ?_
      refine g_getR (o' := 16) C 0 3 gcl5 rfl (by decide) rfl qw199 dX5_begin_53 ?_
      refine g_iconst (v := (0 : Int32)) C dX5_begin_56 (by decide) ?_
      refine g_callvv (As := [.int (0 : Int32)]) (n := 1) C (c_Sheet_cutTo l hl D cI cJ ad (0 : Int32)) ⟨rfl, rfl⟩ gcl3 rfl qc51 (hR := ⟨Nat.le_of_ble_eq_true rfl, Nat.le_of_ble_eq_true rfl⟩) rfl rfl (Nat.le_of_ble_eq_true rfl) dX5_begin_57 ⟨Nat.zero_le _, Nat.zero_le _⟩ (fun σ10 => ?_)
      refine g_aload_n C 0 dX5_begin_60 rfl rfl ?_
      refine g_iconst (v := (0 : Int32)) C dX5_begin_61 (by decide) ?_
      refine g_callvv (As := [.int (0 : Int32)]) (n := 1) C (c_Game_writeOrder l hl D cI cJ ad (0 : Int32)) ⟨rfl, rfl⟩ gcl5 rfl qc52 (hR := ⟨Nat.le_of_ble_eq_true rfl, Nat.le_of_ble_eq_true rfl⟩) rfl rfl (Nat.le_of_ble_eq_true rfl) dX5_begin_62 ⟨Nat.zero_le _, Nat.zero_le _⟩ (fun σ11 => ?_)
      refine g_aload_n C 0 dX5_begin_65 rfl rfl ?_
      refine g_iconst (v := (1 : Int32)) C dX5_begin_66 (by decide) ?_
      refine g_callvv (As := [.int (1 : Int32)]) (n := 1) C (c_Game_writeOrder l hl D cI cJ ad (1 : Int32)) ⟨rfl, rfl⟩ gcl5 rfl qc52 (hR := ⟨Nat.le_of_ble_eq_true rfl, Nat.le_of_ble_eq_true rfl⟩) rfl rfl (Nat.le_of_ble_eq_true rfl) dX5_begin_67 ⟨Nat.zero_le _, Nat.zero_le _⟩ (fun σ12 => ?_)
      refine g_aload_n C 0 dX5_begin_70 rfl rfl ?_
      refine g_getR (o' := 16) C 0 3 gcl5 rfl (by decide) rfl qw199 dX5_begin_71 ?_
      refine g_iconst (v := (2 : Int32)) C dX5_begin_74 (by decide) ?_
      refine g_iload_n C 1 dX5_begin_75 rfl rfl ?_
      refine g_iconst (v := (0 : Int32)) C dX5_begin_76 (by decide) ?_
      refine g_iconst (v := (0 : Int32)) C dX5_begin_77 (by decide) ?_
      refine g_callvv (As := [.int (2 : Int32), .int p1, .int (0 : Int32), .int (0 : Int32)]) (n := 4) C (c_Sheet_write l hl D cI cJ ad (2 : Int32) p1 (0 : Int32) (0 : Int32)) ⟨rfl, rfl⟩ gcl3 rfl qc48 (hR := ⟨Nat.le_of_ble_eq_true rfl, Nat.le_of_ble_eq_true rfl⟩) rfl rfl (Nat.le_of_ble_eq_true rfl) dX5_begin_78 ⟨Nat.zero_le _, Nat.zero_le _⟩ (fun σ13 => ?_)
      refine g_aload_n C 0 dX5_begin_81 rfl rfl ?_
      refine g_iconst (v := (-1 : Int32)) C dX5_begin_82 (by decide) ?_
      refine g_putI C 0 6 gcl5 gft5 rfl (by decide) rfl rfl rfl qw197 dX5_begin_83 (fun σ14 => ?_)
      refine g_aload_n C 0 dX5_begin_86 rfl rfl ?_
      refine g_iconst (v := (0 : Int32)) C dX5_begin_87 (by decide) ?_
      refine g_putI C 0 7 gcl5 gft5 rfl (by decide) rfl rfl rfl qw219 dX5_begin_88 (fun σ15 => ?_)
      refine g_aload_n C 0 dX5_begin_91 rfl rfl ?_
      refine g_getR (o' := 1) C 0 0 gcl5 rfl (by decide) rfl qw166 dX5_begin_92 ?_
      refine g_callvi (As := []) (n := 0) C (c_Court_setsPlayed l hl D cI cJ ad 1 gc1) ⟨rfl, rfl⟩ gcl0 rfl qc53 (hR := ⟨Nat.le_of_ble_eq_true rfl, Nat.le_of_ble_eq_true rfl⟩) rfl rfl (Nat.le_of_ble_eq_true rfl) dX5_begin_95 ⟨Nat.zero_le _, Nat.zero_le _⟩ (fun r17 σ16 => ?_)
      refine g_iconst (v := (1 : Int32)) C dX5_begin_98 (by decide) ?_
      refine g_iadd C dX5_begin_99 ?_
      exact g_xireti C hr dX5_begin_100

def F_Game_checkBetweenRallies_B20  (σ : gSt) : Option (Int32 × Int32 × gSt) := some ((3 : Int32), (0 : Int32), σ)

def F_Game_checkBetweenRallies  (σ : gSt) : Option (Int32 × Int32 × gSt) := gbi (F_Court_isSetOn 1 σ) fun r2 σ1 => if r2 = (0 : Int32) then (F_Game_checkBetweenRallies_B20 σ1) else (if (σ1 15 0) = (0 : Int32) then (some ((0 : Int32), (0 : Int32), σ1)) else (F_Game_checkBetweenRallies_B20 σ1))

set_option maxHeartbeats 4000000 in
set_option maxRecDepth 100000 in
theorem b_Game_checkBetweenRallies_B20 {p : Program} {l : Launch} {e : Env} {s : State} {m : MethodId} {args : Array Value} {below : List Frame} {meth : Method} {c : Code} {D : va_G} {cI cJ : ClassId} {ad : Nat → Nat} {sz : Nat} {q : Int32 × Int32 × gSt} (C : gC p s m args meth c D cI cJ ad (gA ad sz) cX5_checkBetweenRallies 1 RX5) (hr : meth.sig.returnType = none) (hnt : ∀ x ∈ c.exceptionTable.toList, False) (hl : l.stackTraces = false) (σ : gSt) : gX (F_Game_checkBetweenRallies_B20 σ) q (gG p l e { frames := 6, cells := 1, slots := 6, locals := 82 } s m args below meth c D cI cJ ad (gA ad sz) 1 0 0 (vz_MQ below (gQv D cI cJ ad (gA ad sz) q) (gXC D cI cJ ad (gA ad sz) q) args s 1 6 (gA ad sz)) σ 20 [] []) := by
  unfold F_Game_checkBetweenRallies_B20
  exact g_throw (text := "no set goes on, or a rally goes on") (names := ["java/lang/RuntimeException", "java/lang/Exception"]) C hl hnt (3) (by decide) (by decide) (by decide) (by decide) qw175 qw176 (by decide) qt2 dX5_checkBetweenRallies_20 dX5_checkBetweenRallies_23 dX5_checkBetweenRallies_24 dX5_checkBetweenRallies_26 dX5_checkBetweenRallies_29 (Nat.le_of_ble_eq_true rfl) (Nat.le_of_ble_eq_true rfl) ⟨Nat.le_refl _, Nat.le_refl _⟩

set_option maxHeartbeats 4000000 in
set_option maxRecDepth 100000 in
theorem c_Game_checkBetweenRallies (l : Launch) (hl : l.stackTraces = false) (D : va_G) (cI cJ : ClassId) (ad : Nat → Nat) : gMxv l D cI cJ ad yX5_checkBetweenRallies cX5_checkBetweenRallies 1 none { frames := 6, cells := 1, slots := 6, locals := 82 } [.ref (ad 0)] (F_Game_checkBetweenRallies) := by
  refine gStartXv (L0 := [(0, .ref (ad 0))]) RX5 (by decide) rfl rfl (Nat.le_of_ble_eq_true rfl) ?_
  intro p e s m args below meth c sz σ q C hr hnt
  unfold F_Game_checkBetweenRallies
  refine g_aload_n C 0 dX5_checkBetweenRallies_0 rfl rfl ?_
  refine g_getR (o' := 1) C 0 0 gcl5 rfl (by decide) rfl qw166 dX5_checkBetweenRallies_1 ?_
  refine g_callvi (As := []) (n := 0) C (c_Court_isSetOn l hl D cI cJ ad 1 gc1) ⟨rfl, rfl⟩ gcl0 rfl qc39 (hR := ⟨Nat.le_of_ble_eq_true rfl, Nat.le_of_ble_eq_true rfl⟩) rfl rfl (Nat.le_of_ble_eq_true rfl) dX5_checkBetweenRallies_4 ⟨Nat.zero_le _, Nat.zero_le _⟩ (fun r2 σ1 => ?_)
  refine g_if_eq (tgt := 20) C dX5_checkBetweenRallies_7 (by decide) (fun h3 => ?_) (fun h3 => ?_)
  · refine g_loc [] rfl ?_
    exact b_Game_checkBetweenRallies_B20 C hr hnt hl σ1
  · refine g_aload_n C 0 dX5_checkBetweenRallies_10 rfl rfl ?_
    refine g_getR (o' := 15) C 0 2 gcl5 rfl (by decide) rfl qw221 dX5_checkBetweenRallies_11 ?_
    refine g_getIN C 15 0 gcl1 rfl (by decide) rfl qn222 dX5_checkBetweenRallies_14 ?_
    refine g_if_eq (tgt := 30) C dX5_checkBetweenRallies_17 (by decide) (fun h4 => ?_) (fun h4 => ?_)
    · exact g_xretv C hr dX5_checkBetweenRallies_30
    · refine g_loc [] rfl ?_
      exact b_Game_checkBetweenRallies_B20 C hr hnt hl σ1

def F_Game_serve (p1 : Int32) (σ : gSt) : Option (Int32 × Int32 × gSt) := gbx (F_Game_checkShirt p1 σ) fun σ1 => gbx (F_Game_checkBetweenRallies σ1) fun σ2 => gl (σ2 1 2) fun x3 => gbr (F_Court_sideOf 1 x3 σ2) fun o5 σ4 => gbi (F_Side_placeOf o5 p1 σ4) fun r8 σ7 => if r8 = (-1 : Int32) then (some ((3 : Int32), (0 : Int32), σ7)) else (gbv (F_Sheet_write (3 : Int32) x3 p1 (0 : Int32) σ7) fun σ10 => gbv (F_Rally_start x3 p1 σ10) fun σ11 => gl (gup σ11 0 6 (-1 : Int32)) fun σ12 => gbi (F_Court_takeService 1 p1 σ12) fun r14 σ13 => if r14 = 0 ∨ r14 = 1 then some ((0 : Int32), r14, σ13) else none)

set_option maxHeartbeats 4000000 in
set_option maxRecDepth 100000 in
theorem c_Game_serve (l : Launch) (hl : l.stackTraces = false) (D : va_G) (cI cJ : ClassId) (ad : Nat → Nat) (p1 : Int32) : gMxi l D cI cJ ad yX5_serve cX5_serve 3 (some .boolean) { frames := 7, cells := 1, slots := 6, locals := 102 } [.ref (ad 0), .int p1] (F_Game_serve p1) := by
  refine gStartXi (L0 := [(0, .ref (ad 0)), (1, .int p1)]) RX5 (by decide) rfl rfl (Nat.le_of_ble_eq_true rfl) ?_
  intro p e s m args below meth c sz σ q C hr hnt
  unfold F_Game_serve
  refine g_iload_n C 1 dX5_serve_0 rfl rfl ?_
  refine g_callsx (As := [.int p1]) (n := 1) C hnt (c_Game_checkShirt l hl D cI cJ ad p1) ⟨rfl, rfl⟩ qc43 (hR := ⟨Nat.le_of_ble_eq_true rfl, Nat.le_of_ble_eq_true rfl⟩) rfl rfl (Nat.le_of_ble_eq_true rfl) dX5_serve_1 ⟨Nat.le_refl _, Nat.le_refl _⟩ (fun σ1 => ?_)
  refine g_aload_n C 0 dX5_serve_4 rfl rfl ?_
  refine g_callvx (As := []) (n := 0) C hnt (c_Game_checkBetweenRallies l hl D cI cJ ad) ⟨rfl, rfl⟩ gcl5 rfl qc54 (hR := ⟨Nat.le_of_ble_eq_true rfl, Nat.le_of_ble_eq_true rfl⟩) rfl rfl (Nat.le_of_ble_eq_true rfl) dX5_serve_5 ⟨Nat.le_refl _, Nat.le_refl _⟩ (fun σ2 => ?_)
  refine g_aload_n C 0 dX5_serve_8 rfl rfl ?_
  refine g_getR (o' := 1) C 0 0 gcl5 rfl (by decide) rfl qw166 dX5_serve_9 ?_
  refine g_getIN C 1 2 gcl0 rfl (by decide) rfl qn227 dX5_serve_12 ?_
  refine g_name ?_; intro x3
  refine g_istore_n (L' := [(2, .int x3), (0, .ref (ad 0)), (1, .int p1)]) C dX5_serve_15 rfl (by decide) rfl ?_
  refine g_aload_n C 1 dX5_serve_16 rfl rfl ?_
  refine g_getR (o' := 1) C 0 0 gcl5 rfl (by decide) rfl qw166 dX5_serve_17 ?_
  refine g_iload_n C 0 dX5_serve_20 rfl rfl ?_
  refine g_callvr (As := [.int x3]) (n := 1) C (c_Court_sideOf l hl D cI cJ ad 1 x3 gc1) ⟨rfl, rfl⟩ gcl0 rfl qc45 (hR := ⟨Nat.le_of_ble_eq_true rfl, Nat.le_of_ble_eq_true rfl⟩) rfl rfl (Nat.le_of_ble_eq_true rfl) dX5_serve_21 ⟨Nat.zero_le _, Nat.zero_le _⟩ (fun o5 σ4 h6 => ?_)
  refine g_iload_n C 2 dX5_serve_24 rfl rfl ?_
  refine g_callvi (As := [.int p1]) (n := 1) C (c_Side_placeOf l hl D cI cJ ad o5 p1 (gOf_side gc1 h6)) ⟨rfl, rfl⟩ gcl4 (gSd (gOf_side gc1 h6)).1 qc55 (hR := ⟨Nat.le_of_ble_eq_true rfl, Nat.le_of_ble_eq_true rfl⟩) rfl rfl (Nat.le_of_ble_eq_true rfl) dX5_serve_25 ⟨Nat.zero_le _, Nat.zero_le _⟩ (fun r8 σ7 => ?_)
  refine g_iconst (v := (-1 : Int32)) C dX5_serve_28 (by decide) ?_
  refine g_icmp_ne (tgt := 42) C dX5_serve_29 (by decide) (fun h9 => ?_) (fun h9 => ?_)
  · exact g_throw (text := "the shirt is not on the court") (names := ["java/lang/RuntimeException", "java/lang/Exception"]) C hl hnt (3) (by decide) (by decide) (by decide) (by decide) qw175 qw176 (by decide) qt2 dX5_serve_32 dX5_serve_35 dX5_serve_36 dX5_serve_38 dX5_serve_41 (Nat.le_of_ble_eq_true rfl) (Nat.le_of_ble_eq_true rfl) ⟨Nat.le_refl _, Nat.le_refl _⟩
  · refine g_aload_n C 1 dX5_serve_42 rfl rfl ?_
    refine g_getR (o' := 16) C 0 3 gcl5 rfl (by decide) rfl qw199 dX5_serve_43 ?_
    refine g_iconst (v := (3 : Int32)) C dX5_serve_46 (by decide) ?_
    refine g_iload_n C 0 dX5_serve_47 rfl rfl ?_
    refine g_iload_n C 2 dX5_serve_48 rfl rfl ?_
    refine g_iconst (v := (0 : Int32)) C dX5_serve_49 (by decide) ?_
    refine g_callvv (As := [.int (3 : Int32), .int x3, .int p1, .int (0 : Int32)]) (n := 4) C (c_Sheet_write l hl D cI cJ ad (3 : Int32) x3 p1 (0 : Int32)) ⟨rfl, rfl⟩ gcl3 rfl qc48 (hR := ⟨Nat.le_of_ble_eq_true rfl, Nat.le_of_ble_eq_true rfl⟩) rfl rfl (Nat.le_of_ble_eq_true rfl) dX5_serve_50 ⟨Nat.zero_le _, Nat.zero_le _⟩ (fun σ10 => ?_)
    refine g_aload_n C 1 dX5_serve_53 rfl rfl ?_
    refine g_getR (o' := 15) C 0 2 gcl5 rfl (by decide) rfl qw221 dX5_serve_54 ?_
    refine g_iload_n C 0 dX5_serve_57 rfl rfl ?_
    refine g_iload_n C 2 dX5_serve_58 rfl rfl ?_
    refine g_callvv (As := [.int x3, .int p1]) (n := 2) C (c_Rally_start l hl D cI cJ ad x3 p1) ⟨rfl, rfl⟩ gcl1 rfl qc56 (hR := ⟨Nat.le_of_ble_eq_true rfl, Nat.le_of_ble_eq_true rfl⟩) rfl rfl (Nat.le_of_ble_eq_true rfl) dX5_serve_59 ⟨Nat.zero_le _, Nat.zero_le _⟩ (fun σ11 => ?_)
    refine g_aload_n C 1 dX5_serve_62 rfl rfl ?_
    refine g_iconst (v := (-1 : Int32)) C dX5_serve_63 (by decide) ?_
    refine g_putI C 0 6 gcl5 gft5 rfl (by decide) rfl rfl rfl qw197 dX5_serve_64 (fun σ12 => ?_)
    refine g_aload_n C 1 dX5_serve_67 rfl rfl ?_
    refine g_getR (o' := 1) C 0 0 gcl5 rfl (by decide) rfl qw166 dX5_serve_68 ?_
    refine g_iload_n C 2 dX5_serve_71 rfl rfl ?_
    refine g_callvi (As := [.int p1]) (n := 1) C (c_Court_takeService l hl D cI cJ ad 1 p1 gc1) ⟨rfl, rfl⟩ gcl0 rfl qc57 (hR := ⟨Nat.le_of_ble_eq_true rfl, Nat.le_of_ble_eq_true rfl⟩) rfl rfl (Nat.le_of_ble_eq_true rfl) dX5_serve_72 ⟨Nat.zero_le _, Nat.zero_le _⟩ (fun r14 σ13 => ?_)
    refine gX_z (fun z15 => ?_)
    exact g_xiretz C z15 hr dX5_serve_75

def F_Game_checkRally  (σ : gSt) : Option (Int32 × Int32 × gSt) := if (σ 15 0) = (0 : Int32) then (some ((3 : Int32), (0 : Int32), σ)) else (some ((0 : Int32), (0 : Int32), σ))

set_option maxHeartbeats 4000000 in
set_option maxRecDepth 100000 in
theorem c_Game_checkRally (l : Launch) (hl : l.stackTraces = false) (D : va_G) (cI cJ : ClassId) (ad : Nat → Nat) : gMxv l D cI cJ ad yX5_checkRally cX5_checkRally 1 none { frames := 6, cells := 1, slots := 6, locals := 82 } [.ref (ad 0)] (F_Game_checkRally) := by
  refine gStartXv (L0 := [(0, .ref (ad 0))]) RX5 (by decide) rfl rfl (Nat.le_of_ble_eq_true rfl) ?_
  intro p e s m args below meth c sz σ q C hr hnt
  unfold F_Game_checkRally
  refine g_aload_n C 0 dX5_checkRally_0 rfl rfl ?_
  refine g_getR (o' := 15) C 0 2 gcl5 rfl (by decide) rfl qw221 dX5_checkRally_1 ?_
  refine g_getIN C 15 0 gcl1 rfl (by decide) rfl qn222 dX5_checkRally_4 ?_
  refine g_if_ne (tgt := 20) C dX5_checkRally_7 (by decide) (fun h1 => ?_) (fun h1 => ?_)
  · exact g_throw (text := "no rally goes on") (names := ["java/lang/RuntimeException", "java/lang/Exception"]) C hl hnt (3) (by decide) (by decide) (by decide) (by decide) qw175 qw176 (by decide) qt2 dX5_checkRally_10 dX5_checkRally_13 dX5_checkRally_14 dX5_checkRally_16 dX5_checkRally_19 (Nat.le_of_ble_eq_true rfl) (Nat.le_of_ble_eq_true rfl) ⟨Nat.le_refl _, Nat.le_refl _⟩
  · exact g_xretv C hr dX5_checkRally_20

def F_Game_endSetIfWonBy (p1 : Int32) (σ : gSt) : Option gSt := gbi (F_Court_hasWonSet 1 p1 σ) fun r2 σ1 => if r2 = (0 : Int32) then (some σ1) else (gbv (F_Court_endSet 1 p1 σ1) fun σ4 => some σ4)

set_option maxHeartbeats 4000000 in
set_option maxRecDepth 100000 in
theorem c_Game_endSetIfWonBy (l : Launch) (hl : l.stackTraces = false) (D : va_G) (cI cJ : ClassId) (ad : Nat → Nat) (p1 : Int32) : gMv l D cI cJ ad yX5_endSetIfWonBy cX5_endSetIfWonBy 2 none { frames := 4, cells := 0, slots := 0, locals := 86 } [.ref (ad 0), .int p1] (F_Game_endSetIfWonBy p1) := by
  refine gStartV (L0 := [(0, .ref (ad 0)), (1, .int p1)]) RX5 (by decide) rfl rfl (Nat.le_of_ble_eq_true rfl) ?_
  intro p e s m args below meth c sz σ σ' C hr
  unfold F_Game_endSetIfWonBy
  refine g_aload_n C 0 dX5_endSetIfWonBy_0 rfl rfl ?_
  refine g_getR (o' := 1) C 0 0 gcl5 rfl (by decide) rfl qw166 dX5_endSetIfWonBy_1 ?_
  refine g_iload_n C 1 dX5_endSetIfWonBy_4 rfl rfl ?_
  refine g_callvi (As := [.int p1]) (n := 1) C (c_Court_hasWonSet l hl D cI cJ ad 1 p1 gc1) ⟨rfl, rfl⟩ gcl0 rfl qc58 (hR := ⟨Nat.le_of_ble_eq_true rfl, Nat.le_of_ble_eq_true rfl⟩) rfl rfl (Nat.le_of_ble_eq_true rfl) dX5_endSetIfWonBy_5 ⟨Nat.zero_le _, Nat.zero_le _⟩ (fun r2 σ1 => ?_)
  refine g_if_eq (tgt := 19) C dX5_endSetIfWonBy_8 (by decide) (fun h3 => ?_) (fun h3 => ?_)
  · exact g_retv C hr dX5_endSetIfWonBy_19
  · refine g_aload_n C 0 dX5_endSetIfWonBy_11 rfl rfl ?_
    refine g_getR (o' := 1) C 0 0 gcl5 rfl (by decide) rfl qw166 dX5_endSetIfWonBy_12 ?_
    refine g_iload_n C 1 dX5_endSetIfWonBy_15 rfl rfl ?_
    refine g_callvv (As := [.int p1]) (n := 1) C (c_Court_endSet l hl D cI cJ ad 1 p1 gc1) ⟨rfl, rfl⟩ gcl0 rfl qc59 (hR := ⟨Nat.le_of_ble_eq_true rfl, Nat.le_of_ble_eq_true rfl⟩) rfl rfl (Nat.le_of_ble_eq_true rfl) dX5_endSetIfWonBy_16 ⟨Nat.zero_le _, Nat.zero_le _⟩ (fun σ4 => ?_)
    exact g_retv C hr dX5_endSetIfWonBy_19

def F_Game_endRally (p1 : Int32) (p2 : Int32) (σ : gSt) : Option gSt := gbv (F_Court_copyFrom 8 1 σ) fun σ1 => gl (gup σ1 0 5 (σ1 16 1)) fun σ2 => gl (gup σ2 15 0 (0 : Int32)) fun σ3 => gbv (F_Sheet_write (4 : Int32) p1 (0 : Int32) (0 : Int32) σ3) fun σ4 => gbv (F_Court_givePoint 1 p1 σ4) fun σ5 => gbv (F_Game_endSetIfWonBy p1 σ5) fun σ6 => gl (gup σ6 0 6 ((1 : Int32) - p1)) fun σ7 => gl (gup σ7 0 7 p2) fun σ8 => some σ8

set_option maxHeartbeats 4000000 in
set_option maxRecDepth 100000 in
theorem c_Game_endRally (l : Launch) (hl : l.stackTraces = false) (D : va_G) (cI cJ : ClassId) (ad : Nat → Nat) (p1 : Int32) (p2 : Int32) : gMv l D cI cJ ad yX5_endRally cX5_endRally 3 none { frames := 5, cells := 0, slots := 0, locals := 107 } [.ref (ad 0), .int p1, .int p2] (F_Game_endRally p1 p2) := by
  refine gStartV (L0 := [(0, .ref (ad 0)), (1, .int p1), (2, .int p2)]) RX5 (by decide) rfl rfl (Nat.le_of_ble_eq_true rfl) ?_
  intro p e s m args below meth c sz σ σ' C hr
  unfold F_Game_endRally
  refine g_aload_n C 0 dX5_endRally_0 rfl rfl ?_
  refine g_getR (o' := 8) C 0 1 gcl5 rfl (by decide) rfl qw243 dX5_endRally_1 ?_
  refine g_aload_n C 0 dX5_endRally_4 rfl rfl ?_
  refine g_getR (o' := 1) C 0 0 gcl5 rfl (by decide) rfl qw166 dX5_endRally_5 ?_
  refine g_callvv (As := [.ref (ad 1)]) (n := 1) C (c_Court_copyFrom l hl D cI cJ ad 8 1 gc8 gc1) ⟨rfl, rfl⟩ gcl0 rfl qc60 (hR := ⟨Nat.le_of_ble_eq_true rfl, Nat.le_of_ble_eq_true rfl⟩) rfl rfl (Nat.le_of_ble_eq_true rfl) dX5_endRally_8 ⟨Nat.zero_le _, Nat.zero_le _⟩ (fun σ1 => ?_)
  refine g_aload_n C 0 dX5_endRally_11 rfl rfl ?_
  refine g_aload_n C 0 dX5_endRally_12 rfl rfl ?_
  refine g_getR (o' := 16) C 0 3 gcl5 rfl (by decide) rfl qw199 dX5_endRally_13 ?_
  refine g_getIN C 16 1 gcl3 rfl (by decide) rfl qn248 dX5_endRally_16 ?_
  refine g_putI C 0 5 gcl5 gft5 rfl (by decide) rfl rfl rfl qw249 dX5_endRally_19 (fun σ2 => ?_)
  refine g_aload_n C 0 dX5_endRally_22 rfl rfl ?_
  refine g_getR (o' := 15) C 0 2 gcl5 rfl (by decide) rfl qw221 dX5_endRally_23 ?_
  refine g_iconst (v := (0 : Int32)) C dX5_endRally_26 (by decide) ?_
  refine g_putZN C 15 0 (by decide) gcl1 gft1 rfl (by decide) rfl rfl rfl qn222 dX5_endRally_27 (fun σ3 => ?_)
  refine g_aload_n C 0 dX5_endRally_30 rfl rfl ?_
  refine g_getR (o' := 16) C 0 3 gcl5 rfl (by decide) rfl qw199 dX5_endRally_31 ?_
  refine g_iconst (v := (4 : Int32)) C dX5_endRally_34 (by decide) ?_
  refine g_iload_n C 1 dX5_endRally_35 rfl rfl ?_
  refine g_iconst (v := (0 : Int32)) C dX5_endRally_36 (by decide) ?_
  refine g_iconst (v := (0 : Int32)) C dX5_endRally_37 (by decide) ?_
  refine g_callvv (As := [.int (4 : Int32), .int p1, .int (0 : Int32), .int (0 : Int32)]) (n := 4) C (c_Sheet_write l hl D cI cJ ad (4 : Int32) p1 (0 : Int32) (0 : Int32)) ⟨rfl, rfl⟩ gcl3 rfl qc48 (hR := ⟨Nat.le_of_ble_eq_true rfl, Nat.le_of_ble_eq_true rfl⟩) rfl rfl (Nat.le_of_ble_eq_true rfl) dX5_endRally_38 ⟨Nat.zero_le _, Nat.zero_le _⟩ (fun σ4 => ?_)
  refine g_aload_n C 0 dX5_endRally_41 rfl rfl ?_
  refine g_getR (o' := 1) C 0 0 gcl5 rfl (by decide) rfl qw166 dX5_endRally_42 ?_
  refine g_iload_n C 1 dX5_endRally_45 rfl rfl ?_
  refine g_callvv (As := [.int p1]) (n := 1) C (c_Court_givePoint l hl D cI cJ ad 1 p1 gc1) ⟨rfl, rfl⟩ gcl0 rfl qc61 (hR := ⟨Nat.le_of_ble_eq_true rfl, Nat.le_of_ble_eq_true rfl⟩) rfl rfl (Nat.le_of_ble_eq_true rfl) dX5_endRally_46 ⟨Nat.zero_le _, Nat.zero_le _⟩ (fun σ5 => ?_)
  refine g_aload_n C 0 dX5_endRally_49 rfl rfl ?_
  refine g_iload_n C 1 dX5_endRally_50 rfl rfl ?_
  refine g_callvv (As := [.int p1]) (n := 1) C (c_Game_endSetIfWonBy l hl D cI cJ ad p1) ⟨rfl, rfl⟩ gcl5 rfl qc62 (hR := ⟨Nat.le_of_ble_eq_true rfl, Nat.le_of_ble_eq_true rfl⟩) rfl rfl (Nat.le_of_ble_eq_true rfl) dX5_endRally_51 ⟨Nat.zero_le _, Nat.zero_le _⟩ (fun σ6 => ?_)
  refine g_aload_n C 0 dX5_endRally_54 rfl rfl ?_
  refine g_iconst (v := (1 : Int32)) C dX5_endRally_55 (by decide) ?_
  refine g_iload_n C 1 dX5_endRally_56 rfl rfl ?_
  refine g_isub C dX5_endRally_57 ?_
  refine g_putI C 0 6 gcl5 gft5 rfl (by decide) rfl rfl rfl qw197 dX5_endRally_58 (fun σ7 => ?_)
  refine g_aload_n C 0 dX5_endRally_61 rfl rfl ?_
  refine g_iload_n C 2 dX5_endRally_62 rfl rfl ?_
  refine g_putI C 0 7 gcl5 gft5 rfl (by decide) rfl rfl rfl qw219 dX5_endRally_63 (fun σ8 => ?_)
  exact g_retv C hr dX5_endRally_66

def F_Game_touch_B17 (p1 : Int32) (p2 : Int32) (p3 : Int32) (p4 : Int32) (σ : gSt) : Option (Int32 × Int32 × gSt) := some ((2 : Int32), (0 : Int32), σ)

def F_Game_touch_B89 (p1 : Int32) (p2 : Int32) (p3 : Int32) (p4 : Int32) (l1 : Int32) (l2 : Int32) (l3 : Int32) (l6 : Int32) (σ : gSt) : Option (Int32 × Int32 × gSt) := if l6 = (0 : Int32) then (gbv (F_Rally_note l1 l2 l3 σ) fun σ2 => some ((0 : Int32), l6, σ2)) else (gbv (F_Game_endRally ((1 : Int32) - l1) l6 σ) fun σ3 => some ((0 : Int32), l6, σ3))

def F_Game_touch (p1 : Int32) (p2 : Int32) (p3 : Int32) (p4 : Int32) (σ : gSt) : Option (Int32 × Int32 × gSt) := gbx (F_Game_checkTeam p1 σ) fun σ1 => gbx (F_Game_checkShirt p2 σ1) fun σ2 => if p3 < (0 : Int32) then (F_Game_touch_B17 p1 p2 p3 p4 σ2) else (if p3 ≤ (2 : Int32) then (gbx (F_Game_checkRally σ2) fun σ5 => gbr (F_Court_sideOf 1 p1 σ5) fun o7 σ6 => gbi (F_Side_placeOf o7 p2 σ6) fun r10 σ9 => if r10 = (-1 : Int32) then (some ((3 : Int32), (0 : Int32), σ9)) else (gbi (F_Rally_faultOf p1 p2 p3 σ9) fun r13 σ12 => if r13 = (0 : Int32) then (gbi (F_Side_faultOf o7 p2 p3 p4 σ12) fun r16 σ15 => F_Game_touch_B89 p1 p2 p3 p4 p1 p2 p3 r16 σ15) else (F_Game_touch_B89 p1 p2 p3 p4 p1 p2 p3 r13 σ12))) else (F_Game_touch_B17 p1 p2 p3 p4 σ2))

set_option maxHeartbeats 4000000 in
set_option maxRecDepth 100000 in
theorem b_Game_touch_B17 {p : Program} {l : Launch} {e : Env} {s : State} {m : MethodId} {args : Array Value} {below : List Frame} {meth : Method} {c : Code} {D : va_G} {cI cJ : ClassId} {ad : Nat → Nat} {sz : Nat} {q : Int32 × Int32 × gSt} (C : gC p s m args meth c D cI cJ ad (gA ad sz) cX5_touch 7 RX5) (hr : meth.sig.returnType = (some .int)) (hnt : ∀ x ∈ c.exceptionTable.toList, False) (hl : l.stackTraces = false) (p1 : Int32) (p2 : Int32) (p3 : Int32) (p4 : Int32) (σ : gSt) : gX (F_Game_touch_B17 p1 p2 p3 p4 σ) q (gG p l e { frames := 7, cells := 1, slots := 6, locals := 129 } s m args below meth c D cI cJ ad (gA ad sz) 7 0 0 (vz_MQ below (gQi D cI cJ ad (gA ad sz) q) (gXC D cI cJ ad (gA ad sz) q) args s 1 6 (gA ad sz)) σ 17 [] []) := by
  unfold F_Game_touch_B17
  exact g_throw (text := "no such touch") (names := ["java/lang/RuntimeException", "java/lang/Exception"]) C hl hnt (2) (by decide) (by decide) (by decide) (by decide) qw255 qw256 (by decide) qt3 dX5_touch_17 dX5_touch_20 dX5_touch_21 dX5_touch_23 dX5_touch_26 (Nat.le_of_ble_eq_true rfl) (Nat.le_of_ble_eq_true rfl) ⟨Nat.le_refl _, Nat.le_refl _⟩

set_option maxHeartbeats 4000000 in
set_option maxRecDepth 100000 in
theorem b_Game_touch_B89 {p : Program} {l : Launch} {e : Env} {s : State} {m : MethodId} {args : Array Value} {below : List Frame} {meth : Method} {c : Code} {D : va_G} {cI cJ : ClassId} {ad : Nat → Nat} {sz : Nat} {q : Int32 × Int32 × gSt} (C : gC p s m args meth c D cI cJ ad (gA ad sz) cX5_touch 7 RX5) (hr : meth.sig.returnType = (some .int)) (hnt : ∀ x ∈ c.exceptionTable.toList, False) (hl : l.stackTraces = false) (p1 : Int32) (p2 : Int32) (p3 : Int32) (p4 : Int32) (l1 : Int32) (l2 : Int32) (l3 : Int32) (l6 : Int32) (σ : gSt) : gX (F_Game_touch_B89 p1 p2 p3 p4 l1 l2 l3 l6 σ) q (gG p l e { frames := 7, cells := 1, slots := 6, locals := 129 } s m args below meth c D cI cJ ad (gA ad sz) 7 0 0 (vz_MQ below (gQi D cI cJ ad (gA ad sz) q) (gXC D cI cJ ad (gA ad sz) q) args s 1 6 (gA ad sz)) σ 89 [(0, .ref (ad 0)), (1, .int l1), (2, .int l2), (3, .int l3), (6, .int l6)] []) := by
  unfold F_Game_touch_B89
  refine g_iload C 4 dX5_touch_89 rfl ?_
  refine g_if_ne (tgt := 107) C dX5_touch_91 (by decide) (fun h1 => ?_) (fun h1 => ?_)
  · refine g_aload_n C 0 dX5_touch_94 rfl rfl ?_
    refine g_getR (o' := 15) C 0 2 gcl5 rfl (by decide) rfl qw221 dX5_touch_95 ?_
    refine g_iload_n C 1 dX5_touch_98 rfl rfl ?_
    refine g_iload_n C 2 dX5_touch_99 rfl rfl ?_
    refine g_iload_n C 3 dX5_touch_100 rfl rfl ?_
    refine g_callvv (As := [.int l1, .int l2, .int l3]) (n := 3) C (c_Rally_note l hl D cI cJ ad l1 l2 l3) ⟨rfl, rfl⟩ gcl1 rfl qc66 (hR := ⟨Nat.le_of_ble_eq_true rfl, Nat.le_of_ble_eq_true rfl⟩) rfl rfl (Nat.le_of_ble_eq_true rfl) dX5_touch_101 ⟨Nat.zero_le _, Nat.zero_le _⟩ (fun σ2 => ?_)
    refine g_goto (tgt := 116) C dX5_touch_104 (by decide) ?_
    refine g_iload C 4 dX5_touch_116 rfl ?_
    exact g_xireti C hr dX5_touch_118
  · refine g_aload_n C 0 dX5_touch_107 rfl rfl ?_
    refine g_iconst (v := (1 : Int32)) C dX5_touch_108 (by decide) ?_
    refine g_iload_n C 1 dX5_touch_109 rfl rfl ?_
    refine g_isub C dX5_touch_110 ?_
    refine g_iload C 4 dX5_touch_111 rfl ?_
    refine g_callvv (As := [.int ((1 : Int32) - l1), .int l6]) (n := 2) C (c_Game_endRally l hl D cI cJ ad ((1 : Int32) - l1) l6) ⟨rfl, rfl⟩ gcl5 rfl qc67 (hR := ⟨Nat.le_of_ble_eq_true rfl, Nat.le_of_ble_eq_true rfl⟩) rfl rfl (Nat.le_of_ble_eq_true rfl) dX5_touch_113 ⟨Nat.zero_le _, Nat.zero_le _⟩ (fun σ3 => ?_)
    refine g_iload C 4 dX5_touch_116 rfl ?_
    exact g_xireti C hr dX5_touch_118

set_option maxHeartbeats 4000000 in
set_option maxRecDepth 100000 in
theorem c_Game_touch (l : Launch) (hl : l.stackTraces = false) (D : va_G) (cI cJ : ClassId) (ad : Nat → Nat) (p1 : Int32) (p2 : Int32) (p3 : Int32) (p4 : Int32) : gMxi l D cI cJ ad yX5_touch cX5_touch 7 (some .int) { frames := 7, cells := 1, slots := 6, locals := 129 } [.ref (ad 0), .int p1, .int p2, .int p3, .int p4] (F_Game_touch p1 p2 p3 p4) := by
  refine gStartXi (L0 := [(0, .ref (ad 0)), (1, .int p1), (2, .int p2), (3, .int p3), (4, .int p4)]) RX5 (by decide) rfl rfl (Nat.le_of_ble_eq_true rfl) ?_
  intro p e s m args below meth c sz σ q C hr hnt
  unfold F_Game_touch
  refine g_iload_n C 1 dX5_touch_0 rfl rfl ?_
  refine g_callsx (As := [.int p1]) (n := 1) C hnt (c_Game_checkTeam l hl D cI cJ ad p1) ⟨rfl, rfl⟩ qc41 (hR := ⟨Nat.le_of_ble_eq_true rfl, Nat.le_of_ble_eq_true rfl⟩) rfl rfl (Nat.le_of_ble_eq_true rfl) dX5_touch_1 ⟨Nat.le_refl _, Nat.le_refl _⟩ (fun σ1 => ?_)
  refine g_iload_n C 2 dX5_touch_4 rfl rfl ?_
  refine g_callsx (As := [.int p2]) (n := 1) C hnt (c_Game_checkShirt l hl D cI cJ ad p2) ⟨rfl, rfl⟩ qc43 (hR := ⟨Nat.le_of_ble_eq_true rfl, Nat.le_of_ble_eq_true rfl⟩) rfl rfl (Nat.le_of_ble_eq_true rfl) dX5_touch_5 ⟨Nat.le_refl _, Nat.le_refl _⟩ (fun σ2 => ?_)
  refine g_iload_n C 3 dX5_touch_8 rfl rfl ?_
  refine g_if_lt (tgt := 17) C dX5_touch_9 (by decide) (fun h3 => ?_) (fun h3 => ?_)
  · refine g_loc [] rfl ?_
    exact b_Game_touch_B17 C hr hnt hl p1 p2 p3 p4 σ2
  · refine g_iload_n C 3 dX5_touch_12 rfl rfl ?_
    refine g_iconst (v := (2 : Int32)) C dX5_touch_13 (by decide) ?_
    refine g_icmp_le (tgt := 27) C dX5_touch_14 (by decide) (fun h4 => ?_) (fun h4 => ?_)
    · refine g_aload_n C 0 dX5_touch_27 rfl rfl ?_
      refine g_callvx (As := []) (n := 0) C hnt (c_Game_checkRally l hl D cI cJ ad) ⟨rfl, rfl⟩ gcl5 rfl qc63 (hR := ⟨Nat.le_of_ble_eq_true rfl, Nat.le_of_ble_eq_true rfl⟩) rfl rfl (Nat.le_of_ble_eq_true rfl) dX5_touch_28 ⟨Nat.le_refl _, Nat.le_refl _⟩ (fun σ5 => ?_)
      refine g_aload_n C 0 dX5_touch_31 rfl rfl ?_
      refine g_getR (o' := 1) C 0 0 gcl5 rfl (by decide) rfl qw166 dX5_touch_32 ?_
      refine g_iload_n C 1 dX5_touch_35 rfl rfl ?_
      refine g_callvr (As := [.int p1]) (n := 1) C (c_Court_sideOf l hl D cI cJ ad 1 p1 gc1) ⟨rfl, rfl⟩ gcl0 rfl qc45 (hR := ⟨Nat.le_of_ble_eq_true rfl, Nat.le_of_ble_eq_true rfl⟩) rfl rfl (Nat.le_of_ble_eq_true rfl) dX5_touch_36 ⟨Nat.zero_le _, Nat.zero_le _⟩ (fun o7 σ6 h8 => ?_)
      refine g_astore (L' := [(5, .ref (ad o7)), (0, .ref (ad 0)), (1, .int p1), (2, .int p2), (3, .int p3), (4, .int p4)]) C dX5_touch_39 (by decide) rfl ?_
      refine g_aload C 0 dX5_touch_41 rfl ?_
      refine g_iload_n C 3 dX5_touch_43 rfl rfl ?_
      refine g_callvi (As := [.int p2]) (n := 1) C (c_Side_placeOf l hl D cI cJ ad o7 p2 (gOf_side gc1 h8)) ⟨rfl, rfl⟩ gcl4 (gSd (gOf_side gc1 h8)).1 qc55 (hR := ⟨Nat.le_of_ble_eq_true rfl, Nat.le_of_ble_eq_true rfl⟩) rfl rfl (Nat.le_of_ble_eq_true rfl) dX5_touch_44 ⟨Nat.zero_le _, Nat.zero_le _⟩ (fun r10 σ9 => ?_)
      refine g_iconst (v := (-1 : Int32)) C dX5_touch_47 (by decide) ?_
      refine g_icmp_ne (tgt := 61) C dX5_touch_48 (by decide) (fun h11 => ?_) (fun h11 => ?_)
      · exact g_throw (text := "the shirt is not on the court") (names := ["java/lang/RuntimeException", "java/lang/Exception"]) C hl hnt (3) (by decide) (by decide) (by decide) (by decide) qw175 qw176 (by decide) qt2 dX5_touch_51 dX5_touch_54 dX5_touch_55 dX5_touch_57 dX5_touch_60 (Nat.le_of_ble_eq_true rfl) (Nat.le_of_ble_eq_true rfl) ⟨Nat.le_refl _, Nat.le_refl _⟩
      · refine g_aload_n C 1 dX5_touch_61 rfl rfl ?_
        refine g_getR (o' := 15) C 0 2 gcl5 rfl (by decide) rfl qw221 dX5_touch_62 ?_
        refine g_iload_n C 2 dX5_touch_65 rfl rfl ?_
        refine g_iload_n C 3 dX5_touch_66 rfl rfl ?_
        refine g_iload_n C 4 dX5_touch_67 rfl rfl ?_
        refine g_callvi (As := [.int p1, .int p2, .int p3]) (n := 3) C (c_Rally_faultOf l hl D cI cJ ad p1 p2 p3) ⟨rfl, rfl⟩ gcl1 rfl qc64 (hR := ⟨Nat.le_of_ble_eq_true rfl, Nat.le_of_ble_eq_true rfl⟩) rfl rfl (Nat.le_of_ble_eq_true rfl) dX5_touch_68 ⟨Nat.zero_le _, Nat.zero_le _⟩ (fun r13 σ12 => ?_)
        refine g_istore (L' := [(6, .int r13), (5, .ref (ad o7)), (0, .ref (ad 0)), (1, .int p1), (2, .int p2), (3, .int p3), (4, .int p4)]) C dX5_touch_71 (by decide) rfl ?_
        refine g_iload C 0 dX5_touch_73 rfl ?_
        refine g_if_ne (tgt := 89) C dX5_touch_75 (by decide) (fun h14 => ?_) (fun h14 => ?_)
        · refine g_aload C 1 dX5_touch_78 rfl ?_
          refine g_iload_n C 4 dX5_touch_80 rfl rfl ?_
          refine g_iload_n C 5 dX5_touch_81 rfl rfl ?_
          refine g_iload C 6 dX5_touch_82 rfl ?_
          refine g_callvi (As := [.int p2, .int p3, .int p4]) (n := 3) C (c_Side_faultOf l hl D cI cJ ad o7 p2 p3 p4 (gOf_side gc1 h8)) ⟨rfl, rfl⟩ gcl4 (gSd (gOf_side gc1 h8)).1 qc65 (hR := ⟨Nat.le_of_ble_eq_true rfl, Nat.le_of_ble_eq_true rfl⟩) rfl rfl (Nat.le_of_ble_eq_true rfl) dX5_touch_84 ⟨Nat.zero_le _, Nat.zero_le _⟩ (fun r16 σ15 => ?_)
          refine g_istore (L' := [(6, .int r16), (5, .ref (ad o7)), (0, .ref (ad 0)), (1, .int p1), (2, .int p2), (3, .int p3), (4, .int p4)]) C dX5_touch_87 (by decide) rfl ?_
          refine g_loc [2, 3, 4, 5, 0] rfl ?_
          exact b_Game_touch_B89 C hr hnt hl p1 p2 p3 p4 p1 p2 p3 r16 σ15
        · refine g_loc [2, 3, 4, 5, 0] rfl ?_
          exact b_Game_touch_B89 C hr hnt hl p1 p2 p3 p4 p1 p2 p3 r13 σ12
    · refine g_loc [] rfl ?_
      exact b_Game_touch_B17 C hr hnt hl p1 p2 p3 p4 σ2

def F_Game_fall_B46 (p1 : Int32) (l2 : Int32) (s0 : Int32) (s1 : Int32) (σ : gSt) : Option (Int32 × Int32 × gSt) := gbv (F_Game_endRally s1 s0 σ) fun σ1 => some ((0 : Int32), ((1 : Int32) - l2), σ1)

def F_Game_fall_B29 (p1 : Int32) (l1 : Int32) (s0 : Int32) (σ : gSt) : Option (Int32 × Int32 × gSt) := if l1 = (-1 : Int32) then (F_Game_fall_B46 p1 s0 (7 : Int32) ((1 : Int32) - s0) σ) else (F_Game_fall_B46 p1 s0 (6 : Int32) ((1 : Int32) - s0) σ)

def F_Game_fall_B9 (p1 : Int32) (l1 : Int32) (σ : gSt) : Option (Int32 × Int32 × gSt) := gbx (F_Game_checkRally σ) fun σ1 => if l1 = (-1 : Int32) then (F_Game_fall_B29 p1 l1 (σ1 15 1) σ1) else (F_Game_fall_B29 p1 l1 l1 σ1)

def F_Game_fall (p1 : Int32) (σ : gSt) : Option (Int32 × Int32 × gSt) := if p1 = (-1 : Int32) then (F_Game_fall_B9 p1 p1 σ) else (gbx (F_Game_checkTeam p1 σ) fun σ2 => F_Game_fall_B9 p1 p1 σ2)

set_option maxHeartbeats 4000000 in
set_option maxRecDepth 100000 in
theorem b_Game_fall_B46 {p : Program} {l : Launch} {e : Env} {s : State} {m : MethodId} {args : Array Value} {below : List Frame} {meth : Method} {c : Code} {D : va_G} {cI cJ : ClassId} {ad : Nat → Nat} {sz : Nat} {q : Int32 × Int32 × gSt} (C : gC p s m args meth c D cI cJ ad (gA ad sz) cX5_fall 3 RX5) (hr : meth.sig.returnType = (some .int)) (hnt : ∀ x ∈ c.exceptionTable.toList, False) (hl : l.stackTraces = false) (p1 : Int32) (l2 : Int32) (s0 : Int32) (s1 : Int32) (σ : gSt) : gX (F_Game_fall_B46 p1 l2 s0 s1 σ) q (gG p l e { frames := 7, cells := 1, slots := 6, locals := 129 } s m args below meth c D cI cJ ad (gA ad sz) 3 0 0 (vz_MQ below (gQi D cI cJ ad (gA ad sz) q) (gXC D cI cJ ad (gA ad sz) q) args s 1 6 (gA ad sz)) σ 46 [(2, .int l2)] [.int s0, .int s1, .ref (ad 0)]) := by
  unfold F_Game_fall_B46
  refine g_callvv (As := [.int s1, .int s0]) (n := 2) C (c_Game_endRally l hl D cI cJ ad s1 s0) ⟨rfl, rfl⟩ gcl5 rfl qc67 (hR := ⟨Nat.le_of_ble_eq_true rfl, Nat.le_of_ble_eq_true rfl⟩) rfl rfl (Nat.le_of_ble_eq_true rfl) dX5_fall_46 ⟨Nat.zero_le _, Nat.zero_le _⟩ (fun σ1 => ?_)
  refine g_iconst (v := (1 : Int32)) C dX5_fall_49 (by decide) ?_
  refine g_iload_n C 0 dX5_fall_50 rfl rfl ?_
  refine g_isub C dX5_fall_51 ?_
  exact g_xireti C hr dX5_fall_52

set_option maxHeartbeats 4000000 in
set_option maxRecDepth 100000 in
theorem b_Game_fall_B29 {p : Program} {l : Launch} {e : Env} {s : State} {m : MethodId} {args : Array Value} {below : List Frame} {meth : Method} {c : Code} {D : va_G} {cI cJ : ClassId} {ad : Nat → Nat} {sz : Nat} {q : Int32 × Int32 × gSt} (C : gC p s m args meth c D cI cJ ad (gA ad sz) cX5_fall 3 RX5) (hr : meth.sig.returnType = (some .int)) (hnt : ∀ x ∈ c.exceptionTable.toList, False) (hl : l.stackTraces = false) (p1 : Int32) (l1 : Int32) (s0 : Int32) (σ : gSt) : gX (F_Game_fall_B29 p1 l1 s0 σ) q (gG p l e { frames := 7, cells := 1, slots := 6, locals := 129 } s m args below meth c D cI cJ ad (gA ad sz) 3 0 0 (vz_MQ below (gQi D cI cJ ad (gA ad sz) q) (gXC D cI cJ ad (gA ad sz) q) args s 1 6 (gA ad sz)) σ 29 [(0, .ref (ad 0)), (1, .int l1)] [.int s0]) := by
  unfold F_Game_fall_B29
  refine g_istore_n (L' := [(2, .int s0), (0, .ref (ad 0)), (1, .int l1)]) C dX5_fall_29 rfl (by decide) rfl ?_
  refine g_aload_n C 1 dX5_fall_30 rfl rfl ?_
  refine g_iconst (v := (1 : Int32)) C dX5_fall_31 (by decide) ?_
  refine g_iload_n C 0 dX5_fall_32 rfl rfl ?_
  refine g_isub C dX5_fall_33 ?_
  refine g_iload_n C 2 dX5_fall_34 rfl rfl ?_
  refine g_iconst (v := (-1 : Int32)) C dX5_fall_35 (by decide) ?_
  refine g_icmp_ne (tgt := 44) C dX5_fall_36 (by decide) (fun h1 => ?_) (fun h1 => ?_)
  · refine g_bipush (v := (7 : Int32)) C dX5_fall_39 (by decide) ?_
    refine g_goto (tgt := 46) C dX5_fall_41 (by decide) ?_
    refine g_loc [0] rfl ?_
    exact b_Game_fall_B46 C hr hnt hl p1 s0 (7 : Int32) ((1 : Int32) - s0) σ
  · refine g_bipush (v := (6 : Int32)) C dX5_fall_44 (by decide) ?_
    refine g_loc [0] rfl ?_
    exact b_Game_fall_B46 C hr hnt hl p1 s0 (6 : Int32) ((1 : Int32) - s0) σ

set_option maxHeartbeats 4000000 in
set_option maxRecDepth 100000 in
theorem b_Game_fall_B9 {p : Program} {l : Launch} {e : Env} {s : State} {m : MethodId} {args : Array Value} {below : List Frame} {meth : Method} {c : Code} {D : va_G} {cI cJ : ClassId} {ad : Nat → Nat} {sz : Nat} {q : Int32 × Int32 × gSt} (C : gC p s m args meth c D cI cJ ad (gA ad sz) cX5_fall 3 RX5) (hr : meth.sig.returnType = (some .int)) (hnt : ∀ x ∈ c.exceptionTable.toList, False) (hl : l.stackTraces = false) (p1 : Int32) (l1 : Int32) (σ : gSt) : gX (F_Game_fall_B9 p1 l1 σ) q (gG p l e { frames := 7, cells := 1, slots := 6, locals := 129 } s m args below meth c D cI cJ ad (gA ad sz) 3 0 0 (vz_MQ below (gQi D cI cJ ad (gA ad sz) q) (gXC D cI cJ ad (gA ad sz) q) args s 1 6 (gA ad sz)) σ 9 [(0, .ref (ad 0)), (1, .int l1)] []) := by
  unfold F_Game_fall_B9
  refine g_aload_n C 0 dX5_fall_9 rfl rfl ?_
  refine g_callvx (As := []) (n := 0) C hnt (c_Game_checkRally l hl D cI cJ ad) ⟨rfl, rfl⟩ gcl5 rfl qc63 (hR := ⟨Nat.le_of_ble_eq_true rfl, Nat.le_of_ble_eq_true rfl⟩) rfl rfl (Nat.le_of_ble_eq_true rfl) dX5_fall_10 ⟨Nat.le_refl _, Nat.le_refl _⟩ (fun σ1 => ?_)
  refine g_iload_n C 1 dX5_fall_13 rfl rfl ?_
  refine g_iconst (v := (-1 : Int32)) C dX5_fall_14 (by decide) ?_
  refine g_icmp_ne (tgt := 28) C dX5_fall_15 (by decide) (fun h2 => ?_) (fun h2 => ?_)
  · refine g_aload_n C 0 dX5_fall_18 rfl rfl ?_
    refine g_getR (o' := 15) C 0 2 gcl5 rfl (by decide) rfl qw221 dX5_fall_19 ?_
    refine g_getIN C 15 1 gcl1 rfl (by decide) rfl qn277 dX5_fall_22 ?_
    refine g_goto (tgt := 29) C dX5_fall_25 (by decide) ?_
    refine g_loc [0, 1] rfl ?_
    exact b_Game_fall_B29 C hr hnt hl p1 l1 (σ1 15 1) σ1
  · refine g_iload_n C 1 dX5_fall_28 rfl rfl ?_
    refine g_loc [0, 1] rfl ?_
    exact b_Game_fall_B29 C hr hnt hl p1 l1 l1 σ1

set_option maxHeartbeats 4000000 in
set_option maxRecDepth 100000 in
theorem c_Game_fall (l : Launch) (hl : l.stackTraces = false) (D : va_G) (cI cJ : ClassId) (ad : Nat → Nat) (p1 : Int32) : gMxi l D cI cJ ad yX5_fall cX5_fall 3 (some .int) { frames := 7, cells := 1, slots := 6, locals := 129 } [.ref (ad 0), .int p1] (F_Game_fall p1) := by
  refine gStartXi (L0 := [(0, .ref (ad 0)), (1, .int p1)]) RX5 (by decide) rfl rfl (Nat.le_of_ble_eq_true rfl) ?_
  intro p e s m args below meth c sz σ q C hr hnt
  unfold F_Game_fall
  refine g_iload_n C 1 dX5_fall_0 rfl rfl ?_
  refine g_iconst (v := (-1 : Int32)) C dX5_fall_1 (by decide) ?_
  refine g_icmp_eq (tgt := 9) C dX5_fall_2 (by decide) (fun h1 => ?_) (fun h1 => ?_)
  · refine g_loc [0, 1] rfl ?_
    exact b_Game_fall_B9 C hr hnt hl p1 p1 σ
  · refine g_iload_n C 1 dX5_fall_5 rfl rfl ?_
    refine g_callsx (As := [.int p1]) (n := 1) C hnt (c_Game_checkTeam l hl D cI cJ ad p1) ⟨rfl, rfl⟩ qc41 (hR := ⟨Nat.le_of_ble_eq_true rfl, Nat.le_of_ble_eq_true rfl⟩) rfl rfl (Nat.le_of_ble_eq_true rfl) dX5_fall_6 ⟨Nat.le_refl _, Nat.le_refl _⟩ (fun σ2 => ?_)
    refine g_loc [0, 1] rfl ?_
    exact b_Game_fall_B9 C hr hnt hl p1 p1 σ2

def F_Game_net (p1 : Int32) (p2 : Int32) (σ : gSt) : Option (Int32 × Int32 × gSt) := gbx (F_Game_checkTeam p1 σ) fun σ1 => gbx (F_Game_checkRally σ1) fun σ2 => if p2 = (0 : Int32) then (gbv (F_Rally_noteNet p1 σ2) fun σ4 => if p2 = 0 ∨ p2 = 1 then some ((0 : Int32), p2, σ4) else none) else (gbv (F_Game_endRally ((1 : Int32) - p1) (8 : Int32) σ2) fun σ6 => if p2 = 0 ∨ p2 = 1 then some ((0 : Int32), p2, σ6) else none)

set_option maxHeartbeats 4000000 in
set_option maxRecDepth 100000 in
theorem c_Game_net (l : Launch) (hl : l.stackTraces = false) (D : va_G) (cI cJ : ClassId) (ad : Nat → Nat) (p1 : Int32) (p2 : Int32) : gMxi l D cI cJ ad yX5_net cX5_net 3 (some .boolean) { frames := 7, cells := 1, slots := 6, locals := 129 } [.ref (ad 0), .int p1, .int p2] (F_Game_net p1 p2) := by
  refine gStartXi (L0 := [(0, .ref (ad 0)), (1, .int p1), (2, .int p2)]) RX5 (by decide) rfl rfl (Nat.le_of_ble_eq_true rfl) ?_
  intro p e s m args below meth c sz σ q C hr hnt
  unfold F_Game_net
  refine g_iload_n C 1 dX5_net_0 rfl rfl ?_
  refine g_callsx (As := [.int p1]) (n := 1) C hnt (c_Game_checkTeam l hl D cI cJ ad p1) ⟨rfl, rfl⟩ qc41 (hR := ⟨Nat.le_of_ble_eq_true rfl, Nat.le_of_ble_eq_true rfl⟩) rfl rfl (Nat.le_of_ble_eq_true rfl) dX5_net_1 ⟨Nat.le_refl _, Nat.le_refl _⟩ (fun σ1 => ?_)
  refine g_aload_n C 0 dX5_net_4 rfl rfl ?_
  refine g_callvx (As := []) (n := 0) C hnt (c_Game_checkRally l hl D cI cJ ad) ⟨rfl, rfl⟩ gcl5 rfl qc63 (hR := ⟨Nat.le_of_ble_eq_true rfl, Nat.le_of_ble_eq_true rfl⟩) rfl rfl (Nat.le_of_ble_eq_true rfl) dX5_net_5 ⟨Nat.le_refl _, Nat.le_refl _⟩ (fun σ2 => ?_)
  refine g_iload_n C 2 dX5_net_8 rfl rfl ?_
  refine g_if_eq (tgt := 24) C dX5_net_9 (by decide) (fun h3 => ?_) (fun h3 => ?_)
  · refine g_aload_n C 0 dX5_net_24 rfl rfl ?_
    refine g_getR (o' := 15) C 0 2 gcl5 rfl (by decide) rfl qw221 dX5_net_25 ?_
    refine g_iload_n C 1 dX5_net_28 rfl rfl ?_
    refine g_callvv (As := [.int p1]) (n := 1) C (c_Rally_noteNet l hl D cI cJ ad p1) ⟨rfl, rfl⟩ gcl1 rfl qc68 (hR := ⟨Nat.le_of_ble_eq_true rfl, Nat.le_of_ble_eq_true rfl⟩) rfl rfl (Nat.le_of_ble_eq_true rfl) dX5_net_29 ⟨Nat.zero_le _, Nat.zero_le _⟩ (fun σ4 => ?_)
    refine g_iload_n C 2 dX5_net_32 rfl rfl ?_
    refine gX_z (fun z5 => ?_)
    exact g_xiretz C z5 hr dX5_net_33
  · refine g_aload_n C 0 dX5_net_12 rfl rfl ?_
    refine g_iconst (v := (1 : Int32)) C dX5_net_13 (by decide) ?_
    refine g_iload_n C 1 dX5_net_14 rfl rfl ?_
    refine g_isub C dX5_net_15 ?_
    refine g_bipush (v := (8 : Int32)) C dX5_net_16 (by decide) ?_
    refine g_callvv (As := [.int ((1 : Int32) - p1), .int (8 : Int32)]) (n := 2) C (c_Game_endRally l hl D cI cJ ad ((1 : Int32) - p1) (8 : Int32)) ⟨rfl, rfl⟩ gcl5 rfl qc67 (hR := ⟨Nat.le_of_ble_eq_true rfl, Nat.le_of_ble_eq_true rfl⟩) rfl rfl (Nat.le_of_ble_eq_true rfl) dX5_net_18 ⟨Nat.zero_le _, Nat.zero_le _⟩ (fun σ6 => ?_)
    refine g_goto (tgt := 32) C dX5_net_21 (by decide) ?_
    refine g_iload_n C 2 dX5_net_32 rfl rfl ?_
    refine gX_z (fun z7 => ?_)
    exact g_xiretz C z7 hr dX5_net_33

def F_Game_find_B21  (σ : gSt) : Option (Int32 × Int32 × gSt) := some ((3 : Int32), (0 : Int32), σ)

def F_Game_find  (σ : gSt) : Option (Int32 × Int32 × gSt) := if (σ 15 0) = (0 : Int32) then (if (σ 1 3) = (-1 : Int32) then (F_Game_find_B21 σ) else (gbv (F_Sheet_write (5 : Int32) (σ 1 2) (0 : Int32) (0 : Int32) σ) fun σ3 => gbi (F_Court_takeBack 1 σ3) fun r5 σ4 => gbv (F_Game_endSetIfWonBy (σ4 1 2) σ4) fun σ6 => gl (gup σ6 0 6 (-1 : Int32)) fun σ7 => gl (gup σ7 0 7 (9 : Int32)) fun σ8 => some ((0 : Int32), r5, σ8))) else (F_Game_find_B21 σ)

set_option maxHeartbeats 4000000 in
set_option maxRecDepth 100000 in
theorem b_Game_find_B21 {p : Program} {l : Launch} {e : Env} {s : State} {m : MethodId} {args : Array Value} {below : List Frame} {meth : Method} {c : Code} {D : va_G} {cI cJ : ClassId} {ad : Nat → Nat} {sz : Nat} {q : Int32 × Int32 × gSt} (C : gC p s m args meth c D cI cJ ad (gA ad sz) cX5_find 2 RX5) (hr : meth.sig.returnType = (some .int)) (hnt : ∀ x ∈ c.exceptionTable.toList, False) (hl : l.stackTraces = false) (σ : gSt) : gX (F_Game_find_B21 σ) q (gG p l e { frames := 6, cells := 1, slots := 6, locals := 110 } s m args below meth c D cI cJ ad (gA ad sz) 2 0 0 (vz_MQ below (gQi D cI cJ ad (gA ad sz) q) (gXC D cI cJ ad (gA ad sz) q) args s 1 6 (gA ad sz)) σ 21 [] []) := by
  unfold F_Game_find_B21
  exact g_throw (text := "nothing can be found") (names := ["java/lang/RuntimeException", "java/lang/Exception"]) C hl hnt (3) (by decide) (by decide) (by decide) (by decide) qw175 qw176 (by decide) qt2 dX5_find_21 dX5_find_24 dX5_find_25 dX5_find_27 dX5_find_30 (Nat.le_of_ble_eq_true rfl) (Nat.le_of_ble_eq_true rfl) ⟨Nat.le_refl _, Nat.le_refl _⟩

set_option maxHeartbeats 4000000 in
set_option maxRecDepth 100000 in
theorem c_Game_find (l : Launch) (hl : l.stackTraces = false) (D : va_G) (cI cJ : ClassId) (ad : Nat → Nat) : gMxi l D cI cJ ad yX5_find cX5_find 2 (some .int) { frames := 6, cells := 1, slots := 6, locals := 110 } [.ref (ad 0)] (F_Game_find) := by
  refine gStartXi (L0 := [(0, .ref (ad 0))]) RX5 (by decide) rfl rfl (Nat.le_of_ble_eq_true rfl) ?_
  intro p e s m args below meth c sz σ q C hr hnt
  unfold F_Game_find
  refine g_aload_n C 0 dX5_find_0 rfl rfl ?_
  refine g_getR (o' := 15) C 0 2 gcl5 rfl (by decide) rfl qw221 dX5_find_1 ?_
  refine g_getIN C 15 0 gcl1 rfl (by decide) rfl qn222 dX5_find_4 ?_
  refine g_if_ne (tgt := 21) C dX5_find_7 (by decide) (fun h1 => ?_) (fun h1 => ?_)
  · refine g_aload_n C 0 dX5_find_10 rfl rfl ?_
    refine g_getR (o' := 1) C 0 0 gcl5 rfl (by decide) rfl qw166 dX5_find_11 ?_
    refine g_getIN C 1 3 gcl0 rfl (by decide) rfl qn282 dX5_find_14 ?_
    refine g_iconst (v := (-1 : Int32)) C dX5_find_17 (by decide) ?_
    refine g_icmp_ne (tgt := 31) C dX5_find_18 (by decide) (fun h2 => ?_) (fun h2 => ?_)
    · refine g_loc [] rfl ?_
      exact b_Game_find_B21 C hr hnt hl σ
    · refine g_aload_n C 0 dX5_find_31 rfl rfl ?_
      refine g_getR (o' := 16) C 0 3 gcl5 rfl (by decide) rfl qw199 dX5_find_32 ?_
      refine g_iconst (v := (5 : Int32)) C dX5_find_35 (by decide) ?_
      refine g_aload_n C 0 dX5_find_36 rfl rfl ?_
      refine g_getR (o' := 1) C 0 0 gcl5 rfl (by decide) rfl qw166 dX5_find_37 ?_
      refine g_getIN C 1 2 gcl0 rfl (by decide) rfl qn227 dX5_find_40 ?_
      refine g_iconst (v := (0 : Int32)) C dX5_find_43 (by decide) ?_
      refine g_iconst (v := (0 : Int32)) C dX5_find_44 (by decide) ?_
      refine g_callvv (As := [.int (5 : Int32), .int (σ 1 2), .int (0 : Int32), .int (0 : Int32)]) (n := 4) C (c_Sheet_write l hl D cI cJ ad (5 : Int32) (σ 1 2) (0 : Int32) (0 : Int32)) ⟨rfl, rfl⟩ gcl3 rfl qc48 (hR := ⟨Nat.le_of_ble_eq_true rfl, Nat.le_of_ble_eq_true rfl⟩) rfl rfl (Nat.le_of_ble_eq_true rfl) dX5_find_45 ⟨Nat.zero_le _, Nat.zero_le _⟩ (fun σ3 => ?_)
      refine g_aload_n C 0 dX5_find_48 rfl rfl ?_
      refine g_getR (o' := 1) C 0 0 gcl5 rfl (by decide) rfl qw166 dX5_find_49 ?_
      refine g_callvi (As := []) (n := 0) C (c_Court_takeBack l hl D cI cJ ad 1 gc1) ⟨rfl, rfl⟩ gcl0 rfl qc69 (hR := ⟨Nat.le_of_ble_eq_true rfl, Nat.le_of_ble_eq_true rfl⟩) rfl rfl (Nat.le_of_ble_eq_true rfl) dX5_find_52 ⟨Nat.zero_le _, Nat.zero_le _⟩ (fun r5 σ4 => ?_)
      refine g_istore_n (L' := [(1, .int r5), (0, .ref (ad 0))]) C dX5_find_55 rfl (by decide) rfl ?_
      refine g_aload_n C 1 dX5_find_56 rfl rfl ?_
      refine g_aload_n C 1 dX5_find_57 rfl rfl ?_
      refine g_getR (o' := 1) C 0 0 gcl5 rfl (by decide) rfl qw166 dX5_find_58 ?_
      refine g_getIN C 1 2 gcl0 rfl (by decide) rfl qn227 dX5_find_61 ?_
      refine g_callvv (As := [.int (σ4 1 2)]) (n := 1) C (c_Game_endSetIfWonBy l hl D cI cJ ad (σ4 1 2)) ⟨rfl, rfl⟩ gcl5 rfl qc62 (hR := ⟨Nat.le_of_ble_eq_true rfl, Nat.le_of_ble_eq_true rfl⟩) rfl rfl (Nat.le_of_ble_eq_true rfl) dX5_find_64 ⟨Nat.zero_le _, Nat.zero_le _⟩ (fun σ6 => ?_)
      refine g_aload_n C 1 dX5_find_67 rfl rfl ?_
      refine g_iconst (v := (-1 : Int32)) C dX5_find_68 (by decide) ?_
      refine g_putI C 0 6 gcl5 gft5 rfl (by decide) rfl rfl rfl qw197 dX5_find_69 (fun σ7 => ?_)
      refine g_aload_n C 1 dX5_find_72 rfl rfl ?_
      refine g_bipush (v := (9 : Int32)) C dX5_find_73 (by decide) ?_
      refine g_putI C 0 7 gcl5 gft5 rfl (by decide) rfl rfl rfl qw219 dX5_find_75 (fun σ8 => ?_)
      refine g_iload_n C 0 dX5_find_78 rfl rfl ?_
      exact g_xireti C hr dX5_find_79
  · refine g_loc [] rfl ?_
    exact b_Game_find_B21 C hr hnt hl σ

def F_Game_exchange (p1 : Int32) (p2 : Int32) (σ : gSt) : Option (Int32 × Int32 × gSt) := gbx (F_Game_checkTeam p1 σ) fun σ1 => gbx (F_Game_checkShirt p2 σ1) fun σ2 => gbx (F_Game_checkBetweenRallies σ2) fun σ3 => gbr (F_Court_sideOf 1 p1 σ3) fun o5 σ4 => gbi (F_Side_canExchange o5 p2 σ4) fun r8 σ7 => if r8 = (0 : Int32) then (some ((3 : Int32), (0 : Int32), σ7)) else (gbv (F_Sheet_write (6 : Int32) p1 p2 (0 : Int32) σ7) fun σ10 => gbv (F_Side_swapLibero o5 p2 σ10) fun σ11 => gl (gup σ11 0 6 (-1 : Int32)) fun σ12 => gbi (F_Side_isLiberoIn o5 σ12) fun r14 σ13 => if r14 = 0 ∨ r14 = 1 then some ((0 : Int32), r14, σ13) else none)

set_option maxHeartbeats 4000000 in
set_option maxRecDepth 100000 in
theorem c_Game_exchange (l : Launch) (hl : l.stackTraces = false) (D : va_G) (cI cJ : ClassId) (ad : Nat → Nat) (p1 : Int32) (p2 : Int32) : gMxi l D cI cJ ad yX5_exchange cX5_exchange 4 (some .boolean) { frames := 7, cells := 1, slots := 6, locals := 107 } [.ref (ad 0), .int p1, .int p2] (F_Game_exchange p1 p2) := by
  refine gStartXi (L0 := [(0, .ref (ad 0)), (1, .int p1), (2, .int p2)]) RX5 (by decide) rfl rfl (Nat.le_of_ble_eq_true rfl) ?_
  intro p e s m args below meth c sz σ q C hr hnt
  unfold F_Game_exchange
  refine g_iload_n C 1 dX5_exchange_0 rfl rfl ?_
  refine g_callsx (As := [.int p1]) (n := 1) C hnt (c_Game_checkTeam l hl D cI cJ ad p1) ⟨rfl, rfl⟩ qc41 (hR := ⟨Nat.le_of_ble_eq_true rfl, Nat.le_of_ble_eq_true rfl⟩) rfl rfl (Nat.le_of_ble_eq_true rfl) dX5_exchange_1 ⟨Nat.le_refl _, Nat.le_refl _⟩ (fun σ1 => ?_)
  refine g_iload_n C 2 dX5_exchange_4 rfl rfl ?_
  refine g_callsx (As := [.int p2]) (n := 1) C hnt (c_Game_checkShirt l hl D cI cJ ad p2) ⟨rfl, rfl⟩ qc43 (hR := ⟨Nat.le_of_ble_eq_true rfl, Nat.le_of_ble_eq_true rfl⟩) rfl rfl (Nat.le_of_ble_eq_true rfl) dX5_exchange_5 ⟨Nat.le_refl _, Nat.le_refl _⟩ (fun σ2 => ?_)
  refine g_aload_n C 0 dX5_exchange_8 rfl rfl ?_
  refine g_callvx (As := []) (n := 0) C hnt (c_Game_checkBetweenRallies l hl D cI cJ ad) ⟨rfl, rfl⟩ gcl5 rfl qc54 (hR := ⟨Nat.le_of_ble_eq_true rfl, Nat.le_of_ble_eq_true rfl⟩) rfl rfl (Nat.le_of_ble_eq_true rfl) dX5_exchange_9 ⟨Nat.le_refl _, Nat.le_refl _⟩ (fun σ3 => ?_)
  refine g_aload_n C 0 dX5_exchange_12 rfl rfl ?_
  refine g_getR (o' := 1) C 0 0 gcl5 rfl (by decide) rfl qw166 dX5_exchange_13 ?_
  refine g_iload_n C 1 dX5_exchange_16 rfl rfl ?_
  refine g_callvr (As := [.int p1]) (n := 1) C (c_Court_sideOf l hl D cI cJ ad 1 p1 gc1) ⟨rfl, rfl⟩ gcl0 rfl qc45 (hR := ⟨Nat.le_of_ble_eq_true rfl, Nat.le_of_ble_eq_true rfl⟩) rfl rfl (Nat.le_of_ble_eq_true rfl) dX5_exchange_17 ⟨Nat.zero_le _, Nat.zero_le _⟩ (fun o5 σ4 h6 => ?_)
  refine g_astore_n (L' := [(3, .ref (ad o5)), (0, .ref (ad 0)), (1, .int p1), (2, .int p2)]) C dX5_exchange_20 rfl (by decide) rfl ?_
  refine g_aload_n C 0 dX5_exchange_21 rfl rfl ?_
  refine g_iload_n C 3 dX5_exchange_22 rfl rfl ?_
  refine g_callvi (As := [.int p2]) (n := 1) C (c_Side_canExchange l hl D cI cJ ad o5 p2 (gOf_side gc1 h6)) ⟨rfl, rfl⟩ gcl4 (gSd (gOf_side gc1 h6)).1 qc70 (hR := ⟨Nat.le_of_ble_eq_true rfl, Nat.le_of_ble_eq_true rfl⟩) rfl rfl (Nat.le_of_ble_eq_true rfl) dX5_exchange_23 ⟨Nat.zero_le _, Nat.zero_le _⟩ (fun r8 σ7 => ?_)
  refine g_if_ne (tgt := 39) C dX5_exchange_26 (by decide) (fun h9 => ?_) (fun h9 => ?_)
  · exact g_throw (text := "it cannot be exchanged") (names := ["java/lang/RuntimeException", "java/lang/Exception"]) C hl hnt (3) (by decide) (by decide) (by decide) (by decide) qw175 qw176 (by decide) qt2 dX5_exchange_29 dX5_exchange_32 dX5_exchange_33 dX5_exchange_35 dX5_exchange_38 (Nat.le_of_ble_eq_true rfl) (Nat.le_of_ble_eq_true rfl) ⟨Nat.le_refl _, Nat.le_refl _⟩
  · refine g_aload_n C 1 dX5_exchange_39 rfl rfl ?_
    refine g_getR (o' := 16) C 0 3 gcl5 rfl (by decide) rfl qw199 dX5_exchange_40 ?_
    refine g_bipush (v := (6 : Int32)) C dX5_exchange_43 (by decide) ?_
    refine g_iload_n C 2 dX5_exchange_45 rfl rfl ?_
    refine g_iload_n C 3 dX5_exchange_46 rfl rfl ?_
    refine g_iconst (v := (0 : Int32)) C dX5_exchange_47 (by decide) ?_
    refine g_callvv (As := [.int (6 : Int32), .int p1, .int p2, .int (0 : Int32)]) (n := 4) C (c_Sheet_write l hl D cI cJ ad (6 : Int32) p1 p2 (0 : Int32)) ⟨rfl, rfl⟩ gcl3 rfl qc48 (hR := ⟨Nat.le_of_ble_eq_true rfl, Nat.le_of_ble_eq_true rfl⟩) rfl rfl (Nat.le_of_ble_eq_true rfl) dX5_exchange_48 ⟨Nat.zero_le _, Nat.zero_le _⟩ (fun σ10 => ?_)
    refine g_aload_n C 0 dX5_exchange_51 rfl rfl ?_
    refine g_iload_n C 3 dX5_exchange_52 rfl rfl ?_
    refine g_callvv (As := [.int p2]) (n := 1) C (c_Side_swapLibero l hl D cI cJ ad o5 p2 (gOf_side gc1 h6)) ⟨rfl, rfl⟩ gcl4 (gSd (gOf_side gc1 h6)).1 qc71 (hR := ⟨Nat.le_of_ble_eq_true rfl, Nat.le_of_ble_eq_true rfl⟩) rfl rfl (Nat.le_of_ble_eq_true rfl) dX5_exchange_53 ⟨Nat.zero_le _, Nat.zero_le _⟩ (fun σ11 => ?_)
    refine g_aload_n C 1 dX5_exchange_56 rfl rfl ?_
    refine g_iconst (v := (-1 : Int32)) C dX5_exchange_57 (by decide) ?_
    refine g_putI C 0 6 gcl5 gft5 rfl (by decide) rfl rfl rfl qw197 dX5_exchange_58 (fun σ12 => ?_)
    refine g_aload_n C 0 dX5_exchange_61 rfl rfl ?_
    refine g_callvi (As := []) (n := 0) C (c_Side_isLiberoIn l hl D cI cJ ad o5 (gOf_side gc1 h6)) ⟨rfl, rfl⟩ gcl4 (gSd (gOf_side gc1 h6)).1 qc72 (hR := ⟨Nat.le_of_ble_eq_true rfl, Nat.le_of_ble_eq_true rfl⟩) rfl rfl (Nat.le_of_ble_eq_true rfl) dX5_exchange_62 ⟨Nat.zero_le _, Nat.zero_le _⟩ (fun r14 σ13 => ?_)
    refine gX_z (fun z15 => ?_)
    exact g_xiretz C z15 hr dX5_exchange_65

def F_Game_substitute (p1 : Int32) (p2 : Int32) (p3 : Int32) (σ : gSt) : Option (Int32 × Int32 × gSt) := gbx (F_Game_checkTeam p1 σ) fun σ1 => gbx (F_Game_checkShirt p2 σ1) fun σ2 => gbx (F_Game_checkShirt p3 σ2) fun σ3 => gbx (F_Game_checkBetweenRallies σ3) fun σ4 => gbr (F_Court_sideOf 1 p1 σ4) fun o6 σ5 => gbi (F_Side_canSubstitute o6 p2 p3 σ5) fun r9 σ8 => if r9 = (0 : Int32) then (some ((3 : Int32), (0 : Int32), σ8)) else (gbv (F_Sheet_write (7 : Int32) p1 p2 p3 σ8) fun σ11 => gbv (F_Side_swapByPair o6 p2 p3 σ11) fun σ12 => gl (gup σ12 0 6 (-1 : Int32)) fun σ13 => some ((0 : Int32), (σ13 o6 7), σ13))

set_option maxHeartbeats 4000000 in
set_option maxRecDepth 100000 in
theorem c_Game_substitute (l : Launch) (hl : l.stackTraces = false) (D : va_G) (cI cJ : ClassId) (ad : Nat → Nat) (p1 : Int32) (p2 : Int32) (p3 : Int32) : gMxi l D cI cJ ad yX5_substitute cX5_substitute 5 (some .int) { frames := 7, cells := 1, slots := 6, locals := 102 } [.ref (ad 0), .int p1, .int p2, .int p3] (F_Game_substitute p1 p2 p3) := by
  refine gStartXi (L0 := [(0, .ref (ad 0)), (1, .int p1), (2, .int p2), (3, .int p3)]) RX5 (by decide) rfl rfl (Nat.le_of_ble_eq_true rfl) ?_
  intro p e s m args below meth c sz σ q C hr hnt
  unfold F_Game_substitute
  refine g_iload_n C 1 dX5_substitute_0 rfl rfl ?_
  refine g_callsx (As := [.int p1]) (n := 1) C hnt (c_Game_checkTeam l hl D cI cJ ad p1) ⟨rfl, rfl⟩ qc41 (hR := ⟨Nat.le_of_ble_eq_true rfl, Nat.le_of_ble_eq_true rfl⟩) rfl rfl (Nat.le_of_ble_eq_true rfl) dX5_substitute_1 ⟨Nat.le_refl _, Nat.le_refl _⟩ (fun σ1 => ?_)
  refine g_iload_n C 2 dX5_substitute_4 rfl rfl ?_
  refine g_callsx (As := [.int p2]) (n := 1) C hnt (c_Game_checkShirt l hl D cI cJ ad p2) ⟨rfl, rfl⟩ qc43 (hR := ⟨Nat.le_of_ble_eq_true rfl, Nat.le_of_ble_eq_true rfl⟩) rfl rfl (Nat.le_of_ble_eq_true rfl) dX5_substitute_5 ⟨Nat.le_refl _, Nat.le_refl _⟩ (fun σ2 => ?_)
  refine g_iload_n C 3 dX5_substitute_8 rfl rfl ?_
  refine g_callsx (As := [.int p3]) (n := 1) C hnt (c_Game_checkShirt l hl D cI cJ ad p3) ⟨rfl, rfl⟩ qc43 (hR := ⟨Nat.le_of_ble_eq_true rfl, Nat.le_of_ble_eq_true rfl⟩) rfl rfl (Nat.le_of_ble_eq_true rfl) dX5_substitute_9 ⟨Nat.le_refl _, Nat.le_refl _⟩ (fun σ3 => ?_)
  refine g_aload_n C 0 dX5_substitute_12 rfl rfl ?_
  refine g_callvx (As := []) (n := 0) C hnt (c_Game_checkBetweenRallies l hl D cI cJ ad) ⟨rfl, rfl⟩ gcl5 rfl qc54 (hR := ⟨Nat.le_of_ble_eq_true rfl, Nat.le_of_ble_eq_true rfl⟩) rfl rfl (Nat.le_of_ble_eq_true rfl) dX5_substitute_13 ⟨Nat.le_refl _, Nat.le_refl _⟩ (fun σ4 => ?_)
  refine g_aload_n C 0 dX5_substitute_16 rfl rfl ?_
  refine g_getR (o' := 1) C 0 0 gcl5 rfl (by decide) rfl qw166 dX5_substitute_17 ?_
  refine g_iload_n C 1 dX5_substitute_20 rfl rfl ?_
  refine g_callvr (As := [.int p1]) (n := 1) C (c_Court_sideOf l hl D cI cJ ad 1 p1 gc1) ⟨rfl, rfl⟩ gcl0 rfl qc45 (hR := ⟨Nat.le_of_ble_eq_true rfl, Nat.le_of_ble_eq_true rfl⟩) rfl rfl (Nat.le_of_ble_eq_true rfl) dX5_substitute_21 ⟨Nat.zero_le _, Nat.zero_le _⟩ (fun o6 σ5 h7 => ?_)
  refine g_astore (L' := [(4, .ref (ad o6)), (0, .ref (ad 0)), (1, .int p1), (2, .int p2), (3, .int p3)]) C dX5_substitute_24 (by decide) rfl ?_
  refine g_aload C 0 dX5_substitute_26 rfl ?_
  refine g_iload_n C 3 dX5_substitute_28 rfl rfl ?_
  refine g_iload_n C 4 dX5_substitute_29 rfl rfl ?_
  refine g_callvi (As := [.int p2, .int p3]) (n := 2) C (c_Side_canSubstitute l hl D cI cJ ad o6 p2 p3 (gOf_side gc1 h7)) ⟨rfl, rfl⟩ gcl4 (gSd (gOf_side gc1 h7)).1 qc73 (hR := ⟨Nat.le_of_ble_eq_true rfl, Nat.le_of_ble_eq_true rfl⟩) rfl rfl (Nat.le_of_ble_eq_true rfl) dX5_substitute_30 ⟨Nat.zero_le _, Nat.zero_le _⟩ (fun r9 σ8 => ?_)
  refine g_if_ne (tgt := 46) C dX5_substitute_33 (by decide) (fun h10 => ?_) (fun h10 => ?_)
  · exact g_throw (text := "it cannot be substituted") (names := ["java/lang/RuntimeException", "java/lang/Exception"]) C hl hnt (3) (by decide) (by decide) (by decide) (by decide) qw175 qw176 (by decide) qt2 dX5_substitute_36 dX5_substitute_39 dX5_substitute_40 dX5_substitute_42 dX5_substitute_45 (Nat.le_of_ble_eq_true rfl) (Nat.le_of_ble_eq_true rfl) ⟨Nat.le_refl _, Nat.le_refl _⟩
  · refine g_aload_n C 1 dX5_substitute_46 rfl rfl ?_
    refine g_getR (o' := 16) C 0 3 gcl5 rfl (by decide) rfl qw199 dX5_substitute_47 ?_
    refine g_bipush (v := (7 : Int32)) C dX5_substitute_50 (by decide) ?_
    refine g_iload_n C 2 dX5_substitute_52 rfl rfl ?_
    refine g_iload_n C 3 dX5_substitute_53 rfl rfl ?_
    refine g_iload_n C 4 dX5_substitute_54 rfl rfl ?_
    refine g_callvv (As := [.int (7 : Int32), .int p1, .int p2, .int p3]) (n := 4) C (c_Sheet_write l hl D cI cJ ad (7 : Int32) p1 p2 p3) ⟨rfl, rfl⟩ gcl3 rfl qc48 (hR := ⟨Nat.le_of_ble_eq_true rfl, Nat.le_of_ble_eq_true rfl⟩) rfl rfl (Nat.le_of_ble_eq_true rfl) dX5_substitute_55 ⟨Nat.zero_le _, Nat.zero_le _⟩ (fun σ11 => ?_)
    refine g_aload C 0 dX5_substitute_58 rfl ?_
    refine g_iload_n C 3 dX5_substitute_60 rfl rfl ?_
    refine g_iload_n C 4 dX5_substitute_61 rfl rfl ?_
    refine g_callvv (As := [.int p2, .int p3]) (n := 2) C (c_Side_swapByPair l hl D cI cJ ad o6 p2 p3 (gOf_side gc1 h7)) ⟨rfl, rfl⟩ gcl4 (gSd (gOf_side gc1 h7)).1 qc74 (hR := ⟨Nat.le_of_ble_eq_true rfl, Nat.le_of_ble_eq_true rfl⟩) rfl rfl (Nat.le_of_ble_eq_true rfl) dX5_substitute_62 ⟨Nat.zero_le _, Nat.zero_le _⟩ (fun σ12 => ?_)
    refine g_aload_n C 1 dX5_substitute_65 rfl rfl ?_
    refine g_iconst (v := (-1 : Int32)) C dX5_substitute_66 (by decide) ?_
    refine g_putI C 0 6 gcl5 gft5 rfl (by decide) rfl rfl rfl qw197 dX5_substitute_67 (fun σ13 => ?_)
    refine g_aload C 0 dX5_substitute_70 rfl ?_
    refine g_getIN C o6 7 gcl4 (gSd (gOf_side gc1 h7)).1 (by decide) ((gSd (gOf_side gc1 h7)).2.2.2.1 7 (by decide)) qn295 dX5_substitute_72 ?_
    exact g_xireti C hr dX5_substitute_75

def F_Game_challenge_B28 (p1 : Int32) (σ : gSt) : Option (Int32 × Int32 × gSt) := some ((3 : Int32), (0 : Int32), σ)

def F_Game_challenge (p1 : Int32) (σ : gSt) : Option (Int32 × Int32 × gSt) := gbx (F_Game_checkTeam p1 σ) fun σ1 => gbr (F_Court_sideOf 1 p1 σ1) fun o3 σ2 => if (σ2 0 6) = p1 then (if (σ2 o3 8) = (0 : Int32) then (F_Game_challenge_B28 p1 σ2) else (gbi (F_Rally_isNetNotedOf ((1 : Int32) - p1) σ2) fun r8 σ7 => if r8 = (0 : Int32) then (gl (gup σ7 o3 8 ((σ7 o3 8) - (1 : Int32))) fun σ10 => gl (gup σ10 0 6 (-1 : Int32)) fun σ11 => if r8 = 0 ∨ r8 = 1 then some ((0 : Int32), r8, σ11) else none) else (gbv (F_Court_copyFrom 1 8 σ7) fun σ13 => gbv (F_Sheet_cutTo (σ13 0 5) σ13) fun σ14 => gbv (F_Game_endRally p1 (8 : Int32) σ14) fun σ15 => gl (gup σ15 0 6 (-1 : Int32)) fun σ16 => if r8 = 0 ∨ r8 = 1 then some ((0 : Int32), r8, σ16) else none))) else (F_Game_challenge_B28 p1 σ2)

set_option maxHeartbeats 4000000 in
set_option maxRecDepth 100000 in
theorem b_Game_challenge_B28 {p : Program} {l : Launch} {e : Env} {s : State} {m : MethodId} {args : Array Value} {below : List Frame} {meth : Method} {c : Code} {D : va_G} {cI cJ : ClassId} {ad : Nat → Nat} {sz : Nat} {q : Int32 × Int32 × gSt} (C : gC p s m args meth c D cI cJ ad (gA ad sz) cX5_challenge 4 RX5) (hr : meth.sig.returnType = (some .boolean)) (hnt : ∀ x ∈ c.exceptionTable.toList, False) (hl : l.stackTraces = false) (p1 : Int32) (σ : gSt) : gX (F_Game_challenge_B28 p1 σ) q (gG p l e { frames := 7, cells := 1, slots := 6, locals := 129 } s m args below meth c D cI cJ ad (gA ad sz) 4 0 0 (vz_MQ below (gQi D cI cJ ad (gA ad sz) q) (gXC D cI cJ ad (gA ad sz) q) args s 1 6 (gA ad sz)) σ 28 [] []) := by
  unfold F_Game_challenge_B28
  exact g_throw (text := "the team may not challenge") (names := ["java/lang/RuntimeException", "java/lang/Exception"]) C hl hnt (3) (by decide) (by decide) (by decide) (by decide) qw175 qw176 (by decide) qt2 dX5_challenge_28 dX5_challenge_31 dX5_challenge_32 dX5_challenge_34 dX5_challenge_37 (Nat.le_of_ble_eq_true rfl) (Nat.le_of_ble_eq_true rfl) ⟨Nat.le_refl _, Nat.le_refl _⟩

set_option maxHeartbeats 4000000 in
set_option maxRecDepth 100000 in
theorem c_Game_challenge (l : Launch) (hl : l.stackTraces = false) (D : va_G) (cI cJ : ClassId) (ad : Nat → Nat) (p1 : Int32) : gMxi l D cI cJ ad yX5_challenge cX5_challenge 4 (some .boolean) { frames := 7, cells := 1, slots := 6, locals := 129 } [.ref (ad 0), .int p1] (F_Game_challenge p1) := by
  refine gStartXi (L0 := [(0, .ref (ad 0)), (1, .int p1)]) RX5 (by decide) rfl rfl (Nat.le_of_ble_eq_true rfl) ?_
  intro p e s m args below meth c sz σ q C hr hnt
  unfold F_Game_challenge
  refine g_iload_n C 1 dX5_challenge_0 rfl rfl ?_
  refine g_callsx (As := [.int p1]) (n := 1) C hnt (c_Game_checkTeam l hl D cI cJ ad p1) ⟨rfl, rfl⟩ qc41 (hR := ⟨Nat.le_of_ble_eq_true rfl, Nat.le_of_ble_eq_true rfl⟩) rfl rfl (Nat.le_of_ble_eq_true rfl) dX5_challenge_1 ⟨Nat.le_refl _, Nat.le_refl _⟩ (fun σ1 => ?_)
  refine g_aload_n C 0 dX5_challenge_4 rfl rfl ?_
  refine g_getR (o' := 1) C 0 0 gcl5 rfl (by decide) rfl qw166 dX5_challenge_5 ?_
  refine g_iload_n C 1 dX5_challenge_8 rfl rfl ?_
  refine g_callvr (As := [.int p1]) (n := 1) C (c_Court_sideOf l hl D cI cJ ad 1 p1 gc1) ⟨rfl, rfl⟩ gcl0 rfl qc45 (hR := ⟨Nat.le_of_ble_eq_true rfl, Nat.le_of_ble_eq_true rfl⟩) rfl rfl (Nat.le_of_ble_eq_true rfl) dX5_challenge_9 ⟨Nat.zero_le _, Nat.zero_le _⟩ (fun o3 σ2 h4 => ?_)
  refine g_astore_n (L' := [(2, .ref (ad o3)), (0, .ref (ad 0)), (1, .int p1)]) C dX5_challenge_12 rfl (by decide) rfl ?_
  refine g_aload_n C 1 dX5_challenge_13 rfl rfl ?_
  refine g_getI C 0 6 gcl5 rfl (by decide) rfl qw197 dX5_challenge_14 ?_
  refine g_iload_n C 2 dX5_challenge_17 rfl rfl ?_
  refine g_icmp_ne (tgt := 28) C dX5_challenge_18 (by decide) (fun h5 => ?_) (fun h5 => ?_)
  · refine g_aload_n C 0 dX5_challenge_21 rfl rfl ?_
    refine g_getIN C o3 8 gcl4 (gSd (gOf_side gc1 h4)).1 (by decide) ((gSd (gOf_side gc1 h4)).2.2.2.1 8 (by decide)) qn296 dX5_challenge_22 ?_
    refine g_if_ne (tgt := 38) C dX5_challenge_25 (by decide) (fun h6 => ?_) (fun h6 => ?_)
    · refine g_loc [] rfl ?_
      exact b_Game_challenge_B28 C hr hnt hl p1 σ2
    · refine g_aload_n C 1 dX5_challenge_38 rfl rfl ?_
      refine g_getR (o' := 15) C 0 2 gcl5 rfl (by decide) rfl qw221 dX5_challenge_39 ?_
      refine g_iconst (v := (1 : Int32)) C dX5_challenge_42 (by decide) ?_
      refine g_iload_n C 2 dX5_challenge_43 rfl rfl ?_
      refine g_isub C dX5_challenge_44 ?_
      refine g_callvi (As := [.int ((1 : Int32) - p1)]) (n := 1) C (c_Rally_isNetNotedOf l hl D cI cJ ad ((1 : Int32) - p1)) ⟨rfl, rfl⟩ gcl1 rfl qc75 (hR := ⟨Nat.le_of_ble_eq_true rfl, Nat.le_of_ble_eq_true rfl⟩) rfl rfl (Nat.le_of_ble_eq_true rfl) dX5_challenge_45 ⟨Nat.zero_le _, Nat.zero_le _⟩ (fun r8 σ7 => ?_)
      refine g_istore_n (L' := [(3, .int r8), (2, .ref (ad o3)), (0, .ref (ad 0)), (1, .int p1)]) C dX5_challenge_48 rfl (by decide) rfl ?_
      refine g_iload_n C 0 dX5_challenge_49 rfl rfl ?_
      refine g_if_eq (tgt := 85) C dX5_challenge_50 (by decide) (fun h9 => ?_) (fun h9 => ?_)
      · refine g_aload_n C 1 dX5_challenge_85 rfl rfl ?_
        refine g_dup C dX5_challenge_86 rfl ?_
        refine g_getIN C o3 8 gcl4 (gSd (gOf_side gc1 h4)).1 (by decide) ((gSd (gOf_side gc1 h4)).2.2.2.1 8 (by decide)) qn296 dX5_challenge_87 ?_
        refine g_iconst (v := (1 : Int32)) C dX5_challenge_90 (by decide) ?_
        refine g_isub C dX5_challenge_91 ?_
        refine g_putIN C o3 8 gcl4 gft4 (gSd (gOf_side gc1 h4)).1 (by decide) ((gSd (gOf_side gc1 h4)).2.2.2.1 8 (by decide)) rfl rfl qn296 dX5_challenge_92 (fun σ10 => ?_)
        refine g_aload_n C 2 dX5_challenge_95 rfl rfl ?_
        refine g_iconst (v := (-1 : Int32)) C dX5_challenge_96 (by decide) ?_
        refine g_putI C 0 6 gcl5 gft5 rfl (by decide) rfl rfl rfl qw197 dX5_challenge_97 (fun σ11 => ?_)
        refine g_iload_n C 0 dX5_challenge_100 rfl rfl ?_
        refine gX_z (fun z12 => ?_)
        exact g_xiretz C z12 hr dX5_challenge_101
      · refine g_aload_n C 2 dX5_challenge_53 rfl rfl ?_
        refine g_getR (o' := 1) C 0 0 gcl5 rfl (by decide) rfl qw166 dX5_challenge_54 ?_
        refine g_aload_n C 2 dX5_challenge_57 rfl rfl ?_
        refine g_getR (o' := 8) C 0 1 gcl5 rfl (by decide) rfl qw243 dX5_challenge_58 ?_
        refine g_callvv (As := [.ref (ad 8)]) (n := 1) C (c_Court_copyFrom l hl D cI cJ ad 1 8 gc1 gc8) ⟨rfl, rfl⟩ gcl0 rfl qc60 (hR := ⟨Nat.le_of_ble_eq_true rfl, Nat.le_of_ble_eq_true rfl⟩) rfl rfl (Nat.le_of_ble_eq_true rfl) dX5_challenge_61 ⟨Nat.zero_le _, Nat.zero_le _⟩ (fun σ13 => ?_)
        refine g_aload_n C 2 dX5_challenge_64 rfl rfl ?_
        refine g_getR (o' := 16) C 0 3 gcl5 rfl (by decide) rfl qw199 dX5_challenge_65 ?_
        refine g_aload_n C 2 dX5_challenge_68 rfl rfl ?_
        refine g_getI C 0 5 gcl5 rfl (by decide) rfl qw249 dX5_challenge_69 ?_
        refine g_callvv (As := [.int (σ13 0 5)]) (n := 1) C (c_Sheet_cutTo l hl D cI cJ ad (σ13 0 5)) ⟨rfl, rfl⟩ gcl3 rfl qc51 (hR := ⟨Nat.le_of_ble_eq_true rfl, Nat.le_of_ble_eq_true rfl⟩) rfl rfl (Nat.le_of_ble_eq_true rfl) dX5_challenge_72 ⟨Nat.zero_le _, Nat.zero_le _⟩ (fun σ14 => ?_)
        refine g_aload_n C 2 dX5_challenge_75 rfl rfl ?_
        refine g_iload_n C 3 dX5_challenge_76 rfl rfl ?_
        refine g_bipush (v := (8 : Int32)) C dX5_challenge_77 (by decide) ?_
        refine g_callvv (As := [.int p1, .int (8 : Int32)]) (n := 2) C (c_Game_endRally l hl D cI cJ ad p1 (8 : Int32)) ⟨rfl, rfl⟩ gcl5 rfl qc67 (hR := ⟨Nat.le_of_ble_eq_true rfl, Nat.le_of_ble_eq_true rfl⟩) rfl rfl (Nat.le_of_ble_eq_true rfl) dX5_challenge_79 ⟨Nat.zero_le _, Nat.zero_le _⟩ (fun σ15 => ?_)
        refine g_goto (tgt := 95) C dX5_challenge_82 (by decide) ?_
        refine g_aload_n C 2 dX5_challenge_95 rfl rfl ?_
        refine g_iconst (v := (-1 : Int32)) C dX5_challenge_96 (by decide) ?_
        refine g_putI C 0 6 gcl5 gft5 rfl (by decide) rfl rfl rfl qw197 dX5_challenge_97 (fun σ16 => ?_)
        refine g_iload_n C 0 dX5_challenge_100 rfl rfl ?_
        refine gX_z (fun z17 => ?_)
        exact g_xiretz C z17 hr dX5_challenge_101
  · refine g_loc [] rfl ?_
    exact b_Game_challenge_B28 C hr hnt hl p1 σ2

def F_Game_points (p1 : Int32) (σ : gSt) : Option (Int32 × Int32 × gSt) := gbx (F_Game_checkTeam p1 σ) fun σ1 => gbr (F_Court_sideOf 1 p1 σ1) fun o3 σ2 => some ((0 : Int32), (σ2 o3 4), σ2)

set_option maxHeartbeats 4000000 in
set_option maxRecDepth 100000 in
theorem c_Game_points (l : Launch) (hl : l.stackTraces = false) (D : va_G) (cI cJ : ClassId) (ad : Nat → Nat) (p1 : Int32) : gMxi l D cI cJ ad yX5_points cX5_points 2 (some .int) { frames := 7, cells := 1, slots := 6, locals := 102 } [.ref (ad 0), .int p1] (F_Game_points p1) := by
  refine gStartXi (L0 := [(0, .ref (ad 0)), (1, .int p1)]) RX5 (by decide) rfl rfl (Nat.le_of_ble_eq_true rfl) ?_
  intro p e s m args below meth c sz σ q C hr hnt
  unfold F_Game_points
  refine g_iload_n C 1 dX5_points_0 rfl rfl ?_
  refine g_callsx (As := [.int p1]) (n := 1) C hnt (c_Game_checkTeam l hl D cI cJ ad p1) ⟨rfl, rfl⟩ qc41 (hR := ⟨Nat.le_of_ble_eq_true rfl, Nat.le_of_ble_eq_true rfl⟩) rfl rfl (Nat.le_of_ble_eq_true rfl) dX5_points_1 ⟨Nat.le_refl _, Nat.le_refl _⟩ (fun σ1 => ?_)
  refine g_aload_n C 0 dX5_points_4 rfl rfl ?_
  refine g_getR (o' := 1) C 0 0 gcl5 rfl (by decide) rfl qw166 dX5_points_5 ?_
  refine g_iload_n C 1 dX5_points_8 rfl rfl ?_
  refine g_callvr (As := [.int p1]) (n := 1) C (c_Court_sideOf l hl D cI cJ ad 1 p1 gc1) ⟨rfl, rfl⟩ gcl0 rfl qc45 (hR := ⟨Nat.le_of_ble_eq_true rfl, Nat.le_of_ble_eq_true rfl⟩) rfl rfl (Nat.le_of_ble_eq_true rfl) dX5_points_9 ⟨Nat.zero_le _, Nat.zero_le _⟩ (fun o3 σ2 h4 => ?_)
  refine g_getIN C o3 4 gcl4 (gSd (gOf_side gc1 h4)).1 (by decide) ((gSd (gOf_side gc1 h4)).2.2.2.1 4 (by decide)) qn301 dX5_points_12 ?_
  exact g_xireti C hr dX5_points_15

def F_Game_pointsAnew (p1 : Int32) (σ : gSt) : Option (Int32 × Int32 × gSt) := gbx (F_Game_checkTeam p1 σ) fun σ1 => gbv (F_Reader_read σ1) fun σ2 => gbr (F_Court_sideOf 19 p1 σ2) fun o4 σ3 => some ((0 : Int32), (σ3 o4 4), σ3)

set_option maxHeartbeats 4000000 in
set_option maxRecDepth 100000 in
theorem c_Game_pointsAnew (l : Launch) (hl : l.stackTraces = false) (D : va_G) (cI cJ : ClassId) (ad : Nat → Nat) (p1 : Int32) : gMxi l D cI cJ ad yX5_pointsAnew cX5_pointsAnew 2 (some .int) { frames := 7, cells := 1, slots := 6, locals := 158 } [.ref (ad 0), .int p1] (F_Game_pointsAnew p1) := by
  refine gStartXi (L0 := [(0, .ref (ad 0)), (1, .int p1)]) RX5 (by decide) rfl rfl (Nat.le_of_ble_eq_true rfl) ?_
  intro p e s m args below meth c sz σ q C hr hnt
  unfold F_Game_pointsAnew
  refine g_iload_n C 1 dX5_pointsAnew_0 rfl rfl ?_
  refine g_callsx (As := [.int p1]) (n := 1) C hnt (c_Game_checkTeam l hl D cI cJ ad p1) ⟨rfl, rfl⟩ qc41 (hR := ⟨Nat.le_of_ble_eq_true rfl, Nat.le_of_ble_eq_true rfl⟩) rfl rfl (Nat.le_of_ble_eq_true rfl) dX5_pointsAnew_1 ⟨Nat.le_refl _, Nat.le_refl _⟩ (fun σ1 => ?_)
  refine g_aload_n C 0 dX5_pointsAnew_4 rfl rfl ?_
  refine g_getR (o' := 18) C 0 4 gcl5 rfl (by decide) rfl qw302 dX5_pointsAnew_5 ?_
  refine g_aload_n C 0 dX5_pointsAnew_8 rfl rfl ?_
  refine g_getR (o' := 16) C 0 3 gcl5 rfl (by decide) rfl qw199 dX5_pointsAnew_9 ?_
  refine g_callvv (As := [.ref (ad 16)]) (n := 1) C (c_Reader_read l hl D cI cJ ad) ⟨rfl, rfl⟩ gcl2 rfl qc76 (hR := ⟨Nat.le_of_ble_eq_true rfl, Nat.le_of_ble_eq_true rfl⟩) rfl rfl (Nat.le_of_ble_eq_true rfl) dX5_pointsAnew_12 ⟨Nat.zero_le _, Nat.zero_le _⟩ (fun σ2 => ?_)
  refine g_aload_n C 0 dX5_pointsAnew_15 rfl rfl ?_
  refine g_getR (o' := 18) C 0 4 gcl5 rfl (by decide) rfl qw302 dX5_pointsAnew_16 ?_
  refine g_getRN (o' := 19) C 18 0 gcl2 rfl (by decide) rfl qn307 dX5_pointsAnew_19 ?_
  refine g_iload_n C 1 dX5_pointsAnew_22 rfl rfl ?_
  refine g_callvr (As := [.int p1]) (n := 1) C (c_Court_sideOf l hl D cI cJ ad 19 p1 gc19) ⟨rfl, rfl⟩ gcl0 rfl qc45 (hR := ⟨Nat.le_of_ble_eq_true rfl, Nat.le_of_ble_eq_true rfl⟩) rfl rfl (Nat.le_of_ble_eq_true rfl) dX5_pointsAnew_23 ⟨Nat.zero_le _, Nat.zero_le _⟩ (fun o4 σ3 h5 => ?_)
  refine g_getIN C o4 4 gcl4 (gSd (gOf_side gc19 h5)).1 (by decide) ((gSd (gOf_side gc19 h5)).2.2.2.1 4 (by decide)) qn301 dX5_pointsAnew_26 ?_
  exact g_xireti C hr dX5_pointsAnew_29

def F_Game_sets (p1 : Int32) (σ : gSt) : Option (Int32 × Int32 × gSt) := gbx (F_Game_checkTeam p1 σ) fun σ1 => gbr (F_Court_sideOf 1 p1 σ1) fun o3 σ2 => some ((0 : Int32), (σ2 o3 5), σ2)

set_option maxHeartbeats 4000000 in
set_option maxRecDepth 100000 in
theorem c_Game_sets (l : Launch) (hl : l.stackTraces = false) (D : va_G) (cI cJ : ClassId) (ad : Nat → Nat) (p1 : Int32) : gMxi l D cI cJ ad yX5_sets cX5_sets 2 (some .int) { frames := 7, cells := 1, slots := 6, locals := 102 } [.ref (ad 0), .int p1] (F_Game_sets p1) := by
  refine gStartXi (L0 := [(0, .ref (ad 0)), (1, .int p1)]) RX5 (by decide) rfl rfl (Nat.le_of_ble_eq_true rfl) ?_
  intro p e s m args below meth c sz σ q C hr hnt
  unfold F_Game_sets
  refine g_iload_n C 1 dX5_sets_0 rfl rfl ?_
  refine g_callsx (As := [.int p1]) (n := 1) C hnt (c_Game_checkTeam l hl D cI cJ ad p1) ⟨rfl, rfl⟩ qc41 (hR := ⟨Nat.le_of_ble_eq_true rfl, Nat.le_of_ble_eq_true rfl⟩) rfl rfl (Nat.le_of_ble_eq_true rfl) dX5_sets_1 ⟨Nat.le_refl _, Nat.le_refl _⟩ (fun σ1 => ?_)
  refine g_aload_n C 0 dX5_sets_4 rfl rfl ?_
  refine g_getR (o' := 1) C 0 0 gcl5 rfl (by decide) rfl qw166 dX5_sets_5 ?_
  refine g_iload_n C 1 dX5_sets_8 rfl rfl ?_
  refine g_callvr (As := [.int p1]) (n := 1) C (c_Court_sideOf l hl D cI cJ ad 1 p1 gc1) ⟨rfl, rfl⟩ gcl0 rfl qc45 (hR := ⟨Nat.le_of_ble_eq_true rfl, Nat.le_of_ble_eq_true rfl⟩) rfl rfl (Nat.le_of_ble_eq_true rfl) dX5_sets_9 ⟨Nat.zero_le _, Nat.zero_le _⟩ (fun o3 σ2 h4 => ?_)
  refine g_getIN C o3 5 gcl4 (gSd (gOf_side gc1 h4)).1 (by decide) ((gSd (gOf_side gc1 h4)).2.2.2.1 5 (by decide)) qn308 dX5_sets_12 ?_
  exact g_xireti C hr dX5_sets_15

def F_Game_at (p1 : Int32) (p2 : Int32) (σ : gSt) : Option (Int32 × Int32 × gSt) := gbx (F_Game_checkTeam p1 σ) fun σ1 => gbx (F_Game_checkPlace p2 σ1) fun σ2 => gbr (F_Court_sideOf 1 p1 σ2) fun o4 σ3 => gbi (F_Side_shirtIn o4 p2 σ3) fun r7 σ6 => some ((0 : Int32), r7, σ6)

set_option maxHeartbeats 4000000 in
set_option maxRecDepth 100000 in
theorem c_Game_at (l : Launch) (hl : l.stackTraces = false) (D : va_G) (cI cJ : ClassId) (ad : Nat → Nat) (p1 : Int32) (p2 : Int32) : gMxi l D cI cJ ad yX5_at cX5_at 3 (some .int) { frames := 7, cells := 1, slots := 6, locals := 102 } [.ref (ad 0), .int p1, .int p2] (F_Game_at p1 p2) := by
  refine gStartXi (L0 := [(0, .ref (ad 0)), (1, .int p1), (2, .int p2)]) RX5 (by decide) rfl rfl (Nat.le_of_ble_eq_true rfl) ?_
  intro p e s m args below meth c sz σ q C hr hnt
  unfold F_Game_at
  refine g_iload_n C 1 dX5_at_0 rfl rfl ?_
  refine g_callsx (As := [.int p1]) (n := 1) C hnt (c_Game_checkTeam l hl D cI cJ ad p1) ⟨rfl, rfl⟩ qc41 (hR := ⟨Nat.le_of_ble_eq_true rfl, Nat.le_of_ble_eq_true rfl⟩) rfl rfl (Nat.le_of_ble_eq_true rfl) dX5_at_1 ⟨Nat.le_refl _, Nat.le_refl _⟩ (fun σ1 => ?_)
  refine g_iload_n C 2 dX5_at_4 rfl rfl ?_
  refine g_callsx (As := [.int p2]) (n := 1) C hnt (c_Game_checkPlace l hl D cI cJ ad p2) ⟨rfl, rfl⟩ qc42 (hR := ⟨Nat.le_of_ble_eq_true rfl, Nat.le_of_ble_eq_true rfl⟩) rfl rfl (Nat.le_of_ble_eq_true rfl) dX5_at_5 ⟨Nat.le_refl _, Nat.le_refl _⟩ (fun σ2 => ?_)
  refine g_aload_n C 0 dX5_at_8 rfl rfl ?_
  refine g_getR (o' := 1) C 0 0 gcl5 rfl (by decide) rfl qw166 dX5_at_9 ?_
  refine g_iload_n C 1 dX5_at_12 rfl rfl ?_
  refine g_callvr (As := [.int p1]) (n := 1) C (c_Court_sideOf l hl D cI cJ ad 1 p1 gc1) ⟨rfl, rfl⟩ gcl0 rfl qc45 (hR := ⟨Nat.le_of_ble_eq_true rfl, Nat.le_of_ble_eq_true rfl⟩) rfl rfl (Nat.le_of_ble_eq_true rfl) dX5_at_13 ⟨Nat.zero_le _, Nat.zero_le _⟩ (fun o4 σ3 h5 => ?_)
  refine g_iload_n C 2 dX5_at_16 rfl rfl ?_
  refine g_callvi (As := [.int p2]) (n := 1) C (c_Side_shirtIn l hl D cI cJ ad o4 p2 (gOf_side gc1 h5)) ⟨rfl, rfl⟩ gcl4 (gSd (gOf_side gc1 h5)).1 qc46 (hR := ⟨Nat.le_of_ble_eq_true rfl, Nat.le_of_ble_eq_true rfl⟩) rfl rfl (Nat.le_of_ble_eq_true rfl) dX5_at_17 ⟨Nat.zero_le _, Nat.zero_le _⟩ (fun r7 σ6 => ?_)
  exact g_xireti C hr dX5_at_20

def F_Game_atAnew (p1 : Int32) (p2 : Int32) (σ : gSt) : Option (Int32 × Int32 × gSt) := gbx (F_Game_checkTeam p1 σ) fun σ1 => gbx (F_Game_checkPlace p2 σ1) fun σ2 => gbi (F_Court_isSetOn 1 σ2) fun r4 σ3 => if r4 = (0 : Int32) then (some ((0 : Int32), (-1 : Int32), σ3)) else (gbv (F_Reader_read σ3) fun σ6 => gbr (F_Court_sideOf 19 p1 σ6) fun o8 σ7 => gbi (F_Side_shirtIn o8 p2 σ7) fun r11 σ10 => some ((0 : Int32), r11, σ10))

set_option maxHeartbeats 4000000 in
set_option maxRecDepth 100000 in
theorem c_Game_atAnew (l : Launch) (hl : l.stackTraces = false) (D : va_G) (cI cJ : ClassId) (ad : Nat → Nat) (p1 : Int32) (p2 : Int32) : gMxi l D cI cJ ad yX5_atAnew cX5_atAnew 3 (some .int) { frames := 7, cells := 1, slots := 6, locals := 158 } [.ref (ad 0), .int p1, .int p2] (F_Game_atAnew p1 p2) := by
  refine gStartXi (L0 := [(0, .ref (ad 0)), (1, .int p1), (2, .int p2)]) RX5 (by decide) rfl rfl (Nat.le_of_ble_eq_true rfl) ?_
  intro p e s m args below meth c sz σ q C hr hnt
  unfold F_Game_atAnew
  refine g_iload_n C 1 dX5_atAnew_0 rfl rfl ?_
  refine g_callsx (As := [.int p1]) (n := 1) C hnt (c_Game_checkTeam l hl D cI cJ ad p1) ⟨rfl, rfl⟩ qc41 (hR := ⟨Nat.le_of_ble_eq_true rfl, Nat.le_of_ble_eq_true rfl⟩) rfl rfl (Nat.le_of_ble_eq_true rfl) dX5_atAnew_1 ⟨Nat.le_refl _, Nat.le_refl _⟩ (fun σ1 => ?_)
  refine g_iload_n C 2 dX5_atAnew_4 rfl rfl ?_
  refine g_callsx (As := [.int p2]) (n := 1) C hnt (c_Game_checkPlace l hl D cI cJ ad p2) ⟨rfl, rfl⟩ qc42 (hR := ⟨Nat.le_of_ble_eq_true rfl, Nat.le_of_ble_eq_true rfl⟩) rfl rfl (Nat.le_of_ble_eq_true rfl) dX5_atAnew_5 ⟨Nat.le_refl _, Nat.le_refl _⟩ (fun σ2 => ?_)
  refine g_aload_n C 0 dX5_atAnew_8 rfl rfl ?_
  refine g_getR (o' := 1) C 0 0 gcl5 rfl (by decide) rfl qw166 dX5_atAnew_9 ?_
  refine g_callvi (As := []) (n := 0) C (c_Court_isSetOn l hl D cI cJ ad 1 gc1) ⟨rfl, rfl⟩ gcl0 rfl qc39 (hR := ⟨Nat.le_of_ble_eq_true rfl, Nat.le_of_ble_eq_true rfl⟩) rfl rfl (Nat.le_of_ble_eq_true rfl) dX5_atAnew_12 ⟨Nat.zero_le _, Nat.zero_le _⟩ (fun r4 σ3 => ?_)
  refine g_if_ne (tgt := 20) C dX5_atAnew_15 (by decide) (fun h5 => ?_) (fun h5 => ?_)
  · refine g_iconst (v := (-1 : Int32)) C dX5_atAnew_18 (by decide) ?_
    exact g_xireti C hr dX5_atAnew_19
  · refine g_aload_n C 0 dX5_atAnew_20 rfl rfl ?_
    refine g_getR (o' := 18) C 0 4 gcl5 rfl (by decide) rfl qw302 dX5_atAnew_21 ?_
    refine g_aload_n C 0 dX5_atAnew_24 rfl rfl ?_
    refine g_getR (o' := 16) C 0 3 gcl5 rfl (by decide) rfl qw199 dX5_atAnew_25 ?_
    refine g_callvv (As := [.ref (ad 16)]) (n := 1) C (c_Reader_read l hl D cI cJ ad) ⟨rfl, rfl⟩ gcl2 rfl qc76 (hR := ⟨Nat.le_of_ble_eq_true rfl, Nat.le_of_ble_eq_true rfl⟩) rfl rfl (Nat.le_of_ble_eq_true rfl) dX5_atAnew_28 ⟨Nat.zero_le _, Nat.zero_le _⟩ (fun σ6 => ?_)
    refine g_aload_n C 0 dX5_atAnew_31 rfl rfl ?_
    refine g_getR (o' := 18) C 0 4 gcl5 rfl (by decide) rfl qw302 dX5_atAnew_32 ?_
    refine g_getRN (o' := 19) C 18 0 gcl2 rfl (by decide) rfl qn307 dX5_atAnew_35 ?_
    refine g_iload_n C 1 dX5_atAnew_38 rfl rfl ?_
    refine g_callvr (As := [.int p1]) (n := 1) C (c_Court_sideOf l hl D cI cJ ad 19 p1 gc19) ⟨rfl, rfl⟩ gcl0 rfl qc45 (hR := ⟨Nat.le_of_ble_eq_true rfl, Nat.le_of_ble_eq_true rfl⟩) rfl rfl (Nat.le_of_ble_eq_true rfl) dX5_atAnew_39 ⟨Nat.zero_le _, Nat.zero_le _⟩ (fun o8 σ7 h9 => ?_)
    refine g_iload_n C 2 dX5_atAnew_42 rfl rfl ?_
    refine g_callvi (As := [.int p2]) (n := 1) C (c_Side_shirtIn l hl D cI cJ ad o8 p2 (gOf_side gc19 h9)) ⟨rfl, rfl⟩ gcl4 (gSd (gOf_side gc19 h9)).1 qc46 (hR := ⟨Nat.le_of_ble_eq_true rfl, Nat.le_of_ble_eq_true rfl⟩) rfl rfl (Nat.le_of_ble_eq_true rfl) dX5_atAnew_43 ⟨Nat.zero_le _, Nat.zero_le _⟩ (fun r11 σ10 => ?_)
    exact g_xireti C hr dX5_atAnew_46

def F_Game_about (p1 : Int32) (σ : gSt) : Option (Int32 × Int32 × gSt) := if p1 = (0 : Int32) then (gbi (F_Court_isSetOn 1 σ) fun r3 σ2 => if r3 = (0 : Int32) then (some ((0 : Int32), (0 : Int32), σ2)) else (some ((0 : Int32), (1 : Int32), σ2))) else if p1 = (1 : Int32) then (if (σ 15 0) = (0 : Int32) then (some ((0 : Int32), (0 : Int32), σ)) else (some ((0 : Int32), (1 : Int32), σ))) else if p1 = (2 : Int32) then (some ((0 : Int32), (σ 1 2), σ)) else if p1 = (3 : Int32) then (some ((0 : Int32), (σ 0 7), σ)) else if p1 = (4 : Int32) then (if (σ 15 0) = (0 : Int32) then (some ((0 : Int32), (-1 : Int32), σ)) else (some ((0 : Int32), (σ 15 2), σ))) else (some ((2 : Int32), (0 : Int32), σ))

set_option maxHeartbeats 4000000 in
set_option maxRecDepth 100000 in
theorem c_Game_about (l : Launch) (hl : l.stackTraces = false) (D : va_G) (cI cJ : ClassId) (ad : Nat → Nat) (p1 : Int32) : gMxi l D cI cJ ad yX5_about cX5_about 2 (some .int) { frames := 6, cells := 1, slots := 6, locals := 82 } [.ref (ad 0), .int p1] (F_Game_about p1) := by
  refine gStartXi (L0 := [(0, .ref (ad 0)), (1, .int p1)]) RX5 (by decide) rfl rfl (Nat.le_of_ble_eq_true rfl) ?_
  intro p e s m args below meth c sz σ q C hr hnt
  unfold F_Game_about
  refine g_iload_n C 1 dX5_about_0 rfl rfl ?_
  refine gX_if (fun h1 => ?_) (fun h1 => ?_)
  · refine g_tswIn (tgt := 36) C dX5_about_1 (0) (by rw [h1]; decide) (by decide) (by decide) rfl (by decide) ?_
    refine g_aload_n C 0 dX5_about_36 rfl rfl ?_
    refine g_getR (o' := 1) C 0 0 gcl5 rfl (by decide) rfl qw166 dX5_about_37 ?_
    refine g_callvi (As := []) (n := 0) C (c_Court_isSetOn l hl D cI cJ ad 1 gc1) ⟨rfl, rfl⟩ gcl0 rfl qc39 (hR := ⟨Nat.le_of_ble_eq_true rfl, Nat.le_of_ble_eq_true rfl⟩) rfl rfl (Nat.le_of_ble_eq_true rfl) dX5_about_40 ⟨Nat.zero_le _, Nat.zero_le _⟩ (fun r3 σ2 => ?_)
    refine g_if_eq (tgt := 50) C dX5_about_43 (by decide) (fun h4 => ?_) (fun h4 => ?_)
    · refine g_iconst (v := (0 : Int32)) C dX5_about_50 (by decide) ?_
      exact g_xireti C hr dX5_about_51
    · refine g_iconst (v := (1 : Int32)) C dX5_about_46 (by decide) ?_
      refine g_goto (tgt := 51) C dX5_about_47 (by decide) ?_
      exact g_xireti C hr dX5_about_51
  · refine gX_if (fun h5 => ?_) (fun h5 => ?_)
    · refine g_tswIn (tgt := 52) C dX5_about_1 (1) (by rw [h5]; decide) (by decide) (by decide) rfl (by decide) ?_
      refine g_aload_n C 0 dX5_about_52 rfl rfl ?_
      refine g_getR (o' := 15) C 0 2 gcl5 rfl (by decide) rfl qw221 dX5_about_53 ?_
      refine g_getIN C 15 0 gcl1 rfl (by decide) rfl qn222 dX5_about_56 ?_
      refine g_if_eq (tgt := 66) C dX5_about_59 (by decide) (fun h6 => ?_) (fun h6 => ?_)
      · refine g_iconst (v := (0 : Int32)) C dX5_about_66 (by decide) ?_
        exact g_xireti C hr dX5_about_67
      · refine g_iconst (v := (1 : Int32)) C dX5_about_62 (by decide) ?_
        refine g_goto (tgt := 67) C dX5_about_63 (by decide) ?_
        exact g_xireti C hr dX5_about_67
    · refine gX_if (fun h7 => ?_) (fun h7 => ?_)
      · refine g_tswIn (tgt := 68) C dX5_about_1 (2) (by rw [h7]; decide) (by decide) (by decide) rfl (by decide) ?_
        refine g_aload_n C 0 dX5_about_68 rfl rfl ?_
        refine g_getR (o' := 1) C 0 0 gcl5 rfl (by decide) rfl qw166 dX5_about_69 ?_
        refine g_getIN C 1 2 gcl0 rfl (by decide) rfl qn227 dX5_about_72 ?_
        exact g_xireti C hr dX5_about_75
      · refine gX_if (fun h8 => ?_) (fun h8 => ?_)
        · refine g_tswIn (tgt := 76) C dX5_about_1 (3) (by rw [h8]; decide) (by decide) (by decide) rfl (by decide) ?_
          refine g_aload_n C 0 dX5_about_76 rfl rfl ?_
          refine g_getI C 0 7 gcl5 rfl (by decide) rfl qw219 dX5_about_77 ?_
          exact g_xireti C hr dX5_about_80
        · refine gX_if (fun h9 => ?_) (fun h9 => ?_)
          · refine g_tswIn (tgt := 81) C dX5_about_1 (4) (by rw [h9]; decide) (by decide) (by decide) rfl (by decide) ?_
            refine g_aload_n C 0 dX5_about_81 rfl rfl ?_
            refine g_getR (o' := 15) C 0 2 gcl5 rfl (by decide) rfl qw221 dX5_about_82 ?_
            refine g_getIN C 15 0 gcl1 rfl (by decide) rfl qn222 dX5_about_85 ?_
            refine g_if_eq (tgt := 101) C dX5_about_88 (by decide) (fun h10 => ?_) (fun h10 => ?_)
            · refine g_iconst (v := (-1 : Int32)) C dX5_about_101 (by decide) ?_
              exact g_xireti C hr dX5_about_102
            · refine g_aload_n C 0 dX5_about_91 rfl rfl ?_
              refine g_getR (o' := 15) C 0 2 gcl5 rfl (by decide) rfl qw221 dX5_about_92 ?_
              refine g_getIN C 15 2 gcl1 rfl (by decide) rfl qn309 dX5_about_95 ?_
              refine g_goto (tgt := 102) C dX5_about_98 (by decide) ?_
              exact g_xireti C hr dX5_about_102
          · refine g_tswOut (tgt := 103) C dX5_about_1 (by have t0 := lv_neT h1 (show ((0 : Int32)).toInt = 0 by decide); have t1 := lv_neT h5 (show ((1 : Int32)).toInt = 1 by decide); have t2 := lv_neT h7 (show ((2 : Int32)).toInt = 2 by decide); have t3 := lv_neT h8 (show ((3 : Int32)).toInt = 3 by decide); have t4 := lv_neT h9 (show ((4 : Int32)).toInt = 4 by decide); omega) (by decide) ?_
            exact g_throw (text := "nothing is told about this") (names := ["java/lang/RuntimeException", "java/lang/Exception"]) C hl hnt (2) (by decide) (by decide) (by decide) (by decide) qw255 qw256 (by decide) qt3 dX5_about_103 dX5_about_106 dX5_about_107 dX5_about_109 dX5_about_112 (Nat.le_of_ble_eq_true rfl) (Nat.le_of_ble_eq_true rfl) ⟨Nat.le_refl _, Nat.le_refl _⟩

def F_Game_of_B13 (p1 : Int32) (p2 : Int32) (σ : gSt) : Option (Int32 × Int32 × gSt) := some ((2 : Int32), (0 : Int32), σ)

def F_Game_of (p1 : Int32) (p2 : Int32) (σ : gSt) : Option (Int32 × Int32 × gSt) := gbx (F_Game_checkTeam p1 σ) fun σ1 => if p2 < (0 : Int32) then (F_Game_of_B13 p1 p2 σ1) else (if p2 ≤ (1 : Int32) then (gbr (F_Court_sideOf 1 p1 σ1) fun o5 σ4 => if p2 = (0 : Int32) then (some ((0 : Int32), (σ4 o5 7), σ4)) else (some ((0 : Int32), (σ4 o5 8), σ4))) else (F_Game_of_B13 p1 p2 σ1))

set_option maxHeartbeats 4000000 in
set_option maxRecDepth 100000 in
theorem b_Game_of_B13 {p : Program} {l : Launch} {e : Env} {s : State} {m : MethodId} {args : Array Value} {below : List Frame} {meth : Method} {c : Code} {D : va_G} {cI cJ : ClassId} {ad : Nat → Nat} {sz : Nat} {q : Int32 × Int32 × gSt} (C : gC p s m args meth c D cI cJ ad (gA ad sz) cX5_of 4 RX5) (hr : meth.sig.returnType = (some .int)) (hnt : ∀ x ∈ c.exceptionTable.toList, False) (hl : l.stackTraces = false) (p1 : Int32) (p2 : Int32) (σ : gSt) : gX (F_Game_of_B13 p1 p2 σ) q (gG p l e { frames := 7, cells := 1, slots := 6, locals := 102 } s m args below meth c D cI cJ ad (gA ad sz) 4 0 0 (vz_MQ below (gQi D cI cJ ad (gA ad sz) q) (gXC D cI cJ ad (gA ad sz) q) args s 1 6 (gA ad sz)) σ 13 [] []) := by
  unfold F_Game_of_B13
  exact g_throw (text := "nothing is told of this") (names := ["java/lang/RuntimeException", "java/lang/Exception"]) C hl hnt (2) (by decide) (by decide) (by decide) (by decide) qw255 qw256 (by decide) qt3 dX5_of_13 dX5_of_16 dX5_of_17 dX5_of_19 dX5_of_22 (Nat.le_of_ble_eq_true rfl) (Nat.le_of_ble_eq_true rfl) ⟨Nat.le_refl _, Nat.le_refl _⟩

set_option maxHeartbeats 4000000 in
set_option maxRecDepth 100000 in
theorem c_Game_of (l : Launch) (hl : l.stackTraces = false) (D : va_G) (cI cJ : ClassId) (ad : Nat → Nat) (p1 : Int32) (p2 : Int32) : gMxi l D cI cJ ad yX5_of cX5_of 4 (some .int) { frames := 7, cells := 1, slots := 6, locals := 102 } [.ref (ad 0), .int p1, .int p2] (F_Game_of p1 p2) := by
  refine gStartXi (L0 := [(0, .ref (ad 0)), (1, .int p1), (2, .int p2)]) RX5 (by decide) rfl rfl (Nat.le_of_ble_eq_true rfl) ?_
  intro p e s m args below meth c sz σ q C hr hnt
  unfold F_Game_of
  refine g_iload_n C 1 dX5_of_0 rfl rfl ?_
  refine g_callsx (As := [.int p1]) (n := 1) C hnt (c_Game_checkTeam l hl D cI cJ ad p1) ⟨rfl, rfl⟩ qc41 (hR := ⟨Nat.le_of_ble_eq_true rfl, Nat.le_of_ble_eq_true rfl⟩) rfl rfl (Nat.le_of_ble_eq_true rfl) dX5_of_1 ⟨Nat.le_refl _, Nat.le_refl _⟩ (fun σ1 => ?_)
  refine g_iload_n C 2 dX5_of_4 rfl rfl ?_
  refine g_if_lt (tgt := 13) C dX5_of_5 (by decide) (fun h2 => ?_) (fun h2 => ?_)
  · refine g_loc [] rfl ?_
    exact b_Game_of_B13 C hr hnt hl p1 p2 σ1
  · refine g_iload_n C 2 dX5_of_8 rfl rfl ?_
    refine g_iconst (v := (1 : Int32)) C dX5_of_9 (by decide) ?_
    refine g_icmp_le (tgt := 23) C dX5_of_10 (by decide) (fun h3 => ?_) (fun h3 => ?_)
    · refine g_aload_n C 0 dX5_of_23 rfl rfl ?_
      refine g_getR (o' := 1) C 0 0 gcl5 rfl (by decide) rfl qw166 dX5_of_24 ?_
      refine g_iload_n C 1 dX5_of_27 rfl rfl ?_
      refine g_callvr (As := [.int p1]) (n := 1) C (c_Court_sideOf l hl D cI cJ ad 1 p1 gc1) ⟨rfl, rfl⟩ gcl0 rfl qc45 (hR := ⟨Nat.le_of_ble_eq_true rfl, Nat.le_of_ble_eq_true rfl⟩) rfl rfl (Nat.le_of_ble_eq_true rfl) dX5_of_28 ⟨Nat.zero_le _, Nat.zero_le _⟩ (fun o5 σ4 h6 => ?_)
      refine g_astore_n (L' := [(3, .ref (ad o5)), (0, .ref (ad 0)), (1, .int p1), (2, .int p2)]) C dX5_of_31 rfl (by decide) rfl ?_
      refine g_iload_n C 3 dX5_of_32 rfl rfl ?_
      refine g_if_ne (tgt := 43) C dX5_of_33 (by decide) (fun h7 => ?_) (fun h7 => ?_)
      · refine g_aload_n C 0 dX5_of_36 rfl rfl ?_
        refine g_getIN C o5 7 gcl4 (gSd (gOf_side gc1 h6)).1 (by decide) ((gSd (gOf_side gc1 h6)).2.2.2.1 7 (by decide)) qn295 dX5_of_37 ?_
        refine g_goto (tgt := 47) C dX5_of_40 (by decide) ?_
        exact g_xireti C hr dX5_of_47
      · refine g_aload_n C 0 dX5_of_43 rfl rfl ?_
        refine g_getIN C o5 8 gcl4 (gSd (gOf_side gc1 h6)).1 (by decide) ((gSd (gOf_side gc1 h6)).2.2.2.1 8 (by decide)) qn296 dX5_of_44 ?_
        exact g_xireti C hr dX5_of_47
    · refine g_loc [] rfl ?_
      exact b_Game_of_B13 C hr hnt hl p1 p2 σ1

def F_Game_lost_B14 (p1 : Int32) (p2 : Int32) (σ : gSt) : Option (Int32 × Int32 × gSt) := some ((2 : Int32), (0 : Int32), σ)

def F_Game_lost (p1 : Int32) (p2 : Int32) (σ : gSt) : Option (Int32 × Int32 × gSt) := gbx (F_Game_checkTeam p1 σ) fun σ1 => if p2 < (0 : Int32) then (F_Game_lost_B14 p1 p2 σ1) else (if p2 < (6 : Int32) then (gbv (F_Reader_read σ1) fun σ4 => gbi (F_Reader_lostBy p1 p2 σ4) fun r6 σ5 => some ((0 : Int32), r6, σ5)) else (F_Game_lost_B14 p1 p2 σ1))

set_option maxHeartbeats 4000000 in
set_option maxRecDepth 100000 in
theorem b_Game_lost_B14 {p : Program} {l : Launch} {e : Env} {s : State} {m : MethodId} {args : Array Value} {below : List Frame} {meth : Method} {c : Code} {D : va_G} {cI cJ : ClassId} {ad : Nat → Nat} {sz : Nat} {q : Int32 × Int32 × gSt} (C : gC p s m args meth c D cI cJ ad (gA ad sz) cX5_lost 3 RX5) (hr : meth.sig.returnType = (some .int)) (hnt : ∀ x ∈ c.exceptionTable.toList, False) (hl : l.stackTraces = false) (p1 : Int32) (p2 : Int32) (σ : gSt) : gX (F_Game_lost_B14 p1 p2 σ) q (gG p l e { frames := 7, cells := 1, slots := 6, locals := 158 } s m args below meth c D cI cJ ad (gA ad sz) 3 0 0 (vz_MQ below (gQi D cI cJ ad (gA ad sz) q) (gXC D cI cJ ad (gA ad sz) q) args s 1 6 (gA ad sz)) σ 14 [] []) := by
  unfold F_Game_lost_B14
  exact g_throw (text := "no such remainder") (names := ["java/lang/RuntimeException", "java/lang/Exception"]) C hl hnt (2) (by decide) (by decide) (by decide) (by decide) qw255 qw256 (by decide) qt3 dX5_lost_14 dX5_lost_17 dX5_lost_18 dX5_lost_20 dX5_lost_23 (Nat.le_of_ble_eq_true rfl) (Nat.le_of_ble_eq_true rfl) ⟨Nat.le_refl _, Nat.le_refl _⟩

set_option maxHeartbeats 4000000 in
set_option maxRecDepth 100000 in
theorem c_Game_lost (l : Launch) (hl : l.stackTraces = false) (D : va_G) (cI cJ : ClassId) (ad : Nat → Nat) (p1 : Int32) (p2 : Int32) : gMxi l D cI cJ ad yX5_lost cX5_lost 3 (some .int) { frames := 7, cells := 1, slots := 6, locals := 158 } [.ref (ad 0), .int p1, .int p2] (F_Game_lost p1 p2) := by
  refine gStartXi (L0 := [(0, .ref (ad 0)), (1, .int p1), (2, .int p2)]) RX5 (by decide) rfl rfl (Nat.le_of_ble_eq_true rfl) ?_
  intro p e s m args below meth c sz σ q C hr hnt
  unfold F_Game_lost
  refine g_iload_n C 1 dX5_lost_0 rfl rfl ?_
  refine g_callsx (As := [.int p1]) (n := 1) C hnt (c_Game_checkTeam l hl D cI cJ ad p1) ⟨rfl, rfl⟩ qc41 (hR := ⟨Nat.le_of_ble_eq_true rfl, Nat.le_of_ble_eq_true rfl⟩) rfl rfl (Nat.le_of_ble_eq_true rfl) dX5_lost_1 ⟨Nat.le_refl _, Nat.le_refl _⟩ (fun σ1 => ?_)
  refine g_iload_n C 2 dX5_lost_4 rfl rfl ?_
  refine g_if_lt (tgt := 14) C dX5_lost_5 (by decide) (fun h2 => ?_) (fun h2 => ?_)
  · refine g_loc [] rfl ?_
    exact b_Game_lost_B14 C hr hnt hl p1 p2 σ1
  · refine g_iload_n C 2 dX5_lost_8 rfl rfl ?_
    refine g_bipush (v := (6 : Int32)) C dX5_lost_9 (by decide) ?_
    refine g_icmp_lt (tgt := 24) C dX5_lost_11 (by decide) (fun h3 => ?_) (fun h3 => ?_)
    · refine g_aload_n C 0 dX5_lost_24 rfl rfl ?_
      refine g_getR (o' := 18) C 0 4 gcl5 rfl (by decide) rfl qw302 dX5_lost_25 ?_
      refine g_aload_n C 0 dX5_lost_28 rfl rfl ?_
      refine g_getR (o' := 16) C 0 3 gcl5 rfl (by decide) rfl qw199 dX5_lost_29 ?_
      refine g_callvv (As := [.ref (ad 16)]) (n := 1) C (c_Reader_read l hl D cI cJ ad) ⟨rfl, rfl⟩ gcl2 rfl qc76 (hR := ⟨Nat.le_of_ble_eq_true rfl, Nat.le_of_ble_eq_true rfl⟩) rfl rfl (Nat.le_of_ble_eq_true rfl) dX5_lost_32 ⟨Nat.zero_le _, Nat.zero_le _⟩ (fun σ4 => ?_)
      refine g_aload_n C 0 dX5_lost_35 rfl rfl ?_
      refine g_getR (o' := 18) C 0 4 gcl5 rfl (by decide) rfl qw302 dX5_lost_36 ?_
      refine g_iload_n C 1 dX5_lost_39 rfl rfl ?_
      refine g_iload_n C 2 dX5_lost_40 rfl rfl ?_
      refine g_callvi (As := [.int p1, .int p2]) (n := 2) C (c_Reader_lostBy l hl D cI cJ ad p1 p2) ⟨rfl, rfl⟩ gcl2 rfl qc77 (hR := ⟨Nat.le_of_ble_eq_true rfl, Nat.le_of_ble_eq_true rfl⟩) rfl rfl (Nat.le_of_ble_eq_true rfl) dX5_lost_41 ⟨Nat.zero_le _, Nat.zero_le _⟩ (fun r6 σ5 => ?_)
      exact g_xireti C hr dX5_lost_44
    · refine g_loc [] rfl ?_
      exact b_Game_lost_B14 C hr hnt hl p1 p2 σ1
end
