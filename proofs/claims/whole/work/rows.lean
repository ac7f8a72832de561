section
-- ===== PART A: goes FIRST, ahead of the names: the tables' words, and 'selects' of the private methods out of them =====
/-- a private method of a class that the tables say can be made, by its rows of tables_1 -/
def lw_okq (q : MethodName × Nat) : Prop := (q.1.cls ≠ "java/lang/invoke/MethodHandle" ∧ q.1.cls ≠ "java/lang/invoke/VarHandle") ∧ Cond.instantiable q.1.cls q.2 ∈ tables_1 ∧ Cond.privateMethod q.1 ∈ tables_1 ∧ Cond.instanceMethod q.1 ∈ tables_1
theorem lw_p0 : lw_okq (⟨"java/lang/Throwable", "fillInStackTrace", "(I)Ljava/lang/Throwable;"⟩, 6) := ⟨⟨by decide +kernel, by decide +kernel⟩, List.mem_of_getElem? (i := 239) (by decide +kernel), List.mem_of_getElem? (i := 237) (by decide +kernel), List.mem_of_getElem? (i := 238) (by decide +kernel)⟩
theorem lw_p1 : lw_okq (⟨"Rotationary", "checkAheadOfSet", "()V"⟩, 8) := ⟨⟨by decide +kernel, by decide +kernel⟩, List.mem_of_getElem? (i := 15) (by decide +kernel), List.mem_of_getElem? (i := 277) (by decide +kernel), List.mem_of_getElem? (i := 278) (by decide +kernel)⟩
theorem lw_p2 : lw_okq (⟨"Rotationary", "writeOrder", "(I)V"⟩, 8) := ⟨⟨by decide +kernel, by decide +kernel⟩, List.mem_of_getElem? (i := 15) (by decide +kernel), List.mem_of_getElem? (i := 356) (by decide +kernel), List.mem_of_getElem? (i := 357) (by decide +kernel)⟩
theorem lw_p3 : lw_okq (⟨"Rotationary", "checkBetweenRallies", "()V"⟩, 8) := ⟨⟨by decide +kernel, by decide +kernel⟩, List.mem_of_getElem? (i := 15) (by decide +kernel), List.mem_of_getElem? (i := 376) (by decide +kernel), List.mem_of_getElem? (i := 377) (by decide +kernel)⟩
theorem lw_p4 : lw_okq (⟨"Rotationary", "checkRally", "()V"⟩, 8) := ⟨⟨by decide +kernel, by decide +kernel⟩, List.mem_of_getElem? (i := 15) (by decide +kernel), List.mem_of_getElem? (i := 417) (by decide +kernel), List.mem_of_getElem? (i := 418) (by decide +kernel)⟩
theorem lw_p5 : lw_okq (⟨"Rotationary", "endRally", "(II)V"⟩, 8) := ⟨⟨by decide +kernel, by decide +kernel⟩, List.mem_of_getElem? (i := 15) (by decide +kernel), List.mem_of_getElem? (i := 438) (by decide +kernel), List.mem_of_getElem? (i := 439) (by decide +kernel)⟩
theorem lw_p6 : lw_okq (⟨"Rotationary", "endSetIfWonBy", "(I)V"⟩, 8) := ⟨⟨by decide +kernel, by decide +kernel⟩, List.mem_of_getElem? (i := 15) (by decide +kernel), List.mem_of_getElem? (i := 463) (by decide +kernel), List.mem_of_getElem? (i := 464) (by decide +kernel)⟩
theorem lw_p7 : lw_okq (⟨"Rotationary$Reader", "clear", "()V"⟩, 3) := ⟨⟨by decide +kernel, by decide +kernel⟩, List.mem_of_getElem? (i := 145) (by decide +kernel), List.mem_of_getElem? (i := 574) (by decide +kernel), List.mem_of_getElem? (i := 575) (by decide +kernel)⟩
theorem lw_p8 : lw_okq (⟨"Rotationary$Reader", "follow", "(IIII)V"⟩, 3) := ⟨⟨by decide +kernel, by decide +kernel⟩, List.mem_of_getElem? (i := 145) (by decide +kernel), List.mem_of_getElem? (i := 597) (by decide +kernel), List.mem_of_getElem? (i := 598) (by decide +kernel)⟩
theorem lw_p9 : lw_okq (⟨"Rotationary$Reader", "countLost", "(I)V"⟩, 3) := ⟨⟨by decide +kernel, by decide +kernel⟩, List.mem_of_getElem? (i := 145) (by decide +kernel), List.mem_of_getElem? (i := 605) (by decide +kernel), List.mem_of_getElem? (i := 606) (by decide +kernel)⟩
theorem lw_p10 : lw_okq (⟨"Rotationary$Reader", "rowOf", "(I)[I"⟩, 3) := ⟨⟨by decide +kernel, by decide +kernel⟩, List.mem_of_getElem? (i := 145) (by decide +kernel), List.mem_of_getElem? (i := 609) (by decide +kernel), List.mem_of_getElem? (i := 610) (by decide +kernel)⟩
theorem lw_p11 : lw_okq (⟨"RotationaryModel", "isOver", "()Z"⟩, 3) := ⟨⟨by decide +kernel, by decide +kernel⟩, List.mem_of_getElem? (i := 668) (by decide +kernel), List.mem_of_getElem? (i := 701) (by decide +kernel), List.mem_of_getElem? (i := 702) (by decide +kernel)⟩
theorem lw_p12 : lw_okq (⟨"RotationaryModel", "goes", "(I)Z"⟩, 3) := ⟨⟨by decide +kernel, by decide +kernel⟩, List.mem_of_getElem? (i := 668) (by decide +kernel), List.mem_of_getElem? (i := 705) (by decide +kernel), List.mem_of_getElem? (i := 706) (by decide +kernel)⟩
theorem lw_p13 : lw_okq (⟨"RotationaryModel", "isLinedUp", "(I)Z"⟩, 3) := ⟨⟨by decide +kernel, by decide +kernel⟩, List.mem_of_getElem? (i := 668) (by decide +kernel), List.mem_of_getElem? (i := 720) (by decide +kernel), List.mem_of_getElem? (i := 721) (by decide +kernel)⟩
theorem lw_p14 : lw_okq (⟨"RotationaryModel", "place", "(II)I"⟩, 3) := ⟨⟨by decide +kernel, by decide +kernel⟩, List.mem_of_getElem? (i := 668) (by decide +kernel), List.mem_of_getElem? (i := 724) (by decide +kernel), List.mem_of_getElem? (i := 725) (by decide +kernel)⟩
theorem lw_p15 : lw_okq (⟨"RotationaryModel", "fault", "(IIIZ)I"⟩, 3) := ⟨⟨by decide +kernel, by decide +kernel⟩, List.mem_of_getElem? (i := 668) (by decide +kernel), List.mem_of_getElem? (i := 736) (by decide +kernel), List.mem_of_getElem? (i := 737) (by decide +kernel)⟩
def lw_privs_1 : List (MethodName × Nat) := [(⟨"java/lang/Throwable", "fillInStackTrace", "(I)Ljava/lang/Throwable;"⟩, 6), (⟨"Rotationary", "checkAheadOfSet", "()V"⟩, 8), (⟨"Rotationary", "writeOrder", "(I)V"⟩, 8), (⟨"Rotationary", "checkBetweenRallies", "()V"⟩, 8), (⟨"Rotationary", "checkRally", "()V"⟩, 8), (⟨"Rotationary", "endRally", "(II)V"⟩, 8), (⟨"Rotationary", "endSetIfWonBy", "(I)V"⟩, 8), (⟨"Rotationary$Reader", "clear", "()V"⟩, 3), (⟨"Rotationary$Reader", "follow", "(IIII)V"⟩, 3), (⟨"Rotationary$Reader", "countLost", "(I)V"⟩, 3), (⟨"Rotationary$Reader", "rowOf", "(I)[I"⟩, 3), (⟨"RotationaryModel", "isOver", "()Z"⟩, 3), (⟨"RotationaryModel", "goes", "(I)Z"⟩, 3), (⟨"RotationaryModel", "isLinedUp", "(I)Z"⟩, 3), (⟨"RotationaryModel", "place", "(II)I"⟩, 3), (⟨"RotationaryModel", "fault", "(IIIZ)I"⟩, 3)]
theorem lw_r1 : ∀ q ∈ lw_privs_1, lw_okq q := List.forall_mem_cons.mpr ⟨lw_p0, List.forall_mem_cons.mpr ⟨lw_p1, List.forall_mem_cons.mpr ⟨lw_p2, List.forall_mem_cons.mpr ⟨lw_p3, List.forall_mem_cons.mpr ⟨lw_p4, List.forall_mem_cons.mpr ⟨lw_p5, List.forall_mem_cons.mpr ⟨lw_p6, List.forall_mem_cons.mpr ⟨lw_p7, List.forall_mem_cons.mpr ⟨lw_p8, List.forall_mem_cons.mpr ⟨lw_p9, List.forall_mem_cons.mpr ⟨lw_p10, List.forall_mem_cons.mpr ⟨lw_p11, List.forall_mem_cons.mpr ⟨lw_p12, List.forall_mem_cons.mpr ⟨lw_p13, List.forall_mem_cons.mpr ⟨lw_p14, List.forall_mem_cons.mpr ⟨lw_p15, fun _ h => absurd h List.not_mem_nil⟩⟩⟩⟩⟩⟩⟩⟩⟩⟩⟩⟩⟩⟩⟩⟩
theorem lw_p16 : lw_okq (⟨"RotationaryModel", "ends", "(II)V"⟩, 3) := ⟨⟨by decide +kernel, by decide +kernel⟩, List.mem_of_getElem? (i := 668) (by decide +kernel), List.mem_of_getElem? (i := 743) (by decide +kernel), List.mem_of_getElem? (i := 744) (by decide +kernel)⟩
theorem lw_p17 : lw_okq (⟨"RotationaryModel", "wins", "(II)V"⟩, 3) := ⟨⟨by decide +kernel, by decide +kernel⟩, List.mem_of_getElem? (i := 668) (by decide +kernel), List.mem_of_getElem? (i := 747) (by decide +kernel), List.mem_of_getElem? (i := 748) (by decide +kernel)⟩
theorem lw_p18 : lw_okq (⟨"RotationaryModel", "scores", "(I)V"⟩, 3) := ⟨⟨by decide +kernel, by decide +kernel⟩, List.mem_of_getElem? (i := 668) (by decide +kernel), List.mem_of_getElem? (i := 751) (by decide +kernel), List.mem_of_getElem? (i := 752) (by decide +kernel)⟩
theorem lw_p19 : lw_okq (⟨"RotationaryModel", "rotates", "(I)V"⟩, 3) := ⟨⟨by decide +kernel, by decide +kernel⟩, List.mem_of_getElem? (i := 668) (by decide +kernel), List.mem_of_getElem? (i := 755) (by decide +kernel), List.mem_of_getElem? (i := 756) (by decide +kernel)⟩
theorem lw_p20 : lw_okq (⟨"RotationaryModel", "pair", "(II)I"⟩, 3) := ⟨⟨by decide +kernel, by decide +kernel⟩, List.mem_of_getElem? (i := 668) (by decide +kernel), List.mem_of_getElem? (i := 779) (by decide +kernel), List.mem_of_getElem? (i := 780) (by decide +kernel)⟩
def lw_privs_2 : List (MethodName × Nat) := [(⟨"RotationaryModel", "ends", "(II)V"⟩, 3), (⟨"RotationaryModel", "wins", "(II)V"⟩, 3), (⟨"RotationaryModel", "scores", "(I)V"⟩, 3), (⟨"RotationaryModel", "rotates", "(I)V"⟩, 3), (⟨"RotationaryModel", "pair", "(II)I"⟩, 3)]
theorem lw_r2 : ∀ q ∈ lw_privs_2, lw_okq q := List.forall_mem_cons.mpr ⟨lw_p16, List.forall_mem_cons.mpr ⟨lw_p17, List.forall_mem_cons.mpr ⟨lw_p18, List.forall_mem_cons.mpr ⟨lw_p19, List.forall_mem_cons.mpr ⟨lw_p20, fun _ h => absurd h List.not_mem_nil⟩⟩⟩⟩⟩
def lw_privs : List (MethodName × Nat) := lw_privs_1 ++ (lw_privs_2)
def lw_tbl : List Cond := k2_sels lw_privs ++ tables_1
theorem lw_privs_ok : ∀ q ∈ lw_privs, lw_okq q := by
  show ∀ q ∈ lw_privs_1 ++ (lw_privs_2), lw_okq q
  exact List.forall_mem_append.mpr ⟨lw_r1, lw_r2⟩
end
section
/-! ===== BEGIN words of one list among another's, by their places ===== -/
theorem goodIn_r {big : List Cond} (ws : List Cond) (ps : List Nat) (hp : ws = ps.filterMap (fun i => big[i]?)) (h : ws.all goodWord = true) : GoodIn big ws := by
  intro w hw
  have h1 := List.all_eq_true.mp h w hw
  rw [hp] at hw
  obtain ⟨i, -, hi⟩ := List.mem_filterMap.mp hw
  have hm : w ∈ big := by first | exact List.mem_of_getElem? hi | exact List.getElem?_mem hi
  exact ⟨hm, good_of_word h1⟩
theorem goodIn_app {big a b : List Cond} (ha : GoodIn big a) (hb : GoodIn big b) : GoodIn big (a ++ b) := fun w h => (List.mem_append.mp h).elim (ha w) (hb w)
theorem goodIn_ca {big a b : List Cond} {c : Cond} (ha : GoodIn big (c :: a)) (hb : GoodIn big b) : GoodIn big (c :: (a ++ b)) := fun w h => (List.mem_cons.mp h).elim (fun e => ha w (List.mem_cons.mpr (Or.inl e))) (fun h => (List.mem_append.mp h).elim (fun h => ha w (List.mem_cons.mpr (Or.inr h))) (hb w))
theorem goodIn_sub {big ws : List Cond} (hm : ∀ w ∈ ws, w ∈ big) (h : ws.all goodWord = true) : GoodIn big ws := fun w hw => ⟨hm w hw, good_of_word (List.all_eq_true.mp h w hw)⟩
/-! ===== END ===== -/

/-! ===== BEGIN exceptions that leave a method, and their catching by the caller (launches without stack traces) ===== -/
section VXA
/-! The laws vx_back, vx_callV, vx_callS, vx_callSW, vx_throw0, vx_throwS follow proofs of the library, with one case more: JvmDerived/Free/Laws.lean (Back.of_free), Shelf42/LK1.lean (callV, callS), Shelf/KitTraced.lean (throwNew0V, throwNewS). -/
/-- where a method has thrown q: the class by its name, the cell, what was written, the world -/
def vx_T (XC : String → State → State → Prop) (st : State) (q : Addr) (t : State) (mc ms : Nat) (free : Addr → Prop) : Prop :=
  ∃ (E : String) (ce : Cell) (L : List Loc), XC E st t ∧ t.heap[q]? = some ce ∧ ce.vm = .none ∧ st.vm.findClass E = some ce.cls ∧ st.WarmedH t.vm ∧ st.sameButNew ({ t with vm := st.vm } : State) L mc ms ∧ ∀ z ∈ L, free z.base
def vx_Q (Qc : Array Value → State → Outcome → State → Prop) (XC : String → State → State → Prop) (mc ms : Nat) (free : Addr → Prop) : Array Value → State → Outcome → State → Prop := fun a st o t =>
  (Qc a st o t ∧ ∃ L, FrameEnd st o t L mc ms ∧ ∀ q ∈ L, free q.base) ∨ ∃ q, o = .threw q ∧ vx_T XC st q t mc ms free
/-- a callee that returns or throws -/
def vx_Met (l : Launch) (y : MethodName) (ws : List Cond) (rm : Room) (Pc : Array Value → State → Prop) (Qc : Array Value → State → Outcome → State → Prop) (XC : String → State → State → Prop) (mc ms : Nat) (free : Addr → Prop) : Prop :=
  MetFree l y (headSpec ws rm) Pc (fun _ _ _ _ _ => True) (vx_Q Qc XC mc ms free)
def vx_Post (XC : String → State → State → Prop) (mc ms : Nat) (free : Addr → Prop) : Pt → Array Value → Addr → Pt → Prop := fun A a q B =>
  ∃ (g : JFrame) (mk : MethodId) (t : State) (L : List Loc) (E : String) (ce : Cell), B.U.heap = t.heap ∧ B.U.vm = t.vm ∧ XC E (A.U.calling g mk a) t ∧ t.heap[q]? = some ce ∧ ce.vm = .none ∧ A.U.vm.findClass E = some ce.cls ∧ B.locs = A.locs ++ L ∧ (∀ z ∈ L, free z.base) ∧ B.cells = A.cells + mc ∧ B.slots = A.slots + ms
def vx_Back (l : Launch) (R : Room) (p : Program) (e : Env) (below : List Frame) (s : State) (sargs : Array Value) (y : MethodName) (len W9 : Nat)
    (Pre : Pt → Array Value → Prop) (Post : Pt → Array Value → Option Value → Pt → Prop) (PostX : Pt → Array Value → Addr → Pt → Prop) : Prop :=
  ∀ (m : MethodId) (meth : Method) (c : Code) (A : Pt) (g : JFrame) (ig : Instr) (mk : MethodId) (a : Array Value),
    Stand p l e R s m sargs below meth c A.U A.locs A.cells A.slots → g.method = m → g.locals.size = c.maxLocals → decode c.code g.pc = .ok (ig, len) →
    2 * g.monitorRoom + (g.stack.map fun v => v.category).sum ≤ W9 → A.U.methodNamed? y = some mk → Pre A a →
    (∃ (v : Option Value) (B : Pt), Stand p l e R s m sargs below meth c B.U B.locs B.cells B.slots ∧ Post A a v B ∧
      Steps p.tables e below (doInvoke e (A.U.setTop g) [] mk a).1 (B.U.setTop { g with pc := g.pc + len, stack := v.toList ++ g.stack })) ∨
    (∃ (q : Addr) (B : Pt), Stand p l e R s m sargs below meth c B.U B.locs B.cells B.slots ∧ PostX A a q B ∧
      Steps p.tables e below (doInvoke e (A.U.setTop g) [] mk a).1 ((B.U.setTop g).pushFrame (.throwing q)))
section Payer
variable {l : Launch} {R : Room} {p : Program} {e : Env} {below : List Frame} {s : State} {sargs : Array Value} {y : MethodName} {len W9 : Nat}
theorem vx_back {ws : List Cond} {rm : Room} {Pc : Array Value → State → Prop} {Qc : Array Value → State → Outcome → State → Prop} {XC : String → State → State → Prop} {mc ms : Nat} {free : Addr → Prop} {bytes : ByteArray} {maxL : Nat} {ret : Option FieldType}
    (hM : vx_Met l y ws rm Pc Qc XC mc ms free) (hblind : FrameBlind Pc) (hrc : rm.cells = mc) (hrs : rm.slots = ms)
    (hframes : rm.frames + 1 ≤ R.frames) (hlocals : W9 + (maxL + 11) + rm.locals ≤ R.locals)
    (hws : ∀ w ∈ ws, ∀ a' U, s.WarmedH U.vm → w.before a' U = true) (hcode : Cond.code y bytes maxL ret ∈ ws) (hinit : ∀ a' U, s.WarmedH U.vm → (Cond.initialized y.cls).before a' U = true) :
    vx_Back l R p e below s sargs y len W9 (PreOf R mc ms Pc) (PostOf Qc mc ms free) (vx_Post XC mc ms free) := by
  intro m meth c A g ig mk a X hg hsize hdg hW hn hp
  have h1 : (headSpec ws rm).pre.before a A.U = true := atoms_intro fun w hw => hws w hw _ _ X.warmed
  have h2 : (Cond.code y bytes maxL ret).before a A.U = true := hws _ hcode _ _ X.warmed
  have h3 : (Cond.initialized y.cls).before a A.U = true := hinit _ _ X.warmed
  have h4 : A.cells + (headSpec ws rm).room.cells ≤ R.cells := by rw [show (headSpec ws rm).room.cells = mc from hrc]; exact hp.1
  have h5 : A.slots + (headSpec ws rm).room.slots ≤ R.slots := by rw [show (headSpec ws rm).room.slots = ms from hrs]; exact hp.2.1
  have hPc : Pc a (A.U.calling g mk a) := hblind _ _ _ _ hp.2.2
  obtain ⟨U, Ls, c0, s0⟩ := A
  dsimp only [Pt.U, Pt.locs, Pt.cells, Pt.slots] at h1 h2 h3 h4 h5 X hn hPc ⊢
  obtain ⟨methY, cY, hmY, hcY, -, hlY, -, -, -, -⟩ := Cond.code_spec hn h2
  obtain ⟨kY, hkY, -⟩ := className_of_methodNamed hn
  have hinitY : kY.init = .initialized := Cond.initialized_spec (findClass_of_methodNamed hn) hkY h3
  have h : At U g.method c below := by rw [hg]; exact X.here
  have hlocals9 : W9 + (maxL + 11) + (headSpec ws rm).room.locals ≤ R.locals := hlocals
  have happ : (headSpec ws rm).appliesLoose y e.platform (U.calling g mk a) = true :=
    Spec.appliesLoose_calling (g := g) h hdg hn hkY hinitY
      (X.room_calling (g := g) (R' := (headSpec ws rm).room) hsize hmY hcY hframes (by rw [hlY]; omega) h4 h5) h1
  obtain ⟨mid, hmid⟩ := h.above
  have hfr : (U.setTop g).frames = (.java g :: mid) ++ below := by rw [State.frames_setTop' g h.top, hmid]; rfl
  obtain ⟨o, s₂, hsteps, -, hend, hq⟩ := Steps.callFree hM p X.admits X.cas X.clock (acts := []) hfr happ hPc trivial
  have hq' : vx_Q Qc XC mc ms free a (U.calling g mk a) o s₂ := hq
  rw [State.frames_setTop' g h.top] at hend
  obtain ⟨g₀, hg0⟩ := Option.isSome_iff_exists.mp h.top
  obtain ⟨r, hr⟩ := State.topJava?_eq_some.mp hg0
  have hr' : (({ U with heap := s₂.heap, slotsUsed := s₂.slotsUsed } : State).setVm s₂.vm).frames = .java g₀ :: r := hr
  rcases hq' with ⟨hqc, L, hfe, hL⟩ | ⟨q, rfl, E, ce, L, hx, hce, hcv, hcl, hW₂, hsm, hL⟩
  · obtain ⟨⟨v, rfl⟩, hW₂, e2, q2, q3, q4, q5, q6⟩ := id hfe
    have e3 : s₂ = ({ (U.calling g mk a).setFrames s₂.frames with heap := s₂.heap, slotsUsed := s₂.slotsUsed } : State).setVm s₂.vm := by
      have : s₂ = ({ s₂ with vm := (U.calling g mk a).vm } : State).setVm s₂.vm := rfl
      rw [e2] at this
      exact this
    obtain ⟨c₂, i₂, len₂, hc₂, hd₂, hf₂⟩ := hend
    have hW' : U.WarmedH s₂.vm := hW₂
    have hcc : c₂ = c := by
      have h1 : s₂.code? g.method = U.code? g.method := by
        rw [State.code?_eq, State.code?_eq, hW'.alike.method?]
      exact Option.some.inj (hc₂.symm.trans (h1.trans h.code))
    subst hcc
    have hlen : len₂ = len := by rw [hdg] at hd₂; cases hd₂; rfl
    subst hlen
    have hs₂ : s₂ = (({ U with heap := s₂.heap, slotsUsed := s₂.slotsUsed } : State).setVm s₂.vm).setTop { g with pc := g.pc + len₂, stack := v.toList ++ g.stack } := by
      refine e3.trans ?_
      rw [hf₂, State.calling_eq h.top, State.setFrames_setFrames, State.setTop_of_frames _ hr', hr]
      rfl
    have hsame : U.sameButNew ({ U with heap := s₂.heap, slotsUsed := s₂.slotsUsed } : State) L mc ms := by
      refine ⟨?_, q2, q3, q4, q5, q6⟩
      obtain ⟨t, ht, -⟩ := State.frames_cons hr
      show ({ U with heap := s₂.heap, slotsUsed := s₂.slotsUsed } : State) = { U.setFrames U.frames with heap := s₂.heap, slotsUsed := s₂.slotsUsed }
      rw [State.setFrames_self ht]
    subst hg
    refine Or.inl ⟨v, ⟨(({ U with heap := s₂.heap, slotsUsed := s₂.slotsUsed } : State).setVm s₂.vm), Ls ++ L, c0 + mc, s0 + ms⟩,
      ⟨X.admits, X.cas, X.clock, X.frames, X.room, X.hears, X.method, X.code, (X.here.setHeapUsed s₂.heap s₂.slotsUsed).setVm hW'.alike, X.tail, State.WarmedH.trans X.warmed hW', X.limits, X.bytes, X.same.trans (hsame.setVm s.vm)⟩,
      ⟨g, mk, s₂, L, rfl, rfl, hqc, rfl, hL, rfl, rfl⟩, ?_⟩
    show Steps p.tables e below _ ((({ U with heap := s₂.heap, slotsUsed := s₂.slotsUsed } : State).setVm s₂.vm).setTop { g with pc := g.pc + len₂, stack := v.toList ++ g.stack })
    rw [← hs₂]
    exact hsteps
  · obtain ⟨e2, q2, q3, q4, q5, q6⟩ := id hsm
    have e3 : s₂ = ({ (U.calling g mk a).setFrames s₂.frames with heap := s₂.heap, slotsUsed := s₂.slotsUsed } : State).setVm s₂.vm := by
      have : s₂ = ({ s₂ with vm := (U.calling g mk a).vm } : State).setVm s₂.vm := rfl
      rw [e2] at this
      exact this
    have hf₂ : s₂.frames = .throwing q :: .java g :: U.frames.tail := hend
    have hW' : U.WarmedH s₂.vm := hW₂
    have hs₂ : s₂ = ((({ U with heap := s₂.heap, slotsUsed := s₂.slotsUsed } : State).setVm s₂.vm).setTop g).pushFrame (.throwing q) := by
      refine e3.trans ?_
      rw [hf₂, State.calling_eq h.top, State.setFrames_setFrames, State.pushFrame, State.frames_setTop _ hr', State.setTop_of_frames _ hr', State.setFrames_setFrames, hr]
      rfl
    have hsame : U.sameButNew ({ U with heap := s₂.heap, slotsUsed := s₂.slotsUsed } : State) L mc ms := by
      refine ⟨?_, q2, q3, q4, q5, q6⟩
      obtain ⟨t, ht, -⟩ := State.frames_cons hr
      show ({ U with heap := s₂.heap, slotsUsed := s₂.slotsUsed } : State) = { U.setFrames U.frames with heap := s₂.heap, slotsUsed := s₂.slotsUsed }
      rw [State.setFrames_self ht]
    subst hg
    refine Or.inr ⟨q, ⟨(({ U with heap := s₂.heap, slotsUsed := s₂.slotsUsed } : State).setVm s₂.vm), Ls ++ L, c0 + mc, s0 + ms⟩,
      ⟨X.admits, X.cas, X.clock, X.frames, X.room, X.hears, X.method, X.code, (X.here.setHeapUsed s₂.heap s₂.slotsUsed).setVm hW'.alike, X.tail, State.WarmedH.trans X.warmed hW', X.limits, X.bytes, X.same.trans (hsame.setVm s.vm)⟩,
      ⟨g, mk, s₂, L, E, ce, rfl, rfl, hx, hce, hcv, hcl, rfl, hL, rfl, rfl⟩, ?_⟩
    show Steps p.tables e below _ (((({ U with heap := s₂.heap, slotsUsed := s₂.slotsUsed } : State).setVm s₂.vm).setTop g).pushFrame (.throwing q))
    rw [← hs₂]
    exact hsteps
end Payer
section Calls
variable {p : Program} {l : Launch} {e : Env} {R : Room} {s : State} {m : MethodId} {args : Array Value} {below : List Frame} {meth : Method} {c : Code} {T : State} {locs : List Loc} {cells slots : Nat}
theorem vx_callV (X : Stand p l e R s m args below meth c T locs cells slots) (hexec : p.tables.exec = Jvm.exec) {own C : String} {index : Nat} {y : MethodName} {bytes : ByteArray} {maxL : Nat} {ret : Option FieldType}
    (hown : s.vm.findClass own = some m.cls) (hlink : (Cond.methodLink own index y).before args s = true) (hinst : (Cond.instanceMethod y).before args s = true) (hsel : (Cond.selects C y y).before args s = true)
    (hcode : (Cond.code y bytes maxL ret).before args s = true) (hy : y.cls ≠ "java/lang/invoke/MethodHandle" ∧ y.cls ≠ "java/lang/invoke/VarHandle")
    {W9 : Nat} {Pre : Pt → Array Value → Prop} {Post : Pt → Array Value → Option Value → Pt → Prop} {PostX : Pt → Array Value → Addr → Pt → Prop} (hK : vx_Back l R p e below s args y 3 W9 Pre Post PostX)
    {b : Addr} {cellB : Cell} (hcell : T.heap[b]? = some cellB) (hobj : cellB.vm.isStatics = false) (hcls : s.vm.findClass C = some cellB.cls)
    {g : JFrame} (hg : g.method = m) (hsize : g.locals.size = c.maxLocals) {argsL rest : List Value} (hlen : ∀ sig, parseMethodDescriptor y.desc = some sig → argsL.length = sig.parameters.length)
    (hstack : g.stack = argsL.reverse ++ .ref b :: rest) (hW : 2 * g.monitorRoom + (rest.map fun v => v.category).sum ≤ W9) (hdg : decode c.code g.pc = .ok (.invokevirtual index, 3))
    (hpre : ∀ vm₁, s.WarmedH vm₁ → Pre ⟨T.setVm vm₁, locs, cells, slots⟩ (Value.ref b :: argsL).toArray) :
    (∃ (v : Option Value) (vm₁ : Vm) (B : Pt), s.WarmedH vm₁ ∧ Stand p l e R s m args below meth c B.U B.locs B.cells B.slots ∧ Post ⟨T.setVm vm₁, locs, cells, slots⟩ (Value.ref b :: argsL).toArray v B ∧
      ∀ target, Steps p.tables e below (B.U.setTop { g with pc := g.pc + 3, stack := v.toList ++ rest }) target → Steps p.tables e below (T.setTop g) target) ∨
    (∃ (q : Addr) (vm₁ : Vm) (B : Pt), s.WarmedH vm₁ ∧ Stand p l e R s m args below meth c B.U B.locs B.cells B.slots ∧ PostX ⟨T.setVm vm₁, locs, cells, slots⟩ (Value.ref b :: argsL).toArray q B ∧
      Steps p.tables e below (T.setTop g) ((B.U.setTop { g with stack := rest }).pushFrame (.throwing q))) := by
  obtain ⟨mk, methM, hnamed, hmethM, hstM, habM⟩ := Cond.instanceMethod_spec hinst
  obtain ⟨methM', cM, hmethM', -, -, -, -, -, -, hsigM⟩ := Cond.code_spec hnamed hcode
  cases hmethM.symm.trans hmethM'
  obtain ⟨c2, r2, m2, q1, q2, q3, q4, kP, hkP, hkPi⟩ := Cond.selects_spec hsel
  cases hcls.symm.trans q1
  cases (State.methodFound?_of_named hnamed hy).symm.trans q2
  cases hnamed.symm.trans q3
  have hselP : selectMethod e.platform s.vm cellB.cls mk = .method mk := by rw [Launch.admits_selectMethod X.admits]; exact q4
  obtain ⟨vm₁, X₁, hstep₁⟩ := X.invokevirtual hexec hown hlink hnamed hmethM hstM hkP hkPi hy (a := b) (cell := cellB) hcell
    (fun z h => by rw [h] at hobj; cases hobj) hselP hmethM habM hkP hkPi (g := g) hg (argsL := argsL) (rest := rest) (hlen _ hsigM) hstack hdg
  rcases hK m meth c ⟨T.setVm vm₁, locs, cells, slots⟩ { g with stack := rest } (.invokevirtual index) mk (Value.ref b :: argsL).toArray X₁ hg hsize hdg hW (X₁.named hnamed) (hpre vm₁ X₁.warmed) with ⟨v, B, X', hpost, hsteps⟩ | ⟨q, B, X', hpost, hsteps⟩
  · exact Or.inl ⟨v, vm₁, B, X₁.warmed, X', hpost, fun target h => hstep₁ _ fun acts => by rw [doInvoke_state]; exact hsteps.trans h⟩
  · exact Or.inr ⟨q, vm₁, B, X₁.warmed, X', hpost, hstep₁ _ fun acts => by rw [doInvoke_state]; exact hsteps⟩
theorem vx_callS (X : Stand p l e R s m args below meth c T locs cells slots) (hexec : p.tables.exec = Jvm.exec) {own : String} {index : Nat} {y : MethodName} {bytes : ByteArray} {maxL : Nat} {ret : Option FieldType}
    (hown : s.vm.findClass own = some m.cls) (hlink : (Cond.methodLink own index y).before args s = true) (hstat : (Cond.static y).before args s = true) (hinit : (Cond.initialized y.cls).before args s = true)
    (hcode : (Cond.code y bytes maxL ret).before args s = true) (hy : y.cls ≠ "java/lang/invoke/MethodHandle" ∧ y.cls ≠ "java/lang/invoke/VarHandle")
    {W9 : Nat} {Pre : Pt → Array Value → Prop} {Post : Pt → Array Value → Option Value → Pt → Prop} {PostX : Pt → Array Value → Addr → Pt → Prop} (hK : vx_Back l R p e below s args y 3 W9 Pre Post PostX)
    {g : JFrame} (hg : g.method = m) (hsize : g.locals.size = c.maxLocals) {argsL rest : List Value} (hlen : ∀ sig, parseMethodDescriptor y.desc = some sig → argsL.length = sig.parameters.length)
    (hstack : g.stack = argsL.reverse ++ rest) (hW : 2 * g.monitorRoom + (rest.map fun v => v.category).sum ≤ W9) (hdg : decode c.code g.pc = .ok (.invokestatic index, 3))
    (hpre : ∀ vm₁, s.WarmedH vm₁ → Pre ⟨T.setVm vm₁, locs, cells, slots⟩ argsL.toArray) :
    (∃ (v : Option Value) (vm₁ : Vm) (B : Pt), s.WarmedH vm₁ ∧ Stand p l e R s m args below meth c B.U B.locs B.cells B.slots ∧ Post ⟨T.setVm vm₁, locs, cells, slots⟩ argsL.toArray v B ∧
      ∀ target, Steps p.tables e below (B.U.setTop { g with pc := g.pc + 3, stack := v.toList ++ rest }) target → Steps p.tables e below (T.setTop g) target) ∨
    (∃ (q : Addr) (vm₁ : Vm) (B : Pt), s.WarmedH vm₁ ∧ Stand p l e R s m args below meth c B.U B.locs B.cells B.slots ∧ PostX ⟨T.setVm vm₁, locs, cells, slots⟩ argsL.toArray q B ∧
      Steps p.tables e below (T.setTop g) ((B.U.setTop { g with stack := rest }).pushFrame (.throwing q))) := by
  obtain ⟨mk, hnamed⟩ := Cond.code_named hcode
  obtain ⟨methM, cM, hmethM, -, -, -, -, -, -, hsigM⟩ := Cond.code_spec hnamed hcode
  have hstatic : methM.isStatic = true := Cond.static_spec hnamed hmethM hstat
  obtain ⟨kP, hkP, -⟩ := className_of_methodNamed hnamed
  have hinitP : kP.init = .initialized := Cond.initialized_spec (findClass_of_methodNamed hnamed) hkP hinit
  obtain ⟨vm₁, X₁, hstep₁⟩ := X.invokestatic hexec hown hlink hnamed hmethM hstatic hkP hinitP hy (g := g) hg (argsL := argsL) (rest := rest) (hlen _ hsigM) hstack hdg
  rcases hK m meth c ⟨T.setVm vm₁, locs, cells, slots⟩ { g with stack := rest } (.invokestatic index) mk argsL.toArray X₁ hg hsize hdg hW (X₁.named hnamed) (hpre vm₁ X₁.warmed) with ⟨v, B, X', hpost, hsteps⟩ | ⟨q, B, X', hpost, hsteps⟩
  · exact Or.inl ⟨v, vm₁, B, X₁.warmed, X', hpost, fun target h => hstep₁ _ fun acts => by rw [doInvoke_state]; exact hsteps.trans h⟩
  · exact Or.inr ⟨q, vm₁, B, X₁.warmed, X', hpost, hstep₁ _ fun acts => by rw [doInvoke_state]; exact hsteps⟩
end Calls
theorem vx_cls {s : State} {T : State} {vm₁ : Vm} {E : String} {k : ClassId} (hW : s.WarmedH vm₁) (h : (T.setVm vm₁).vm.findClass E = some k) : s.vm.findClass E = some k := by
  have h1 : vm₁.findClass E = some k := h
  rw [hW.alike.findClass] at h1
  exact h1
/-- the method's frame g, with q thrown over it -/
def vx_W (p : Program) (l : Launch) (e : Env) (R : Room) (s : State) (m : MethodId) (args : Array Value) (below : List Frame) (meth : Method) (c : Code) (H : Heap) (locs : List Loc) (cells slots : Nat) (Q : State → Prop) (g : JFrame) (q : Addr) : Prop :=
  ∀ T : State, T.heap = H → Stand p l e R s m args below meth c T locs cells slots → ∃ t, Steps p.tables e below ((T.setTop g).pushFrame (.throwing q)) t ∧ Q t
def vx_Run (p : Program) (l : Launch) (e : Env) (R : Room) (s : State) (m : MethodId) (args : Array Value) (below : List Frame) (meth : Method) (c : Code) (H : Heap) (locs : List Loc) (cells slots mc ms : Nat) (g : JFrame) (rest : List Value) (Qa : State → Outcome → State → Prop) (XC : String → State → State → Prop) (free : Addr → Prop) : Prop :=
  ∀ T : State, T.heap = H → Stand p l e R s m args below meth c T locs cells slots →
    (∃ (v : Option Value) (st₀ t T' : State) (L : List Loc), st₀.heap = H ∧ Stand p l e R s m args below meth c T' (locs ++ L) (cells + mc) (slots + ms) ∧ (∀ q ∈ L, free q.base) ∧ T'.heap = t.heap ∧ T'.vm = t.vm ∧ Qa st₀ (.returned v) t ∧
      Goes p e below T g T' { g with pc := g.pc + 3, stack := v.toList ++ rest }) ∨
    (∃ (q : Addr) (st₀ t T' : State) (L : List Loc) (E : String) (ce : Cell), st₀.heap = H ∧ Stand p l e R s m args below meth c T' (locs ++ L) (cells + mc) (slots + ms) ∧ (∀ z ∈ L, free z.base) ∧ T'.heap = t.heap ∧ T'.vm = t.vm ∧ XC E st₀ t ∧ t.heap[q]? = some ce ∧ ce.vm = .none ∧ s.vm.findClass E = some ce.cls ∧
      Steps p.tables e below (T.setTop g) ((T'.setTop { g with stack := rest }).pushFrame (.throwing q)))
def vx_X {S : Type} (px : S → Prop) (B : String → S → State → Prop) (A : Nat → Prop) : String → State → State → Prop := fun E st t => ∃ u : S, px u ∧ B E u t ∧ va_F A st t
section Runs
variable {p : Program} {l : Launch} {e : Env} {R : Room} {s : State} {m : MethodId} {args : Array Value} {below : List Frame} {meth : Method} {c : Code} {H : Heap} {locs : List Loc} {cells slots : Nat}
variable {y : MethodName} {bytes cc : ByteArray} {maxL nL mc ms n index : Nat} {ret : Option FieldType} {ws : List Cond} {rm : Room} {Pc : Array Value → State → Prop} {Qc : Array Value → State → Outcome → State → Prop} {XC : String → State → State → Prop} {free : Addr → Prop} {Ts : List Cond} {own C : String} {b : Addr} {As rest : List Value} {g : JFrame}
theorem vx_callBack (cb : CallB R s args own index y bytes maxL ret ws rm mc ms n) (hM : vx_Met l y ws rm Pc Qc XC mc ms free) (hbl : FrameBlind Pc) : vx_Back l R p e below s args y 3 8 (PreOf R mc ms Pc) (PostOf Qc mc ms free) (vx_Post XC mc ms free) := by
  obtain ⟨hrc, hrs, hfr, hlo, hws, hcw, -, hini, -⟩ := cb
  exact vx_back (bytes := bytes) (maxL := maxL) (ret := ret) hM hbl hrc hrs hfr hlo hws hcw (fun a' U hW => word_at hW (Or.inl (by first | rfl | simp [Cond.onTables, Cond.keeps, Cond.steady])) hini)
theorem vx_runV (S : CallFix p m c cc nL s args Ts own) (hM : vx_Met l y ws rm Pc Qc XC mc ms free) (cw : CallW R s args own C index y bytes maxL ret ws rm mc ms n) (hp : PreV s H C b Pc As)
    (hg : g.method = m) (hn : As.length = n) (hsize : g.locals.size = nL) (hstack : g.stack = As.reverse ++ .ref b :: rest) (hW : 2 * g.monitorRoom + (rest.map fun v => v.category).sum ≤ 8) (hdg : decode cc g.pc = .ok (.invokevirtual index, 3)) (hf : cells + mc ≤ R.cells ∧ slots + ms ≤ R.slots) :
    vx_Run p l e R s m args below meth c H locs cells slots mc ms g rest (Qc (Value.ref b :: As).toArray) XC free := by
  have hK : vx_Back l R p e below s args y 3 8 (PreOf R mc ms Pc) (PostOf Qc mc ms free) (vx_Post XC mc ms free) := vx_callBack cw.1 hM hp.1
  obtain ⟨⟨-, -, -, -, -, -, hcode, -, hy, hlen, hl⟩, hin, hse⟩ := cw
  obtain ⟨hx, hb, hml, ho, -⟩ := S
  obtain ⟨-, ⟨cellB, hcB, hoB, hclB⟩, hPc⟩ := hp
  intro T hT X
  rcases vx_callV X hx (C := C) (bytes := bytes) (maxL := maxL) (ret := ret) ho hl hin hse hcode hy hK (by rw [hT]; exact hcB) hoB hclB hg (hsize.trans hml.symm) (argsL := As) (rest := rest) (fun sig h => hn.trans (hlen sig h)) hstack hW (by rw [hb]; exact hdg)
    (fun vm₁ hW₁ => ⟨hf.1, hf.2, hPc (T.setVm vm₁) hT hW₁⟩) with ⟨v, vm₁, ⟨U', l2, c2, s2⟩, hW₁, X', ⟨g', mk, t, L, e1, e2, hq, h1, hL, h2, h3⟩, st⟩ | ⟨q, vm₁, ⟨U', l2, c2, s2⟩, hW₁, X', ⟨g', mk, t, L, E, ce, e1, e2, hq, hce, hcv, hcl, h1, hL, h2, h3⟩, st⟩
  · dsimp only [Pt.U, Pt.locs, Pt.cells, Pt.slots] at X' e1 e2 h1 h2 h3 st
    subst h1; subst h2; subst h3
    exact Or.inl ⟨v, (T.setVm vm₁).calling g' mk (Value.ref b :: As).toArray, t, U', L, hT, X', hL, e1, e2, hq, st⟩
  · dsimp only [Pt.U, Pt.locs, Pt.cells, Pt.slots] at X' e1 e2 h1 h2 h3 st hcl
    subst h1; subst h2; subst h3
    exact Or.inr ⟨q, (T.setVm vm₁).calling g' mk (Value.ref b :: As).toArray, t, U', L, E, ce, hT, X', hL, e1, e2, hq, hce, hcv, vx_cls hW₁ hcl, st⟩
theorem vx_runS (S : CallFix p m c cc nL s args Ts own) (hM : vx_Met l y ws rm Pc Qc XC mc ms free) (cw : CallB R s args own index y bytes maxL ret ws rm mc ms n ∧ (Cond.static y).before args s = true) (hp : PreS s H Pc As)
    (hg : g.method = m) (hn : As.length = n) (hsize : g.locals.size = nL) (hstack : g.stack = As.reverse ++ rest) (hW : 2 * g.monitorRoom + (rest.map fun v => v.category).sum ≤ 8) (hdg : decode cc g.pc = .ok (.invokestatic index, 3)) (hf : cells + mc ≤ R.cells ∧ slots + ms ≤ R.slots) :
    vx_Run p l e R s m args below meth c H locs cells slots mc ms g rest (Qc As.toArray) XC free := by
  have hK : vx_Back l R p e below s args y 3 8 (PreOf R mc ms Pc) (PostOf Qc mc ms free) (vx_Post XC mc ms free) := vx_callBack cw.1 hM hp.1
  obtain ⟨⟨-, -, -, -, -, -, hcode, hini, hy, hlen, hl⟩, hstt⟩ := cw
  obtain ⟨hx, hb, hml, ho, -⟩ := S
  intro T hT X
  rcases vx_callS X hx (bytes := bytes) (maxL := maxL) (ret := ret) ho hl hstt hini hcode hy hK hg (hsize.trans hml.symm) (argsL := As) (rest := rest) (fun sig h => hn.trans (hlen sig h)) hstack hW (by rw [hb]; exact hdg)
    (fun vm₁ hW₁ => ⟨hf.1, hf.2, hp.2 (T.setVm vm₁) hT hW₁⟩) with ⟨v, vm₁, ⟨U', l2, c2, s2⟩, hW₁, X', ⟨g', mk, t, L, e1, e2, hq, h1, hL, h2, h3⟩, st⟩ | ⟨q, vm₁, ⟨U', l2, c2, s2⟩, hW₁, X', ⟨g', mk, t, L, E, ce, e1, e2, hq, hce, hcv, hcl, h1, hL, h2, h3⟩, st⟩
  · dsimp only [Pt.U, Pt.locs, Pt.cells, Pt.slots] at X' e1 e2 h1 h2 h3 st
    subst h1; subst h2; subst h3
    exact Or.inl ⟨v, (T.setVm vm₁).calling g' mk As.toArray, t, U', L, hT, X', hL, e1, e2, hq, st⟩
  · dsimp only [Pt.U, Pt.locs, Pt.cells, Pt.slots] at X' e1 e2 h1 h2 h3 st hcl
    subst h1; subst h2; subst h3
    exact Or.inr ⟨q, (T.setVm vm₁).calling g' mk As.toArray, t, U', L, E, ce, hT, X', hL, e1, e2, hq, hce, hcv, vx_cls hW₁ hcl, st⟩
end Runs
section Rows
variable {p : Program} {l : Launch} {e : Env} {R : Room} {s : State} {m : MethodId} {args : Array Value} {below : List Frame} {meth : Method} {c : Code} {H : Heap} {locs : List Loc} {cells slots : Nat} {Q : State → Prop}
variable {mc ms : Nat} {free : Addr → Prop} {A0 A1 : Nat → Prop} {H0 : Heap} {a : Array Value} {pc : Nat} {ls : Array Slot} {st0 rest : List Value}
theorem vx_keep {st₀ t T' : State} {L : List Loc} (h0 : st₀.heap = H) (e1 : T'.heap = t.heap) (hS : va_S A0 H0 H locs) (hA : ∀ q, q < H.size → A1 q → A0 q) (hf : ∀ q, free q → A0 q) (hL : ∀ q ∈ L, free q.base) (hF : va_F A1 st₀ t) :
    H.size ≤ T'.heap.size ∧ (∀ q : Nat, q < H.size → ¬ A1 q → T'.heap[q]? = H[q]?) ∧ va_S A0 H0 T'.heap (locs ++ L) := by
  obtain ⟨hz, hk⟩ := hF
  rw [h0] at hz hk
  exact ⟨by rw [e1]; exact hz, fun q h1 h2 => by rw [e1]; exact hk q h1 h2,
    ⟨Nat.le_trans hS.1 (by rw [e1]; exact hz), fun q h1 h2 => by rw [e1, hk q (Nat.lt_of_lt_of_le h1 hS.1) (fun z => h2 (hA q (Nat.lt_of_lt_of_le h1 hS.1) z))]; exact hS.2.1 q h1 h2, fun q hq => by
      rcases List.mem_append.mp hq with h | h
      · exact hS.2.2 q h
      · exact hf _ (hL q h)⟩⟩
theorem vx_calli {S SX : Type} {post : Int32 → S → Prop} {px : SX → Prop} {B : S → State → Prop} {BX : String → SX → State → Prop} {AX : Nat → Prop} (hr : vx_Run p l e R s m args below meth c H locs cells slots mc ms (F0 m pc ls st0) rest (va_Qi post B A1 a) (vx_X px BX AX) free) (hS : va_S A0 H0 H locs) (hA : ∀ q, q < H.size → A1 q → A0 q) (hf : ∀ q, free q → A0 q) (hAX : ∀ q, q < H.size → AX q → A0 q)
    (kx : ∀ (E : String) (ce : Cell) (q9 : Addr) (u : SX) (t : State) (H1 : Heap) (locs1 : List Loc), t.heap = H1 → s.vm.Alike t.vm → px u → BX E u t → H.size ≤ H1.size → (∀ q : Nat, q < H.size → ¬ AX q → H1[q]? = H[q]?) → va_S A0 H0 H1 locs1 → H1[q9]? = some ce → ce.vm = .none → s.vm.findClass E = some ce.cls → vx_W p l e R s m args below meth c H1 locs1 (cells + mc) (slots + ms) Q (F0 m pc ls rest) q9)
    (kk : ∀ (r : Int32) (u : S) (t : State) (H1 : Heap) (locs1 : List Loc), t.heap = H1 → s.vm.Alike t.vm → post r u → B u t → H.size ≤ H1.size → (∀ q : Nat, q < H.size → ¬ A1 q → H1[q]? = H[q]?) → va_S A0 H0 H1 locs1 → W p l e R s m args below meth c H1 locs1 (cells + mc) (slots + ms) Q (F0 m (pc + 3) ls (.int r :: rest))) : W p l e R s m args below meth c H locs cells slots Q (F0 m pc ls st0) := by
  intro T hT X
  rcases hr T hT X with ⟨v, st₀, t, T', L, h0, X', hL, e1, e2, ⟨⟨r, u, hv, hp, hb⟩, hF⟩, st⟩ | ⟨q, st₀, t, T', L, E, ce, h0, X', hL, e1, e2, ⟨u, hp, hb, hF⟩, hce, hcv, hcl, st⟩
  · cases hv
    obtain ⟨k1, k2, k3⟩ := vx_keep h0 e1 hS hA hf hL hF
    obtain ⟨t2, a1, b1⟩ := kk r u t T'.heap (locs ++ L) e1.symm (by rw [← e2]; exact X'.warmed.alike) hp hb k1 k2 k3 T' rfl X'
    exact ⟨t2, st t2 a1, b1⟩
  · obtain ⟨k1, k2, k3⟩ := vx_keep h0 e1 hS hAX hf hL hF
    obtain ⟨t2, a1, b1⟩ := kx E ce q u t T'.heap (locs ++ L) e1.symm (by rw [← e2]; exact X'.warmed.alike) hp hb k1 k2 k3 (by rw [e1]; exact hce) hcv hcl T' rfl X'
    exact ⟨t2, st.trans a1, b1⟩
theorem vx_calll {S SX : Type} {post : Int64 → S → Prop} {px : SX → Prop} {B : S → State → Prop} {BX : String → SX → State → Prop} {AX : Nat → Prop} (hr : vx_Run p l e R s m args below meth c H locs cells slots mc ms (F0 m pc ls st0) rest (va_Ql post B A1 a) (vx_X px BX AX) free) (hS : va_S A0 H0 H locs) (hA : ∀ q, q < H.size → A1 q → A0 q) (hf : ∀ q, free q → A0 q) (hAX : ∀ q, q < H.size → AX q → A0 q)
    (kx : ∀ (E : String) (ce : Cell) (q9 : Addr) (u : SX) (t : State) (H1 : Heap) (locs1 : List Loc), t.heap = H1 → s.vm.Alike t.vm → px u → BX E u t → H.size ≤ H1.size → (∀ q : Nat, q < H.size → ¬ AX q → H1[q]? = H[q]?) → va_S A0 H0 H1 locs1 → H1[q9]? = some ce → ce.vm = .none → s.vm.findClass E = some ce.cls → vx_W p l e R s m args below meth c H1 locs1 (cells + mc) (slots + ms) Q (F0 m pc ls rest) q9)
    (kk : ∀ (r : Int64) (u : S) (t : State) (H1 : Heap) (locs1 : List Loc), t.heap = H1 → s.vm.Alike t.vm → post r u → B u t → H.size ≤ H1.size → (∀ q : Nat, q < H.size → ¬ A1 q → H1[q]? = H[q]?) → va_S A0 H0 H1 locs1 → W p l e R s m args below meth c H1 locs1 (cells + mc) (slots + ms) Q (F0 m (pc + 3) ls (.long r :: rest))) : W p l e R s m args below meth c H locs cells slots Q (F0 m pc ls st0) := by
  intro T hT X
  rcases hr T hT X with ⟨v, st₀, t, T', L, h0, X', hL, e1, e2, ⟨⟨r, u, hv, hp, hb⟩, hF⟩, st⟩ | ⟨q, st₀, t, T', L, E, ce, h0, X', hL, e1, e2, ⟨u, hp, hb, hF⟩, hce, hcv, hcl, st⟩
  · cases hv
    obtain ⟨k1, k2, k3⟩ := vx_keep h0 e1 hS hA hf hL hF
    obtain ⟨t2, a1, b1⟩ := kk r u t T'.heap (locs ++ L) e1.symm (by rw [← e2]; exact X'.warmed.alike) hp hb k1 k2 k3 T' rfl X'
    exact ⟨t2, st t2 a1, b1⟩
  · obtain ⟨k1, k2, k3⟩ := vx_keep h0 e1 hS hAX hf hL hF
    obtain ⟨t2, a1, b1⟩ := kx E ce q u t T'.heap (locs ++ L) e1.symm (by rw [← e2]; exact X'.warmed.alike) hp hb k1 k2 k3 (by rw [e1]; exact hce) hcv hcl T' rfl X'
    exact ⟨t2, st.trans a1, b1⟩
theorem vx_callf {S SX : Type} {post : UInt32 → S → Prop} {px : SX → Prop} {B : S → State → Prop} {BX : String → SX → State → Prop} {AX : Nat → Prop} (hr : vx_Run p l e R s m args below meth c H locs cells slots mc ms (F0 m pc ls st0) rest (va_Qf post B A1 a) (vx_X px BX AX) free) (hS : va_S A0 H0 H locs) (hA : ∀ q, q < H.size → A1 q → A0 q) (hf : ∀ q, free q → A0 q) (hAX : ∀ q, q < H.size → AX q → A0 q)
    (kx : ∀ (E : String) (ce : Cell) (q9 : Addr) (u : SX) (t : State) (H1 : Heap) (locs1 : List Loc), t.heap = H1 → s.vm.Alike t.vm → px u → BX E u t → H.size ≤ H1.size → (∀ q : Nat, q < H.size → ¬ AX q → H1[q]? = H[q]?) → va_S A0 H0 H1 locs1 → H1[q9]? = some ce → ce.vm = .none → s.vm.findClass E = some ce.cls → vx_W p l e R s m args below meth c H1 locs1 (cells + mc) (slots + ms) Q (F0 m pc ls rest) q9)
    (kk : ∀ (r : UInt32) (u : S) (t : State) (H1 : Heap) (locs1 : List Loc), t.heap = H1 → s.vm.Alike t.vm → post r u → B u t → H.size ≤ H1.size → (∀ q : Nat, q < H.size → ¬ A1 q → H1[q]? = H[q]?) → va_S A0 H0 H1 locs1 → W p l e R s m args below meth c H1 locs1 (cells + mc) (slots + ms) Q (F0 m (pc + 3) ls (.float r :: rest))) : W p l e R s m args below meth c H locs cells slots Q (F0 m pc ls st0) := by
  intro T hT X
  rcases hr T hT X with ⟨v, st₀, t, T', L, h0, X', hL, e1, e2, ⟨⟨r, u, hv, hp, hb⟩, hF⟩, st⟩ | ⟨q, st₀, t, T', L, E, ce, h0, X', hL, e1, e2, ⟨u, hp, hb, hF⟩, hce, hcv, hcl, st⟩
  · cases hv
    obtain ⟨k1, k2, k3⟩ := vx_keep h0 e1 hS hA hf hL hF
    obtain ⟨t2, a1, b1⟩ := kk r u t T'.heap (locs ++ L) e1.symm (by rw [← e2]; exact X'.warmed.alike) hp hb k1 k2 k3 T' rfl X'
    exact ⟨t2, st t2 a1, b1⟩
  · obtain ⟨k1, k2, k3⟩ := vx_keep h0 e1 hS hAX hf hL hF
    obtain ⟨t2, a1, b1⟩ := kx E ce q u t T'.heap (locs ++ L) e1.symm (by rw [← e2]; exact X'.warmed.alike) hp hb k1 k2 k3 (by rw [e1]; exact hce) hcv hcl T' rfl X'
    exact ⟨t2, st.trans a1, b1⟩
theorem vx_calld {S SX : Type} {post : UInt64 → S → Prop} {px : SX → Prop} {B : S → State → Prop} {BX : String → SX → State → Prop} {AX : Nat → Prop} (hr : vx_Run p l e R s m args below meth c H locs cells slots mc ms (F0 m pc ls st0) rest (va_Qd post B A1 a) (vx_X px BX AX) free) (hS : va_S A0 H0 H locs) (hA : ∀ q, q < H.size → A1 q → A0 q) (hf : ∀ q, free q → A0 q) (hAX : ∀ q, q < H.size → AX q → A0 q)
    (kx : ∀ (E : String) (ce : Cell) (q9 : Addr) (u : SX) (t : State) (H1 : Heap) (locs1 : List Loc), t.heap = H1 → s.vm.Alike t.vm → px u → BX E u t → H.size ≤ H1.size → (∀ q : Nat, q < H.size → ¬ AX q → H1[q]? = H[q]?) → va_S A0 H0 H1 locs1 → H1[q9]? = some ce → ce.vm = .none → s.vm.findClass E = some ce.cls → vx_W p l e R s m args below meth c H1 locs1 (cells + mc) (slots + ms) Q (F0 m pc ls rest) q9)
    (kk : ∀ (r : UInt64) (u : S) (t : State) (H1 : Heap) (locs1 : List Loc), t.heap = H1 → s.vm.Alike t.vm → post r u → B u t → H.size ≤ H1.size → (∀ q : Nat, q < H.size → ¬ A1 q → H1[q]? = H[q]?) → va_S A0 H0 H1 locs1 → W p l e R s m args below meth c H1 locs1 (cells + mc) (slots + ms) Q (F0 m (pc + 3) ls (.double r :: rest))) : W p l e R s m args below meth c H locs cells slots Q (F0 m pc ls st0) := by
  intro T hT X
  rcases hr T hT X with ⟨v, st₀, t, T', L, h0, X', hL, e1, e2, ⟨⟨r, u, hv, hp, hb⟩, hF⟩, st⟩ | ⟨q, st₀, t, T', L, E, ce, h0, X', hL, e1, e2, ⟨u, hp, hb, hF⟩, hce, hcv, hcl, st⟩
  · cases hv
    obtain ⟨k1, k2, k3⟩ := vx_keep h0 e1 hS hA hf hL hF
    obtain ⟨t2, a1, b1⟩ := kk r u t T'.heap (locs ++ L) e1.symm (by rw [← e2]; exact X'.warmed.alike) hp hb k1 k2 k3 T' rfl X'
    exact ⟨t2, st t2 a1, b1⟩
  · obtain ⟨k1, k2, k3⟩ := vx_keep h0 e1 hS hAX hf hL hF
    obtain ⟨t2, a1, b1⟩ := kx E ce q u t T'.heap (locs ++ L) e1.symm (by rw [← e2]; exact X'.warmed.alike) hp hb k1 k2 k3 (by rw [e1]; exact hce) hcv hcl T' rfl X'
    exact ⟨t2, st.trans a1, b1⟩
theorem vx_callv {S SX : Type} {post : S → Prop} {px : SX → Prop} {B : S → State → Prop} {BX : String → SX → State → Prop} {AX : Nat → Prop} (hr : vx_Run p l e R s m args below meth c H locs cells slots mc ms (F0 m pc ls st0) rest (va_Qv post B A1 a) (vx_X px BX AX) free) (hS : va_S A0 H0 H locs) (hA : ∀ q, q < H.size → A1 q → A0 q) (hf : ∀ q, free q → A0 q) (hAX : ∀ q, q < H.size → AX q → A0 q)
    (kx : ∀ (E : String) (ce : Cell) (q9 : Addr) (u : SX) (t : State) (H1 : Heap) (locs1 : List Loc), t.heap = H1 → s.vm.Alike t.vm → px u → BX E u t → H.size ≤ H1.size → (∀ q : Nat, q < H.size → ¬ AX q → H1[q]? = H[q]?) → va_S A0 H0 H1 locs1 → H1[q9]? = some ce → ce.vm = .none → s.vm.findClass E = some ce.cls → vx_W p l e R s m args below meth c H1 locs1 (cells + mc) (slots + ms) Q (F0 m pc ls rest) q9)
    (kk : ∀ (u : S) (t : State) (H1 : Heap) (locs1 : List Loc), t.heap = H1 → s.vm.Alike t.vm → post u → B u t → H.size ≤ H1.size → (∀ q : Nat, q < H.size → ¬ A1 q → H1[q]? = H[q]?) → va_S A0 H0 H1 locs1 → W p l e R s m args below meth c H1 locs1 (cells + mc) (slots + ms) Q (F0 m (pc + 3) ls (rest))) : W p l e R s m args below meth c H locs cells slots Q (F0 m pc ls st0) := by
  intro T hT X
  rcases hr T hT X with ⟨v, st₀, t, T', L, h0, X', hL, e1, e2, ⟨⟨u, hv, hp, hb⟩, hF⟩, st⟩ | ⟨q, st₀, t, T', L, E, ce, h0, X', hL, e1, e2, ⟨u, hp, hb, hF⟩, hce, hcv, hcl, st⟩
  · cases hv
    obtain ⟨k1, k2, k3⟩ := vx_keep h0 e1 hS hA hf hL hF
    obtain ⟨t2, a1, b1⟩ := kk u t T'.heap (locs ++ L) e1.symm (by rw [← e2]; exact X'.warmed.alike) hp hb k1 k2 k3 T' rfl X'
    exact ⟨t2, st t2 a1, b1⟩
  · obtain ⟨k1, k2, k3⟩ := vx_keep h0 e1 hS hAX hf hL hF
    obtain ⟨t2, a1, b1⟩ := kx E ce q u t T'.heap (locs ++ L) e1.symm (by rw [← e2]; exact X'.warmed.alike) hp hb k1 k2 k3 (by rw [e1]; exact hce) hcv hcl T' rfl X'
    exact ⟨t2, st.trans a1, b1⟩
/-- caught by the row x of this method's table; the rows ahead don't take it -/
theorem vx_catch {own name : String} {E : String} {ce : Cell} {q : Addr} (hown : s.vm.findClass own = some m.cls) (pre : List ExceptionTableEntry) (x : ExceptionTableEntry) (suf : List ExceptionTableEntry) (hsplit : c.exceptionTable.toList = pre ++ x :: suf)
    (hpass : ∀ z ∈ pre, covers z pc = false ∨ (z.catchType ≠ 0 ∧ ∃ nm : String, (Cond.classLink own z.catchType nm).before args s = true ∧ va_Nc E nm s)) (hx : covers x pc = true) (h0 : x.catchType ≠ 0)
    (hlink : (Cond.classLink own x.catchType name).before args s = true) (hcast : (Cond.castable E name).before args s = true) (hcell : H[q]? = some ce) (hv : ce.vm = .none) (hcl : s.vm.findClass E = some ce.cls)
    (kk : W p l e R s m args below meth c H locs cells slots Q (F0 m x.handlerPc ls [.ref q])) : vx_W p l e R s m args below meth c H locs cells slots Q (F0 m pc ls rest) q := by
  intro T hT X
  have hpl : e.platform.magicAccessors = ({} : Platform).magicAccessors := by rw [X.admits.platform]
  obtain ⟨c3, c4, hc3, hc4, hasg⟩ := Cond.castable_spec hcast
  cases Option.some.inj (hc3.symm.trans hcl)
  obtain ⟨c5, hc5, hcl5⟩ := Cond.classLink_spec hown hlink e.platform hpl
  cases Option.some.inj (hc4.symm.trans hc5)
  obtain ⟨vm', X', st⟩ := X.thenCaughtThrough q (g := F0 m pc ls rest) rfl (Steps.refl _) (by rw [hT]; exact hcell) (by rw [hv]; rfl) (by obtain ⟨k9, h9, -⟩ := Vm.findClass_spec hcl; exact ⟨k9, h9⟩) pre x suf hsplit
    (fun z hz => by
      rcases hpass z hz with h | ⟨hz0, nm, hl1, hn1⟩
      · exact Or.inl h
      · obtain ⟨c6, hc6, hcl6⟩ := Cond.classLink_spec hown hl1 e.platform hpl
        obtain ⟨a8, b8, h1, h2, h3⟩ := hn1
        cases Option.some.inj (h1.symm.trans hcl)
        cases Option.some.inj (h2.symm.trans hc6)
        exact Or.inr ⟨hz0, _, hcl6, h3⟩) hx (Or.inr ⟨h0, c4, hcl5, hasg⟩)
  obtain ⟨t, a1, b1⟩ := kk (T.setVm vm') hT X'
  exact ⟨t, st.trans a1, b1⟩
end Rows
section Ends
variable {p : Program} {l : Launch} {e : Env} {R : Room} {s : State} {m : MethodId} {args : Array Value} {below : List Frame} {meth : Method} {c : Code} {H : Heap} {locs : List Loc} {cells slots : Nat} {Q : State → Prop}
variable {mc ms : Nat} {free : Addr → Prop} {A0 A1 : Nat → Prop} {H0 : Heap} {a : Array Value} {ls : Array Slot} {st0 rest : List Value}
variable {Qc : Array Value → State → Outcome → State → Prop} {XC : String → State → State → Prop}
/-- what a body that may throw owes at its end -/
def vx_MQ (below : List Frame) (Qc : Array Value → State → Outcome → State → Prop) (XC : String → State → State → Prop) (a : Array Value) (s : State) (mc ms : Nat) (free : Addr → Prop) : State → Prop := fun t =>
  ∃ o, t.status = .running ∧ Ended t below o ∧ vx_Q Qc XC mc ms free a s o t
theorem vx_ret {g : JFrame} {mc ms : Nat} (k : W p l e R s m args below meth c H locs cells slots (MQ below Qc args s mc ms free) g) : W p l e R s m args below meth c H locs cells slots (vx_MQ below Qc XC args s mc ms free) g := by
  intro T hT X
  obtain ⟨t, a1, o, b1, b2, b3, b4⟩ := k T hT X
  exact ⟨t, a1, o, b1, b2, Or.inl ⟨b3, b4⟩⟩
/-- not caught here: it goes on to the caller -/
theorem vx_widen {g : JFrame} {q : Addr} {k n : Nat} (h1 : cells ≤ k) (h2 : slots ≤ n) (kk : vx_W p l e R s m args below meth c H locs k n Q g q) : vx_W p l e R s m args below meth c H locs cells slots Q g q := fun T hT X => kk T hT (stand_widen X h1 h2)
theorem vx_out {pc : Nat} {E : String} {ce : Cell} {q : Addr} {mc ms : Nat} (hout : ∀ x ∈ c.exceptionTable.toList, covers x pc = false) (hlocks : meth.locks = false) (hcell : H[q]? = some ce) (hv : ce.vm = .none) (hcl : s.vm.findClass E = some ce.cls)
    (hx : ∀ t : State, t.heap = H → s.vm.Alike t.vm → XC E s t) (hf : ∀ z ∈ locs, free z.base) (hc : cells ≤ mc) (hs : slots ≤ ms) :
    vx_W p l e R s m args below meth c H locs cells slots (vx_MQ below Qc XC args s mc ms free) (F0 m pc ls rest) q := by
  intro T hT X
  obtain ⟨st1, hrun, hend, hW, hsm⟩ := X.leaveThrown q (g := F0 m pc ls rest) rfl rfl rfl hout hlocks
  have hcell9 : (T.setFrames (.throwing q :: below)).heap[q]? = some ce := by
    show T.heap[q]? = some ce
    rw [hT]; exact hcell
  exact ⟨_, st1, .threw q, hrun, hend, Or.inr ⟨q, rfl, E, ce, locs, hx _ hT hW.alike, hcell9, hv, hcl, hW, hsm.mono hc hs, hf⟩⟩
theorem vx_frame {U : State} {k n : Nat} (h : s.sameButNew ({ U with vm := s.vm } : State) locs k n) : s.heap.size ≤ U.heap.size ∧ ∀ q : Nat, q < s.heap.size → (∀ z ∈ locs, z.base ≠ q) → U.heap[q]? = s.heap[q]? := by
  obtain ⟨-, h2, -, -, -, h6⟩ := h
  refine ⟨h2, fun q hq hz => ?_⟩
  obtain ⟨c9, e1, e2, e3, e4⟩ := h6 q _ (Array.getElem?_eq_getElem hq)
  have hs : c9.slots = (s.heap[q]).slots := Array.ext_getElem? fun i => e4 i fun hm => hz _ hm rfl
  have h9 : c9 = s.heap[q] := by
    rw [hs] at e2
    exact e2
  have e5 : U.heap[q]? = some c9 := e1
  rw [e5, h9, Array.getElem?_eq_getElem hq]
/-- the words of a throw but the four that speak of the heap -/
def vx_no (w : Cond) : Bool := decide (w ≠ .isRef (.static Bundle.tN "UNASSIGNED_STACK" Bundle.steD)) && decide (w ≠ .isRef (.static Bundle.tN "SUPPRESSED_SENTINEL" Bundle.listD)) && decide (w ≠ .laysStatic Bundle.tN "UNASSIGNED_STACK" Bundle.steD) && decide (w ≠ .laysStatic Bundle.tN "SUPPRESSED_SENTINEL" Bundle.listD)
def vx_at0 (own : String) (ic : Nat) (X : String) (names : List String) : List Cond := (Bundle.ownAtoms0 own ic X names).filter vx_no
def vx_atS (own : String) (ic : Nat) (X : String) (names : List String) : List Cond := (Bundle.ownAtoms own ic X names).filter vx_no
/-- a word that the tables alone decide, or a good one -/
def vx_ot (w : Cond) : Bool := w.onTables || goodWord w
theorem vx_ot_at {args a' : Array Value} {s U : State} {w : Cond} (hW : s.WarmedH U.vm) (hvm : s.vm = U.vm) (hg : vx_ot w = true) (h : w.before args s = true) : w.before a' U = true := by
  simp only [vx_ot, Bool.or_eq_true] at hg
  rcases hg with hg | hg
  · exact va_tabs hg hvm h
  · exact word_at hW (good_of_word hg) h
/-- a list's words: the good ones out of the method's own list, the others by premises of their own -/
theorem vx_hat {args : Array Value} {s : State} {L B : List Cond} (h1 : ∀ w ∈ L.filter goodWord, w.before args s = true) (h2 : ∀ w ∈ L.filter (fun w => !goodWord w), w ∈ B) (h3 : ∀ w ∈ B, w.before args s = true) : ∀ w ∈ L, w.before args s = true := by
  intro w hw
  by_cases g : goodWord w = true
  · exact h1 w (List.mem_filter.mpr ⟨hw, g⟩)
  · refine h3 w (h2 w (List.mem_filter.mpr ⟨hw, ?_⟩))
    show (!goodWord w) = true
    cases hgw : goodWord w
    · rfl
    · exact absurd hgw g
theorem vx_c {args : Array Value} {s : State} {w : Cond} {B : List Cond} (h : w.before args s = true) (t : ∀ w ∈ B, w.before args s = true) : ∀ w' ∈ w :: B, w'.before args s = true := fun w' h' => (List.mem_cons.mp h').elim (fun e => by rw [e]; exact h) (t w')
theorem vx_n {args : Array Value} {s : State} : ∀ w ∈ ([] : List Cond), w.before args s = true := fun _ h => nomatch h
theorem vx_own {args : Array Value} {s : State} {L : List Cond} (h1 : ∀ w ∈ L.filter vx_no, w.before args s = true)
    (hU : (Cond.isRef (.static Bundle.tN "UNASSIGNED_STACK" Bundle.steD)).before args s = true) (hN : (Cond.isRef (.static Bundle.tN "SUPPRESSED_SENTINEL" Bundle.listD)).before args s = true)
    (lU : (Cond.laysStatic Bundle.tN "UNASSIGNED_STACK" Bundle.steD).before args s = true) (lN : (Cond.laysStatic Bundle.tN "SUPPRESSED_SENTINEL" Bundle.listD).before args s = true) : ∀ w ∈ L, w.before args s = true := by
  intro w hw
  by_cases e1 : w = .isRef (.static Bundle.tN "UNASSIGNED_STACK" Bundle.steD)
  · rw [e1]; exact hU
  · by_cases e2 : w = .isRef (.static Bundle.tN "SUPPRESSED_SENTINEL" Bundle.listD)
    · rw [e2]; exact hN
    · by_cases e3 : w = .laysStatic Bundle.tN "UNASSIGNED_STACK" Bundle.steD
      · rw [e3]; exact lU
      · by_cases e4 : w = .laysStatic Bundle.tN "SUPPRESSED_SENTINEL" Bundle.listD
        · rw [e4]; exact lN
        · exact h1 w (List.mem_filter.mpr ⟨hw, by unfold vx_no; rw [decide_eq_true e1, decide_eq_true e2, decide_eq_true e3, decide_eq_true e4]; rfl⟩)
/-- where a static field lies, its class's statics cell in H -/
def vx_L (C n d : String) (A : Nat → Prop) (U : State) (H : Heap) : Prop := ∃ (c : ClassId) (k : Class) (i : Nat) (f : Field) (a : Nat) (cell : Cell), U.vm.findClass C = some c ∧ U.fieldFound? C n d = some (c, k, i, f) ∧ f.isStatic = true ∧ k.statics = some a ∧ H[a]? = some cell ∧ cell.vm.isStatics = true ∧ cell.cls = c ∧ f.slot < cell.slots.size ∧ k.staticTypes[f.slot]? = some f.type ∧ ¬ A a
theorem vx_L.moved {C n d : String} {A : Nat → Prop} {u U : State} {H : Heap} (hvm : u.vm.Alike U.vm) (h : vx_L C n d A u H) : vx_L C n d A U H := by
  obtain ⟨c, k, i, f, a, cell, h1, h2, h3, h4, h5, h6, h7, h8, h9, h10⟩ := h
  obtain ⟨k', hi', he⟩ := State.fieldFound?_setVm hvm h2
  exact ⟨c, k', i, f, a, cell, by rw [hvm.findClass]; exact h1, hi', h3, by rw [he]; exact h4, h5, h6, h7, h8, by rw [he]; exact h9, h10⟩
theorem vx_L.kept {C n d : String} {A : Nat → Prop} {U : State} {H H1 : Heap} (h : vx_L C n d A U H) (hq : ∀ a : Nat, a < H.size → ¬ A a → H1[a]? = H[a]?) : vx_L C n d A U H1 := by
  obtain ⟨c, k, i, f, a, cell, h1, h2, h3, h4, h5, h6, h7, h8, h9, h10⟩ := h
  exact ⟨c, k, i, f, a, cell, h1, h2, h3, h4, by rw [hq a (Array.getElem?_eq_some_iff.mp h5).1 h10]; exact h5, h6, h7, h8, h9, h10⟩
theorem vx_L.narrow {C n d : String} {A B : Nat → Prop} {U : State} {H : Heap} (h : vx_L C n d A U H) (hAB : ∀ q, B q → A q) : vx_L C n d B U H := by
  obtain ⟨c, k, i, f, a, cell, h1, h2, h3, h4, h5, h6, h7, h8, h9, h10⟩ := h
  exact ⟨c, k, i, f, a, cell, h1, h2, h3, h4, h5, h6, h7, h8, h9, fun z => h10 (hAB _ z)⟩
theorem vx_L.word {C n d : String} {A : Nat → Prop} {s : State} {args : Array Value} (h : vx_L C n d A s s.heap) : (Cond.laysStatic C n d).before args s = true := by
  obtain ⟨c, k, i, f, a, cell, h1, h2, h3, h4, h5, h6, h7, h8, h9, -⟩ := h
  show (Cond.laysStatic C n d).holds args s none s [] = true
  exact Cond.laysStatic_of h1 h2 h3 h4 h5 h6 h7 h8 h9
/-- .. and what it holds: null or some reference -/
def vx_Zq (C n d : String) (A : Nat → Prop) (U : State) (H : Heap) : Prop := va_Zq C n d A U H ∧ vx_L C n d A U H
theorem vx_Zq.moved {C n d : String} {A : Nat → Prop} {u U : State} {H : Heap} (hvm : u.vm.Alike U.vm) (h : vx_Zq C n d A u H) : vx_Zq C n d A U H := ⟨va_Zq.moved hvm h.1, vx_L.moved hvm h.2⟩
theorem vx_Zq.kept {C n d : String} {A : Nat → Prop} {U : State} {H H1 : Heap} (h : vx_Zq C n d A U H) (hq : ∀ a : Nat, a < H.size → ¬ A a → H1[a]? = H[a]?) : vx_Zq C n d A U H1 := ⟨va_Zq.kept h.1 hq, vx_L.kept h.2 hq⟩
theorem vx_Zq.narrow {C n d : String} {A B : Nat → Prop} {U : State} {H : Heap} (h : vx_Zq C n d A U H) (hAB : ∀ q, B q → A q) : vx_Zq C n d B U H := ⟨va_Zq.narrow h.1 hAB, vx_L.narrow h.2 hAB⟩
theorem vx_Zqof {args : Array Value} {s : State} {C n d : String} {A : Nat → Prop} (hl : (Cond.laysStatic C n d).before args s = true) (hini : (Cond.initialized C).before args s = true) (h : (Cond.isRef (.static C n d)).before args s = true) (hA : ∀ a : Nat, a < s.heap.size → ¬ A a) : vx_Zq C n d A s s.heap := by
  refine ⟨va_Zqof hl hini h hA, ?_⟩
  obtain ⟨c, k, i, f, a, cell, h1, h2, h3, h4, h5, h6, h7, h8, h9⟩ := Cond.laysStatic_spec hl
  exact ⟨c, k, i, f, a, cell, h1, h2, h3, h4, h5, h6, h7, h8, h9, hA a (Array.getElem?_eq_some_iff.mp h5).1⟩
theorem vx_isRef {C n d : String} {v : Value} {A : Nat → Prop} {s : State} {args : Array Value} (h : va_Z C n d v A s s.heap) (hv : v.isRef = true) : (Cond.isRef (.static C n d)).before args s = true := by
  obtain ⟨cf, kf, fi, f, a, cell, h1, h2, h3, h4, h5, h6, h7, -⟩ := h
  have he : (Term.static C n d).eval args s none [] s = some v := by
    simp [Term.eval, State.fieldNamed?, h1, h2, h4, h5, h6, h7]
  simp only [Cond.before, Cond.holds, Cond.value, he]
  cases v <;> simp_all [Value.isRef]
theorem vx_isRefq {C n d : String} {A : Nat → Prop} {s : State} {args : Array Value} (h : va_Zq C n d A s s.heap) : (Cond.isRef (.static C n d)).before args s = true := by
  rcases h with h | ⟨t, h⟩
  · exact vx_isRef h rfl
  · exact vx_isRef h rfl
/-- the same frame, seen from here: as if the method were called anew in this heap -/
theorem vx_rebase {T : State} (X : Stand p l e R s m args below meth c T locs cells slots) {R' : Room} (hf : R'.frames ≤ R.frames) (hl : R'.locals ≤ R.locals) (hc : cells + R'.cells ≤ R.cells) (hs : slots + R'.slots ≤ R.slots) :
    Stand p l e R' ((T.setVm s.vm).setFrames (.invoking m args :: below)) m args below meth c T [] 0 0 := by
  have htop : (T.setVm s.vm).topJava?.isSome := X.here.top
  have hF : ((T.setVm s.vm).setFrames (.invoking m args :: below)).frames = .invoking m args :: below := State.frames_setFrames _ (State.cur_lt_of_top htop)
  obtain ⟨g₀, hg0⟩ := Option.isSome_iff_exists.mp htop
  obtain ⟨r, hr⟩ := State.topJava?_eq_some.mp hg0
  have hl9 : e.platform.stackLimits (T.setVm s.vm).me = e.platform.stackLimits s.me := X.limits
  have hb9 : (T.setVm s.vm).me.stackBytes = s.me.stackBytes := X.bytes
  refine ⟨X.admits, X.cas, X.clock, hF, ?_, X.hears, X.method, X.code, X.here, X.tail, X.warmed, ?_, ?_, ?_⟩
  · have h := X.room
    have hU : ((T.setVm s.vm).setFrames (.invoking m args :: below)).localsInUse = s.localsInUse := by
      rw [State.localsInUse_invoking hF (meth := meth) (c := c) X.method X.code, State.localsInUse_invoking X.frames X.method X.code]
    simp only [State.hasRoom, Bool.and_eq_true, decide_eq_true_eq] at h ⊢
    obtain ⟨⟨⟨⟨h1, h2, h3, h4, h5, h6⟩, h7⟩, h8⟩, h9⟩ := h
    rw [X.frames, List.length_cons] at h2 h3
    have q1 := X.heapSize
    have q2 := X.used
    simp only [hF, hU, List.length_cons, State.stackLimits_setFrames, State.stackBytes_setFrames, hl9, hb9]
    refine ⟨⟨⟨⟨by omega, by omega, by omega, by omega, by omega, h6⟩, ?_⟩, ?_⟩, X.book⟩
    · show T.heap.size + R'.cells ≤ e.platform.maxCells
      omega
    · show T.slotsUsed + R'.slots ≤ e.platform.maxSlots
      omega
  · rw [State.stackLimits_setFrames]; rfl
  · rw [State.stackBytes_setFrames]; rfl
  · refine ⟨?_, Nat.le_refl _, Nat.le_refl _, ?_, ?_, fun a c9 h9 => ⟨c9, h9, rfl, rfl, fun _ _ => rfl⟩⟩
    · obtain ⟨t, ht, -⟩ := State.frames_cons hr
      show T.setVm s.vm = { ((T.setVm s.vm).setFrames (.invoking m args :: below)).setFrames (T.setVm s.vm).frames with heap := T.heap, slotsUsed := T.slotsUsed }
      rw [State.setFrames_setFrames, State.setFrames_self ht]
      rfl
    · show T.slotsUsed = T.slotsUsed + ((T.heap.toList.drop T.heap.size).map (·.slots.size)).sum
      rw [List.drop_eq_nil_of_le (Nat.le_of_eq Array.length_toList)]
      rfl
    · show ((T.heap.toList.drop T.heap.size).map (·.slots.size)).sum ≤ 0
      rw [List.drop_eq_nil_of_le (Nat.le_of_eq Array.length_toList)]
      exact Nat.le_refl _
/-- 'throw new E()': new; dup; invokespecial; athrow -/
theorem vx_throw0 {cc : ByteArray} {pc : Nat} (hexec : p.tables.exec = Jvm.exec) (hb : c.code = cc) (hl : l.stackTraces = false) {own cls : String} {names : List String} {ik ic mc ms : Nat} {A : Nat → Prop}
    (hown : s.vm.findClass own = some m.cls) (hcls : Bundle.fit cls = true) (hnames : ∀ n ∈ names, Bundle.fit n = true)
    (hk : (Cond.classLink own ik cls).before args s = true) (hini : (Cond.initialized cls).before args s = true) (hat : ∀ w ∈ vx_at0 own ic cls names, w.before args s = true)
    (hgood : ∀ w ∈ Cond.classLink own ik cls :: Cond.initialized cls :: vx_at0 own ic cls names, vx_ot w = true)
    (hU : vx_Zq Bundle.tN "UNASSIGNED_STACK" Bundle.steD A s s.heap) (hN : vx_Zq Bundle.tN "SUPPRESSED_SENTINEL" Bundle.listD A s s.heap) (hS : va_S A s.heap H locs) (hsize : ls.size = c.maxLocals)
    (d0 : decode cc pc = .ok (.new ik, 3)) (d3 : decode cc (pc + 3) = .ok (.dup, 1)) (d4 : decode cc (pc + 4) = .ok (.invokespecial ic, 3)) (d7 : decode cc (pc + 7) = .ok (.athrow, 1))
    (hout : ∀ x ∈ c.exceptionTable.toList, covers x (pc + 7) = false)
    (hRframes : names.length + 3 < R.frames) (hRlocals : (rest.map fun v => v.category).sum + (13 * (names.length + 1) + 42) ≤ R.locals) (hRcells : cells + 1 ≤ R.cells) (hRslots : slots + 6 ≤ R.slots) (hlocks : meth.locks = false)
    (hx : ∀ t : State, s.vm.Alike t.vm → H.size ≤ t.heap.size → (∀ q : Nat, q < H.size → t.heap[q]? = H[q]?) → XC cls s t)
    (hf : ∀ z ∈ locs, free z.base) (hc : cells + 1 ≤ mc) (hs : slots + 6 ≤ ms) :
    W p l e R s m args below meth c H locs cells slots (vx_MQ below Qc XC args s mc ms free) (F0 m pc ls rest) := by
  intro T hT X
  have htr : e.platform.stackTraces = false := (show e.platform.stackTraces = l.stackTraces by rw [X.admits.platform]).trans hl
  have Y := vx_rebase X (R' := { frames := R.frames, locals := R.locals, cells := 1, slots := 6 }) (Nat.le_refl _) (Nat.le_refl _) hRcells hRslots
  obtain ⟨s', hA⟩ : ∃ z, z = (T.setVm s.vm).setFrames (.invoking m args :: below) := ⟨_, rfl⟩
  rw [← hA] at Y
  have hvm : s'.vm = s.vm := by rw [hA]; rfl
  have hhp : s'.heap = H := by rw [hA]; exact hT
  have hW0 : s.WarmedH s'.vm := by rw [hvm]; exact State.WarmedH.refl s
  have hat' : ∀ w ∈ vx_at0 own ic cls names, w.before args s' = true := fun w hw => vx_ot_at hW0 hvm.symm (hgood w (List.mem_cons_of_mem _ (List.mem_cons_of_mem _ hw))) (hat w hw)
  have hk' : (Cond.classLink own ik cls).before args s' = true := vx_ot_at hW0 hvm.symm (hgood _ List.mem_cons_self) hk
  have hini' : (Cond.initialized cls).before args s' = true := vx_ot_at hW0 hvm.symm (hgood _ (List.mem_cons_of_mem _ List.mem_cons_self)) hini
  have hU' : vx_Zq Bundle.tN "UNASSIGNED_STACK" Bundle.steD A s' s'.heap := by rw [hhp]; exact vx_Zq.moved hW0.alike (hU.kept hS.2.1)
  have hN' : vx_Zq Bundle.tN "SUPPRESSED_SENTINEL" Bundle.listD A s' s'.heap := by rw [hhp]; exact vx_Zq.moved hW0.alike (hN.kept hS.2.1)
  have h : ∀ w ∈ Bundle.ownAtoms0 own ic cls names, w.before args s' = true := vx_own hat' (vx_isRefq hU'.1) (vx_isRefq hN'.1) hU'.2.word hN'.2.word
  have hown' : s'.vm.findClass own = some m.cls := by rw [hvm]; exact hown
  have hins : (Cond.instantiable cls 6).before args s' = true := h _ (by simp [Bundle.ownAtoms0])
  obtain ⟨vm₁, cX, kX, hfX, hkX, -, -, X₁, st1⟩ := Y.newCold hexec (own := own) (C := cls) (index := ik) (n := 6) hown' hk' hins hini'
    (g := F0 m pc ls rest) rfl (by rw [hb]; exact d0) (Nat.le_refl _) (Nat.le_refl _)
  generalize hT1 : (T.setVm vm₁).pushCell { cls := cX, slots := kX.instanceTypes.map defaultValue, vm := .none } = T1 at X₁ st1
  have hcat : (Value.ref T.heap.size).category = 1 := rfl
  have hcellA : T1.heap[T.heap.size]? = some (freshCell cX kX) := by rw [← hT1]; exact State.heap_pushCell_size _ _
  have d3' : decode c.code (pc + 3) = .ok (.dup, 1) := by rw [hb]; exact d3
  obtain ⟨U, hsteps, hrun, hend, hW, hsame, ce, hce, hO⟩ := X₁.ctorThrow0 hexec htr (own := own) (cls := cls) (names := names) (ic := ic) hown' hcls hnames h (fun x hx => nomatch hx) hfX hkX hcellA (by rw [hhp, hT]; exact Nat.le_refl _)
    (g := { method := m, pc := pc + 4, locals := ls, stack := .ref T.heap.size :: .ref T.heap.size :: rest, locked := none }) rfl hsize rfl rfl (rest := rest) rfl
    (by rw [hb]; exact d4) (by rw [hb]; exact d7) hout hRframes (by simp only [List.map_cons, List.sum_cons, hcat]; omega) hlocks
  obtain ⟨f1, f2⟩ := vx_frame hsame
  rw [hhp] at f1 f2
  have hWs : s.WarmedH U.vm := State.WarmedH.trans hW0 hW
  have hcl : s.vm.findClass cls = some ce.cls := by
    have h9 := hO.cls
    rw [hvm] at h9
    exact h9
  have hall : s.sameButNew ({ U with vm := s.vm } : State) locs mc ms := by
    subst hA
    obtain ⟨e1, e2⟩ := hsame
    rw [State.setFrames_setFrames] at e1
    have h2 : (T.setVm s.vm).sameButNew ({ U with vm := s.vm } : State) [] (0 + 1) (0 + 6) := ⟨e1, e2⟩
    have h3 := X.same.trans h2
    rw [List.append_nil] at h3
    exact h3.mono hc hs
  refine ⟨U, ?_, .threw T.heap.size, hrun, hend, Or.inr ⟨T.heap.size, rfl, cls, ce, locs, hx U hWs.alike f1 (fun q hq => f2 q hq (fun z hz => nomatch hz)), hce, hO.vm, hcl, hWs, hall, hf⟩⟩
  refine st1 _ ?_
  show Steps p.tables e below (T1.setTop { method := m, pc := pc + 3, locals := ls, stack := .ref T.heap.size :: rest, locked := none }) _
  jvm_step X₁.here [X₁.here.top, hexec, d3', Value.category]
  exact hsteps
/-- 'throw new E("text")': new; dup; ldc; invokespecial; athrow -/
theorem vx_throwS {cc : ByteArray} {pc : Nat} (hexec : p.tables.exec = Jvm.exec) (hb : c.code = cc) (hl : l.stackTraces = false) {own cls text : String} {names : List String} {ik is ic mc ms sa : Nat} {A : Nat → Prop}
    (hown : s.vm.findClass own = some m.cls) (hcls : Bundle.fit cls = true) (hnames : ∀ n ∈ names, Bundle.fit n = true)
    (hk : (Cond.classLink own ik cls).before args s = true) (hini : (Cond.initialized cls).before args s = true) (hstr : vk_R own is text sa s) (hat : ∀ w ∈ vx_atS own ic cls names, w.before args s = true)
    (hgood : ∀ w ∈ Cond.classLink own ik cls :: Cond.initialized cls :: vx_atS own ic cls names, vx_ot w = true)
    (hU : vx_Zq Bundle.tN "UNASSIGNED_STACK" Bundle.steD A s s.heap) (hN : vx_Zq Bundle.tN "SUPPRESSED_SENTINEL" Bundle.listD A s s.heap) (hS : va_S A s.heap H locs) (hsize : ls.size = c.maxLocals)
    (d0 : decode cc pc = .ok (.new ik, 3)) (d3 : decode cc (pc + 3) = .ok (.dup, 1)) (d4 : decode cc (pc + 4) = .ok (.ldc is, 2)) (d6 : decode cc (pc + 6) = .ok (.invokespecial ic, 3)) (d9 : decode cc (pc + 9) = .ok (.athrow, 1))
    (hout : ∀ x ∈ c.exceptionTable.toList, covers x (pc + 9) = false)
    (hRframes : names.length + 3 < R.frames) (hRlocals : (rest.map fun v => v.category).sum + (13 * (names.length + 1) + 43) ≤ R.locals) (hRcells : cells + 1 ≤ R.cells) (hRslots : slots + 6 ≤ R.slots) (hlocks : meth.locks = false)
    (hx : ∀ t : State, s.vm.Alike t.vm → H.size ≤ t.heap.size → (∀ q : Nat, q < H.size → t.heap[q]? = H[q]?) → XC cls s t)
    (hf : ∀ z ∈ locs, free z.base) (hc : cells + 1 ≤ mc) (hs : slots + 6 ≤ ms) :
    W p l e R s m args below meth c H locs cells slots (vx_MQ below Qc XC args s mc ms free) (F0 m pc ls rest) := by
  intro T hT X
  have htr : e.platform.stackTraces = false := (show e.platform.stackTraces = l.stackTraces by rw [X.admits.platform]).trans hl
  have Y := vx_rebase X (R' := { frames := R.frames, locals := R.locals, cells := 1, slots := 6 }) (Nat.le_refl _) (Nat.le_refl _) hRcells hRslots
  obtain ⟨s', hA⟩ : ∃ z, z = (T.setVm s.vm).setFrames (.invoking m args :: below) := ⟨_, rfl⟩
  rw [← hA] at Y
  have hvm : s'.vm = s.vm := by rw [hA]; rfl
  have hhp : s'.heap = H := by rw [hA]; exact hT
  have hW0 : s.WarmedH s'.vm := by rw [hvm]; exact State.WarmedH.refl s
  have hat' : ∀ w ∈ vx_atS own ic cls names, w.before args s' = true := fun w hw => vx_ot_at hW0 hvm.symm (hgood w (List.mem_cons_of_mem _ (List.mem_cons_of_mem _ hw))) (hat w hw)
  have hk' : (Cond.classLink own ik cls).before args s' = true := vx_ot_at hW0 hvm.symm (hgood _ List.mem_cons_self) hk
  have hini' : (Cond.initialized cls).before args s' = true := vx_ot_at hW0 hvm.symm (hgood _ (List.mem_cons_of_mem _ List.mem_cons_self)) hini
  have hU' : vx_Zq Bundle.tN "UNASSIGNED_STACK" Bundle.steD A s' s'.heap := by rw [hhp]; exact vx_Zq.moved hW0.alike (hU.kept hS.2.1)
  have hN' : vx_Zq Bundle.tN "SUPPRESSED_SENTINEL" Bundle.listD A s' s'.heap := by rw [hhp]; exact vx_Zq.moved hW0.alike (hN.kept hS.2.1)
  have h : ∀ w ∈ Bundle.ownAtoms own ic cls names, w.before args s' = true := vx_own hat' (vx_isRefq hU'.1) (vx_isRefq hN'.1) hU'.2.word hN'.2.word
  have hown' : s'.vm.findClass own = some m.cls := by rw [hvm]; exact hown
  have hins : (Cond.instantiable cls 6).before args s' = true := h _ (by simp [Bundle.ownAtoms])
  obtain ⟨vm₁, cX, kX, hfX, hkX, -, -, X₁, st1⟩ := Y.newCold hexec (own := own) (C := cls) (index := ik) (n := 6) hown' hk' hins hini'
    (g := F0 m pc ls rest) rfl (by rw [hb]; exact d0) (Nat.le_refl _) (Nat.le_refl _)
  generalize hT1 : (T.setVm vm₁).pushCell { cls := cX, slots := kX.instanceTypes.map defaultValue, vm := .none } = T1 at X₁ st1
  have hcat : (Value.ref T.heap.size).category = 1 := rfl
  have hcellA : T1.heap[T.heap.size]? = some (freshCell cX kX) := by rw [← hT1]; exact State.heap_pushCell_size _ _
  have d3' : decode c.code (pc + 3) = .ok (.dup, 1) := by rw [hb]; exact d3
  have d4' : decode c.code (pc + 4) = .ok (.ldc is, 2) := by rw [hb]; exact d4
  have hstr' : vk_R own is text sa s' := vk_R.warm hW0 hstr
  obtain ⟨U, hsteps, hrun, hend, hW, hsame, ce, hce, hO⟩ := X₁.ctorThrowS hexec htr (own := own) (cls := cls) (names := names) (ic := ic) hown' hcls hnames h (fun x hx => nomatch hx) hfX hkX hcellA (by rw [hhp, hT]; exact Nat.le_refl _) (msg := .ref sa) rfl
    (g := { method := m, pc := pc + 6, locals := ls, stack := .ref sa :: .ref T.heap.size :: .ref T.heap.size :: rest, locked := none }) rfl hsize rfl rfl (rest := rest) rfl
    (by rw [hb]; exact d6) (by rw [hb]; exact d9) hout hRframes (by simp only [List.map_cons, List.sum_cons, hcat]; omega) hlocks
  obtain ⟨f1, f2⟩ := vx_frame hsame
  rw [hhp] at f1 f2
  have hWs : s.WarmedH U.vm := State.WarmedH.trans hW0 hW
  have hcl : s.vm.findClass cls = some ce.cls := by
    have h9 := hO.cls
    rw [hvm] at h9
    exact h9
  have hall : s.sameButNew ({ U with vm := s.vm } : State) locs mc ms := by
    subst hA
    obtain ⟨e1, e2⟩ := hsame
    rw [State.setFrames_setFrames] at e1
    have h2 : (T.setVm s.vm).sameButNew ({ U with vm := s.vm } : State) [] (0 + 1) (0 + 6) := ⟨e1, e2⟩
    have h3 := X.same.trans h2
    rw [List.append_nil] at h3
    exact h3.mono hc hs
  refine ⟨U, ?_, .threw T.heap.size, hrun, hend, Or.inr ⟨T.heap.size, rfl, cls, ce, locs, hx U hWs.alike f1 (fun q hq => f2 q hq (fun z hz => nomatch hz)), hce, hO.vm, hcl, hWs, hall, hf⟩⟩
  refine st1 _ ?_
  show Steps p.tables e below (T1.setTop { method := m, pc := pc + 3, locals := ls, stack := .ref T.heap.size :: rest, locked := none }) _
  jvm_step X₁.here [X₁.here.top, hexec, d3', Value.category]
  exact X₁.ldcString hexec (own := own) (text := text) (index := is) (a := sa) hown' hstr'.1 hstr'.2
    (g := { method := m, pc := pc + 4, locals := ls, stack := .ref T.heap.size :: .ref T.heap.size :: rest, locked := none }) rfl d4' _ hsteps
/-- 'throw new E("text")', the text by a wide index -/
theorem vx_throwSW {cc : ByteArray} {pc : Nat} (hexec : p.tables.exec = Jvm.exec) (hb : c.code = cc) (hl : l.stackTraces = false) {own cls text : String} {names : List String} {ik is ic mc ms sa : Nat} {A : Nat → Prop}
    (hown : s.vm.findClass own = some m.cls) (hcls : Bundle.fit cls = true) (hnames : ∀ n ∈ names, Bundle.fit n = true)
    (hk : (Cond.classLink own ik cls).before args s = true) (hini : (Cond.initialized cls).before args s = true) (hstr : vk_R own is text sa s) (hat : ∀ w ∈ vx_atS own ic cls names, w.before args s = true)
    (hgood : ∀ w ∈ Cond.classLink own ik cls :: Cond.initialized cls :: vx_atS own ic cls names, vx_ot w = true)
    (hU : vx_Zq Bundle.tN "UNASSIGNED_STACK" Bundle.steD A s s.heap) (hN : vx_Zq Bundle.tN "SUPPRESSED_SENTINEL" Bundle.listD A s s.heap) (hS : va_S A s.heap H locs) (hsize : ls.size = c.maxLocals)
    (d0 : decode cc pc = .ok (.new ik, 3)) (d3 : decode cc (pc + 3) = .ok (.dup, 1)) (d4 : decode cc (pc + 4) = .ok (.ldc_w is, 3)) (d7 : decode cc (pc + 7) = .ok (.invokespecial ic, 3)) (d10 : decode cc (pc + 10) = .ok (.athrow, 1))
    (hout : ∀ x ∈ c.exceptionTable.toList, covers x (pc + 10) = false)
    (hRframes : names.length + 3 < R.frames) (hRlocals : (rest.map fun v => v.category).sum + (13 * (names.length + 1) + 43) ≤ R.locals) (hRcells : cells + 1 ≤ R.cells) (hRslots : slots + 6 ≤ R.slots) (hlocks : meth.locks = false)
    (hx : ∀ t : State, s.vm.Alike t.vm → H.size ≤ t.heap.size → (∀ q : Nat, q < H.size → t.heap[q]? = H[q]?) → XC cls s t)
    (hf : ∀ z ∈ locs, free z.base) (hc : cells + 1 ≤ mc) (hs : slots + 6 ≤ ms) :
    W p l e R s m args below meth c H locs cells slots (vx_MQ below Qc XC args s mc ms free) (F0 m pc ls rest) := by
  intro T hT X
  have htr : e.platform.stackTraces = false := (show e.platform.stackTraces = l.stackTraces by rw [X.admits.platform]).trans hl
  have Y := vx_rebase X (R' := { frames := R.frames, locals := R.locals, cells := 1, slots := 6 }) (Nat.le_refl _) (Nat.le_refl _) hRcells hRslots
  obtain ⟨s', hA⟩ : ∃ z, z = (T.setVm s.vm).setFrames (.invoking m args :: below) := ⟨_, rfl⟩
  rw [← hA] at Y
  have hvm : s'.vm = s.vm := by rw [hA]; rfl
  have hhp : s'.heap = H := by rw [hA]; exact hT
  have hW0 : s.WarmedH s'.vm := by rw [hvm]; exact State.WarmedH.refl s
  have hat' : ∀ w ∈ vx_atS own ic cls names, w.before args s' = true := fun w hw => vx_ot_at hW0 hvm.symm (hgood w (List.mem_cons_of_mem _ (List.mem_cons_of_mem _ hw))) (hat w hw)
  have hk' : (Cond.classLink own ik cls).before args s' = true := vx_ot_at hW0 hvm.symm (hgood _ List.mem_cons_self) hk
  have hini' : (Cond.initialized cls).before args s' = true := vx_ot_at hW0 hvm.symm (hgood _ (List.mem_cons_of_mem _ List.mem_cons_self)) hini
  have hU' : vx_Zq Bundle.tN "UNASSIGNED_STACK" Bundle.steD A s' s'.heap := by rw [hhp]; exact vx_Zq.moved hW0.alike (hU.kept hS.2.1)
  have hN' : vx_Zq Bundle.tN "SUPPRESSED_SENTINEL" Bundle.listD A s' s'.heap := by rw [hhp]; exact vx_Zq.moved hW0.alike (hN.kept hS.2.1)
  have h : ∀ w ∈ Bundle.ownAtoms own ic cls names, w.before args s' = true := vx_own hat' (vx_isRefq hU'.1) (vx_isRefq hN'.1) hU'.2.word hN'.2.word
  have hown' : s'.vm.findClass own = some m.cls := by rw [hvm]; exact hown
  have hins : (Cond.instantiable cls 6).before args s' = true := h _ (by simp [Bundle.ownAtoms])
  obtain ⟨vm₁, cX, kX, hfX, hkX, -, -, X₁, st1⟩ := Y.newCold hexec (own := own) (C := cls) (index := ik) (n := 6) hown' hk' hins hini'
    (g := F0 m pc ls rest) rfl (by rw [hb]; exact d0) (Nat.le_refl _) (Nat.le_refl _)
  generalize hT1 : (T.setVm vm₁).pushCell { cls := cX, slots := kX.instanceTypes.map defaultValue, vm := .none } = T1 at X₁ st1
  have hcat : (Value.ref T.heap.size).category = 1 := rfl
  have hcellA : T1.heap[T.heap.size]? = some (freshCell cX kX) := by rw [← hT1]; exact State.heap_pushCell_size _ _
  have d3' : decode c.code (pc + 3) = .ok (.dup, 1) := by rw [hb]; exact d3
  have d4' : decode c.code (pc + 4) = .ok (.ldc_w is, 3) := by rw [hb]; exact d4
  have hstr' : vk_R own is text sa s' := vk_R.warm hW0 hstr
  obtain ⟨U, hsteps, hrun, hend, hW, hsame, ce, hce, hO⟩ := X₁.ctorThrowS hexec htr (own := own) (cls := cls) (names := names) (ic := ic) hown' hcls hnames h (fun x hx => nomatch hx) hfX hkX hcellA (by rw [hhp, hT]; exact Nat.le_refl _) (msg := .ref sa) rfl
    (g := { method := m, pc := pc + 7, locals := ls, stack := .ref sa :: .ref T.heap.size :: .ref T.heap.size :: rest, locked := none }) rfl hsize rfl rfl (rest := rest) rfl
    (by rw [hb]; exact d7) (by rw [hb]; exact d10) hout hRframes (by simp only [List.map_cons, List.sum_cons, hcat]; omega) hlocks
  obtain ⟨f1, f2⟩ := vx_frame hsame
  rw [hhp] at f1 f2
  have hWs : s.WarmedH U.vm := State.WarmedH.trans hW0 hW
  have hcl : s.vm.findClass cls = some ce.cls := by
    have h9 := hO.cls
    rw [hvm] at h9
    exact h9
  have hall : s.sameButNew ({ U with vm := s.vm } : State) locs mc ms := by
    subst hA
    obtain ⟨e1, e2⟩ := hsame
    rw [State.setFrames_setFrames] at e1
    have h2 : (T.setVm s.vm).sameButNew ({ U with vm := s.vm } : State) [] (0 + 1) (0 + 6) := ⟨e1, e2⟩
    have h3 := X.same.trans h2
    rw [List.append_nil] at h3
    exact h3.mono hc hs
  refine ⟨U, ?_, .threw T.heap.size, hrun, hend, Or.inr ⟨T.heap.size, rfl, cls, ce, locs, hx U hWs.alike f1 (fun q hq => f2 q hq (fun z hz => nomatch hz)), hce, hO.vm, hcl, hWs, hall, hf⟩⟩
  refine st1 _ ?_
  show Steps p.tables e below (T1.setTop { method := m, pc := pc + 3, locals := ls, stack := .ref T.heap.size :: rest, locked := none }) _
  jvm_step X₁.here [X₁.here.top, hexec, d3', Value.category]
  exact X₁.ldcStringW hexec (own := own) (text := text) (index := is) (a := sa) hown' hstr'.1 hstr'.2
    (g := { method := m, pc := pc + 4, locals := ls, stack := .ref T.heap.size :: .ref T.heap.size :: rest, locked := none }) rfl d4' _ hsteps
end Ends
section Bodies
variable {l : Launch}
theorem vx_ofW {y : MethodName} {ws ws' : List Cond} {rm : Room} {Pc : Array Value → State → Prop} {Qc : Array Value → State → Outcome → State → Prop} {XC : String → State → State → Prop} {mc ms : Nat} {free : Addr → Prop} {cc : ByteArray} {maxL : Nat} {ret : Option FieldType}
    (hy : plainName y.cls = true) (hw : ws = Cond.code y cc maxL ret :: ws')
    (body : ∀ p e s m args below meth c s₁, BodyLoose p l y (headSpec ws rm) cc maxL ret e s m args below meth c s₁ → c.maxLocals = maxL → (∀ x ∈ c.exceptionTable.toList, False) → Pc args s →
      W p l e (headSpec ws rm).room s m args below meth c s.heap [] 0 0 (vx_MQ below Qc XC args s mc ms free) (entryFrame m args maxL)) : vx_Met l y ws rm Pc Qc XC mc ms free := by
  refine MetFree.of_bodyS (code := cc) (maxLocals := maxL) (ret := ret) hy ?_ ?_
  · intro args s m h hn
    obtain ⟨meth, c, h1, h2, h3, h4, h5, h6, -, -⟩ := Cond.code_spec hn (atoms_spec (ws := ws) h _ (by rw [hw]; exact List.mem_cons_self))
    exact ⟨meth, c, h1, h2, h3, h4, h5, h6⟩
  · intro p e s m args below meth c s₁ B hml hP _
    have hh0 : s₁.heap = s.heap := by rw [B.state]; rfl
    have ht : ∀ x ∈ c.exceptionTable.toList, False := by
      obtain ⟨meth9, c9, h1, h2, -, -, -, -, h7, -⟩ := Cond.code_spec B.named (atoms_spec (ws := ws) B.pre _ (by rw [hw]; exact List.mem_cons_self))
      cases Option.some.inj (h1.symm.trans B.method)
      cases Option.some.inj (h2.symm.trans (Stand.of_body B).code)
      intro x hx
      rw [Array.isEmpty_iff.mp h7] at hx
      cases hx
    obtain ⟨t, a1, o, b1, b2, b3⟩ := body p e s m args below meth c s₁ B hml ht hP s₁ hh0 (Stand.of_body B)
    exact ⟨t, o, a1, b1, b2, b3⟩
/-- the table of a body with handlers -/
theorem vx_table {p : Program} {x y : MethodName} {S : Spec} {cc bytes : ByteArray} {maxL maxL' : Nat} {ret ret' : Option FieldType} {e : Env} {s s₁ : State} {m : MethodId} {args : Array Value} {below : List Frame} {meth : Method} {c : Code} {hh : List (Nat × Nat × Nat × Nat)}
    (B : BodyLoose p l y S cc maxL ret e s m args below meth c s₁) (h : (Cond.codeWith y bytes maxL' ret' hh).before args s = true) : c.exceptionTable.toList = tableOf hh := by
  obtain ⟨m9, meth9, c9, hn9, h1, h2, -, -, h6, -⟩ := Cond.codeWith_spec h
  cases Option.some.inj (hn9.symm.trans B.named)
  cases Option.some.inj (h1.symm.trans B.method)
  cases Option.some.inj (h2.symm.trans (Stand.of_body B).code)
  rw [← h6, table_eq]
end Bodies
end VXA
/-! ===== END ===== -/
/-! ===== BEGIN a static call of a method with an exception table ===== -/
section VXS
variable {p : Program} {l : Launch} {e : Env} {R : Room} {s : State} {m : MethodId} {args : Array Value} {below : List Frame} {meth : Method} {c : Code} {T : State} {H : Heap} {locs : List Loc} {cells slots : Nat}
abbrev vx_CSW (R : Room) (s : State) (args : Array Value) (own : String) (index : Nat) (y : MethodName) (bytes : ByteArray) (maxL : Nat) (ret : Option FieldType) (hh : List (Nat × Nat × Nat × Nat)) (ws : List Cond) (rm : Room) (mc ms n : Nat) : Prop :=
  (rm.cells = mc ∧ rm.slots = ms ∧ rm.frames + 1 ≤ R.frames ∧ 8 + (maxL + 11) + rm.locals ≤ R.locals ∧ (∀ w ∈ ws, ∀ (a' : Array Value) (U : State), s.WarmedH U.vm → w.before a' U = true) ∧ Cond.codeWith y bytes maxL ret hh ∈ ws) ∧
  (Cond.codeWith y bytes maxL ret hh).before args s = true ∧ (Cond.initialized y.cls).before args s = true ∧ (y.cls ≠ "java/lang/invoke/MethodHandle" ∧ y.cls ≠ "java/lang/invoke/VarHandle") ∧
  (∀ sig, parseMethodDescriptor y.desc = some sig → n = sig.parameters.length) ∧ (Cond.methodLink own index y).before args s = true ∧ (Cond.static y).before args s = true
theorem vx_cwSW {own : String} {index maxL mc ms : Nat} {y : MethodName} {bytes : ByteArray} {ret : Option FieldType} {hh : List (Nat × Nat × Nat × Nat)} {Ts ws ws' : List Cond} {rm : Room} (n : Nat) (ht : ∀ w ∈ Ts, w.before args s = true) (hT : GoodIn Ts (va_wsS own index y ws)) (hw : ws = Cond.codeWith y bytes maxL ret hh :: ws') (hrc : rm.cells = mc) (hrs : rm.slots = ms)
    (hd : y.cls ≠ "java/lang/invoke/MethodHandle" ∧ y.cls ≠ "java/lang/invoke/VarHandle" ∧ (parseMethodDescriptor y.desc).map (fun d => d.parameters.length) = some n) (hR : rm.frames + 1 ≤ R.frames ∧ 8 + (maxL + 11) + rm.locals ≤ R.locals) :
    vx_CSW R s args own index y bytes maxL ret hh ws rm mc ms n := by
  have ok : ∀ w ∈ va_wsS own index y ws, w.before args s = true := fun w h => ht w (hT w h).1
  have hG : GoodIn Ts ws := fun w h => hT w (by unfold va_wsS; exact List.mem_append_right _ h)
  have hc : Cond.codeWith y bytes maxL ret hh ∈ ws := by rw [hw]; exact List.mem_cons_self
  refine ⟨⟨hrc, hrs, hR.1, hR.2, pay_in ht hG, hc⟩, ht _ (hG _ hc).1, ok _ (by simp [va_wsS]), ⟨hd.1, hd.2.1⟩, fun sig h => ?_, ok _ (by simp [va_wsS]), ok _ (by simp [va_wsS])⟩
  have h2 := hd.2.2
  rw [h] at h2
  exact (Option.some.inj h2).symm
theorem vx_callSW (X : Stand p l e R s m args below meth c T locs cells slots) (hexec : p.tables.exec = Jvm.exec) {own : String} {index : Nat} {y : MethodName} {bytes : ByteArray} {maxL : Nat} {ret : Option FieldType} {hh : List (Nat × Nat × Nat × Nat)}
    (hown : s.vm.findClass own = some m.cls) (hlink : (Cond.methodLink own index y).before args s = true) (hstat : (Cond.static y).before args s = true) (hinit : (Cond.initialized y.cls).before args s = true)
    (hcode : (Cond.codeWith y bytes maxL ret hh).before args s = true) (hy : y.cls ≠ "java/lang/invoke/MethodHandle" ∧ y.cls ≠ "java/lang/invoke/VarHandle")
    {W9 : Nat} {Pre : Pt → Array Value → Prop} {Post : Pt → Array Value → Option Value → Pt → Prop} (hK : Back l R p e below s args y 3 W9 Pre Post)
    {g : JFrame} (hg : g.method = m) (hsize : g.locals.size = c.maxLocals) {argsL rest : List Value} (hlen : ∀ sig, parseMethodDescriptor y.desc = some sig → argsL.length = sig.parameters.length)
    (hstack : g.stack = argsL.reverse ++ rest) (hW : 2 * g.monitorRoom + (rest.map fun v => v.category).sum ≤ W9) (hdg : decode c.code g.pc = .ok (.invokestatic index, 3))
    (hpre : ∀ vm₁, s.WarmedH vm₁ → Pre ⟨T.setVm vm₁, locs, cells, slots⟩ argsL.toArray) :
    ∃ (v : Option Value) (vm₁ : Vm) (B : Pt), s.WarmedH vm₁ ∧ Stand p l e R s m args below meth c B.U B.locs B.cells B.slots ∧ Post ⟨T.setVm vm₁, locs, cells, slots⟩ argsL.toArray v B ∧
      ∀ target, Steps p.tables e below (B.U.setTop { g with pc := g.pc + 3, stack := v.toList ++ rest }) target → Steps p.tables e below (T.setTop g) target := by
  obtain ⟨mk, methM, cM, hnamed, hmethM, -, -, -, -, -, -, hsigM⟩ := Cond.codeWith_spec hcode
  have hstatic : methM.isStatic = true := Cond.static_spec hnamed hmethM hstat
  obtain ⟨kP, hkP, -⟩ := className_of_methodNamed hnamed
  have hinitP : kP.init = .initialized := Cond.initialized_spec (findClass_of_methodNamed hnamed) hkP hinit
  obtain ⟨vm₁, X₁, hstep₁⟩ := X.invokestatic hexec hown hlink hnamed hmethM hstatic hkP hinitP hy (g := g) hg (argsL := argsL) (rest := rest) (hlen _ hsigM) hstack hdg
  obtain ⟨v, B, X', hpost, hsteps⟩ := hK m meth c ⟨T.setVm vm₁, locs, cells, slots⟩ { g with stack := rest } (.invokestatic index) mk argsL.toArray X₁ hg hsize hdg hW (X₁.named hnamed) (hpre vm₁ X₁.warmed)
  exact ⟨v, vm₁, B, X₁.warmed, X', hpost, fun target h => hstep₁ _ fun acts => by rw [doInvoke_state]; exact hsteps.trans h⟩
theorem vx_runSW {y : MethodName} {bytes cc : ByteArray} {maxL nL mc ms n index : Nat} {ret : Option FieldType} {hh : List (Nat × Nat × Nat × Nat)} {ws : List Cond} {rm : Room} {Pc : Array Value → State → Prop} {Qc : Array Value → State → Outcome → State → Prop} {free : Addr → Prop} {Ts : List Cond} {own : String} {As rest : List Value} {g : JFrame}
    (S : CallFix p m c cc nL s args Ts own) (hM : Met l y ws rm Pc Qc mc ms free) (cw : vx_CSW R s args own index y bytes maxL ret hh ws rm mc ms n) (hp : PreS s H Pc As)
    (hg : g.method = m) (hn : As.length = n) (hsize : g.locals.size = nL) (hstack : g.stack = As.reverse ++ rest) (hW : 2 * g.monitorRoom + (rest.map fun v => v.category).sum ≤ 8) (hdg : decode cc g.pc = .ok (.invokestatic index, 3)) (hf : cells + mc ≤ R.cells ∧ slots + ms ≤ R.slots) :
    va_Run p l e R s m args below meth c H locs cells slots mc ms g rest (Qc As.toArray) (free) := by
  obtain ⟨⟨hrc, hrs, hfr, hlo, hws, hcw⟩, hcode, hini, hy, hlen, hl, hstt⟩ := cw
  have hK : Back l R p e below s args y 3 8 (PreOf R mc ms Pc) (PostOf Qc mc ms free) := va_backW (hh := hh) (bytes := bytes) (maxL := maxL) (ret := ret) hM hp.1 hrc hrs hfr hlo hws hcw (fun a' U hW => word_at hW (Or.inl (by first | rfl | simp [Cond.onTables, Cond.keeps, Cond.steady])) hini)
  obtain ⟨hx, hb, hml, ho, -⟩ := S
  intro T hT X
  obtain ⟨v, vm₁, ⟨U', l2, c2, s2⟩, hW₁, X', ⟨g', mk, t, L, e1, e2, hq, h1, hL, h2, h3⟩, st⟩ := vx_callSW X hx (hh := hh) (bytes := bytes) (maxL := maxL) (ret := ret) ho hl hstt hini hcode hy hK hg (hsize.trans hml.symm) (argsL := As) (rest := rest) (fun sig h => hn.trans (hlen sig h)) hstack hW (by rw [hb]; exact hdg)
    (fun vm₁ hW₁ => ⟨hf.1, hf.2, hp.2 (T.setVm vm₁) hT hW₁⟩)
  dsimp only [Pt.U, Pt.locs, Pt.cells, Pt.slots] at X' e1 e2 h1 h2 h3 st
  subst h1; subst h2; subst h3
  exact ⟨v, (T.setVm vm₁).calling g' mk As.toArray, t, U', L, hT, X', hL, e1, e2, hq, st⟩
/-- not caught here, past rows that name other classes: it goes on to the caller -/
theorem vx_outP {p : Program} {l : Launch} {e : Env} {R : Room} {s : State} {m : MethodId} {args : Array Value} {below : List Frame} {meth : Method} {c : Code} {H : Heap} {locs : List Loc} {cells slots : Nat} {free : Addr → Prop} {ls : Array Slot} {rest : List Value} {Qc : Array Value → State → Outcome → State → Prop} {XC : String → State → State → Prop}
    {pc : Nat} {own E : String} {ce : Cell} {q : Addr} {mc ms : Nat} (hown : s.vm.findClass own = some m.cls) (hlocks : meth.locks = false)
    (hpass : ∀ z ∈ c.exceptionTable.toList, covers z pc = false ∨ (z.catchType ≠ 0 ∧ ∃ nm : String, (Cond.classLink own z.catchType nm).before args s = true ∧ va_Nc E nm s)) (hcell : H[q]? = some ce) (hv : ce.vm = .none) (hcl : s.vm.findClass E = some ce.cls)
    (hx : ∀ t : State, t.heap = H → s.vm.Alike t.vm → XC E s t) (hf : ∀ z ∈ locs, free z.base) (hc : cells ≤ mc) (hs : slots ≤ ms) :
    vx_W p l e R s m args below meth c H locs cells slots (vx_MQ below Qc XC args s mc ms free) (F0 m pc ls rest) q := by
  intro T hT X
  have hpl : e.platform.magicAccessors = ({} : Platform).magicAccessors := by rw [X.admits.platform]
  obtain ⟨vm', hW', X', st⟩ := X.outThrough hlocks q (g := F0 m pc ls rest) rfl rfl rfl (cell := ce) (by rw [hT]; exact hcell) (by rw [hv]; rfl)
    (by obtain ⟨k9, h9, -⟩ := Vm.findClass_spec hcl; exact ⟨k9, h9⟩) (fun z hz => by
      rcases hpass z hz with h | ⟨hz0, nm, hl1, hn1⟩
      · exact Or.inl h
      · obtain ⟨c6, hc6, hcl6⟩ := Cond.classLink_spec hown hl1 e.platform hpl
        obtain ⟨a8, b8, h1, h2, h3⟩ := hn1
        cases Option.some.inj (h1.symm.trans hcl)
        cases Option.some.inj (h2.symm.trans hc6)
        exact Or.inr ⟨hz0, _, hcl6, h3⟩)
  obtain ⟨g₀, hfr⟩ := X'.frames_eq
  have hcell9 : ((T.setVm vm').setFrames (.throwing q :: below)).heap[q]? = some ce := by
    show T.heap[q]? = some ce
    rw [hT]; exact hcell
  have hend : Ended ((T.setVm vm').setFrames (.throwing q :: below)) below (.threw q) := State.frames_setFrames _ (State.cur_lt_of_frames hfr)
  refine ⟨(T.setVm vm').setFrames (.throwing q :: below), ?_, .threw q, X'.here.running, hend, Or.inr ⟨q, rfl, E, ce, locs, hx _ hT (X'.ends _).1.alike, hcell9, hv, hcl, (X'.ends _).1, (X'.ends _).2.mono hc hs, hf⟩⟩
  rw [X.pushThrowing_eq]
  exact st
/-- a thing of a world lies in the heap -/
theorem vx_lt {D : va_G} {cl : List vw_C} {ws : va_W} {H1 : Heap} (h : va_P D cl ws H1) {k : Nat} {q : Nat × va_E} (hk : ws[k]? = some q) : q.1 < H1.size := (h k q hk).lt
end VXS
/-! ===== END ===== -/
/-! ===== BEGIN methods with a table of their own: called by a name, returning or throwing ===== -/
section VXH
/-! vx_backW, vx_callVX, vx_callSX, vx_callVW, vx_runVW, vx_runVX, vx_runSX, vx_ofWH follow the same proofs as their sisters above (Free/Laws.lean, Shelf42/LK1.lean); vx_outP calls Shelf42/NT130.lean (outThrough). -/
section
variable {l : Launch} {R : Room} {p : Program} {e : Env} {below : List Frame} {s : State} {sargs : Array Value} {y : MethodName} {len W9 : Nat}
theorem vx_backW {ws : List Cond} {rm : Room} {Pc : Array Value → State → Prop} {Qc : Array Value → State → Outcome → State → Prop} {XC : String → State → State → Prop} {mc ms : Nat} {free : Addr → Prop} {bytes : ByteArray} {maxL : Nat} {ret : Option FieldType} {hh : List (Nat × Nat × Nat × Nat)}
    (hM : vx_Met l y ws rm Pc Qc XC mc ms free) (hblind : FrameBlind Pc) (hrc : rm.cells = mc) (hrs : rm.slots = ms)
    (hframes : rm.frames + 1 ≤ R.frames) (hlocals : W9 + (maxL + 11) + rm.locals ≤ R.locals)
    (hws : ∀ w ∈ ws, ∀ a' U, s.WarmedH U.vm → w.before a' U = true) (hcode : Cond.codeWith y bytes maxL ret hh ∈ ws) (hinit : ∀ a' U, s.WarmedH U.vm → (Cond.initialized y.cls).before a' U = true) :
    vx_Back l R p e below s sargs y len W9 (PreOf R mc ms Pc) (PostOf Qc mc ms free) (vx_Post XC mc ms free) := by
  intro m meth c A g ig mk a X hg hsize hdg hW hn hp
  have h1 : (headSpec ws rm).pre.before a A.U = true := atoms_intro fun w hw => hws w hw _ _ X.warmed
  have h2 : (Cond.codeWith y bytes maxL ret hh).before a A.U = true := hws _ hcode _ _ X.warmed
  have h3 : (Cond.initialized y.cls).before a A.U = true := hinit _ _ X.warmed
  have h4 : A.cells + (headSpec ws rm).room.cells ≤ R.cells := by rw [show (headSpec ws rm).room.cells = mc from hrc]; exact hp.1
  have h5 : A.slots + (headSpec ws rm).room.slots ≤ R.slots := by rw [show (headSpec ws rm).room.slots = ms from hrs]; exact hp.2.1
  have hPc : Pc a (A.U.calling g mk a) := hblind _ _ _ _ hp.2.2
  obtain ⟨U, Ls, c0, s0⟩ := A
  dsimp only [Pt.U, Pt.locs, Pt.cells, Pt.slots] at h1 h2 h3 h4 h5 X hn hPc ⊢
  obtain ⟨m9, methY, cY, hn9, hmY, hcY, -, hlY, -⟩ := Cond.codeWith_spec h2
  cases Option.some.inj (hn9.symm.trans hn)
  obtain ⟨kY, hkY, -⟩ := className_of_methodNamed hn
  have hinitY : kY.init = .initialized := Cond.initialized_spec (findClass_of_methodNamed hn) hkY h3
  have h : At U g.method c below := by rw [hg]; exact X.here
  have hlocals9 : W9 + (maxL + 11) + (headSpec ws rm).room.locals ≤ R.locals := hlocals
  have happ : (headSpec ws rm).appliesLoose y e.platform (U.calling g mk a) = true :=
    Spec.appliesLoose_calling (g := g) h hdg hn hkY hinitY
      (X.room_calling (g := g) (R' := (headSpec ws rm).room) hsize hmY hcY hframes (by rw [hlY]; omega) h4 h5) h1
  obtain ⟨mid, hmid⟩ := h.above
  have hfr : (U.setTop g).frames = (.java g :: mid) ++ below := by rw [State.frames_setTop' g h.top, hmid]; rfl
  obtain ⟨o, s₂, hsteps, -, hend, hq⟩ := Steps.callFree hM p X.admits X.cas X.clock (acts := []) hfr happ hPc trivial
  have hq' : vx_Q Qc XC mc ms free a (U.calling g mk a) o s₂ := hq
  rw [State.frames_setTop' g h.top] at hend
  obtain ⟨g₀, hg0⟩ := Option.isSome_iff_exists.mp h.top
  obtain ⟨r, hr⟩ := State.topJava?_eq_some.mp hg0
  have hr' : (({ U with heap := s₂.heap, slotsUsed := s₂.slotsUsed } : State).setVm s₂.vm).frames = .java g₀ :: r := hr
  rcases hq' with ⟨hqc, L, hfe, hL⟩ | ⟨q, rfl, E, ce, L, hx, hce, hcv, hcl, hW₂, hsm, hL⟩
  · obtain ⟨⟨v, rfl⟩, hW₂, e2, q2, q3, q4, q5, q6⟩ := id hfe
    have e3 : s₂ = ({ (U.calling g mk a).setFrames s₂.frames with heap := s₂.heap, slotsUsed := s₂.slotsUsed } : State).setVm s₂.vm := by
      have : s₂ = ({ s₂ with vm := (U.calling g mk a).vm } : State).setVm s₂.vm := rfl
      rw [e2] at this
      exact this
    obtain ⟨c₂, i₂, len₂, hc₂, hd₂, hf₂⟩ := hend
    have hW' : U.WarmedH s₂.vm := hW₂
    have hcc : c₂ = c := by
      have h1 : s₂.code? g.method = U.code? g.method := by
        rw [State.code?_eq, State.code?_eq, hW'.alike.method?]
      exact Option.some.inj (hc₂.symm.trans (h1.trans h.code))
    subst hcc
    have hlen : len₂ = len := by rw [hdg] at hd₂; cases hd₂; rfl
    subst hlen
    have hs₂ : s₂ = (({ U with heap := s₂.heap, slotsUsed := s₂.slotsUsed } : State).setVm s₂.vm).setTop { g with pc := g.pc + len₂, stack := v.toList ++ g.stack } := by
      refine e3.trans ?_
      rw [hf₂, State.calling_eq h.top, State.setFrames_setFrames, State.setTop_of_frames _ hr', hr]
      rfl
    have hsame : U.sameButNew ({ U with heap := s₂.heap, slotsUsed := s₂.slotsUsed } : State) L mc ms := by
      refine ⟨?_, q2, q3, q4, q5, q6⟩
      obtain ⟨t, ht, -⟩ := State.frames_cons hr
      show ({ U with heap := s₂.heap, slotsUsed := s₂.slotsUsed } : State) = { U.setFrames U.frames with heap := s₂.heap, slotsUsed := s₂.slotsUsed }
      rw [State.setFrames_self ht]
    subst hg
    refine Or.inl ⟨v, ⟨(({ U with heap := s₂.heap, slotsUsed := s₂.slotsUsed } : State).setVm s₂.vm), Ls ++ L, c0 + mc, s0 + ms⟩,
      ⟨X.admits, X.cas, X.clock, X.frames, X.room, X.hears, X.method, X.code, (X.here.setHeapUsed s₂.heap s₂.slotsUsed).setVm hW'.alike, X.tail, State.WarmedH.trans X.warmed hW', X.limits, X.bytes, X.same.trans (hsame.setVm s.vm)⟩,
      ⟨g, mk, s₂, L, rfl, rfl, hqc, rfl, hL, rfl, rfl⟩, ?_⟩
    show Steps p.tables e below _ ((({ U with heap := s₂.heap, slotsUsed := s₂.slotsUsed } : State).setVm s₂.vm).setTop { g with pc := g.pc + len₂, stack := v.toList ++ g.stack })
    rw [← hs₂]
    exact hsteps
  · obtain ⟨e2, q2, q3, q4, q5, q6⟩ := id hsm
    have e3 : s₂ = ({ (U.calling g mk a).setFrames s₂.frames with heap := s₂.heap, slotsUsed := s₂.slotsUsed } : State).setVm s₂.vm := by
      have : s₂ = ({ s₂ with vm := (U.calling g mk a).vm } : State).setVm s₂.vm := rfl
      rw [e2] at this
      exact this
    have hf₂ : s₂.frames = .throwing q :: .java g :: U.frames.tail := hend
    have hW' : U.WarmedH s₂.vm := hW₂
    have hs₂ : s₂ = ((({ U with heap := s₂.heap, slotsUsed := s₂.slotsUsed } : State).setVm s₂.vm).setTop g).pushFrame (.throwing q) := by
      refine e3.trans ?_
      rw [hf₂, State.calling_eq h.top, State.setFrames_setFrames, State.pushFrame, State.frames_setTop _ hr', State.setTop_of_frames _ hr', State.setFrames_setFrames, hr]
      rfl
    have hsame : U.sameButNew ({ U with heap := s₂.heap, slotsUsed := s₂.slotsUsed } : State) L mc ms := by
      refine ⟨?_, q2, q3, q4, q5, q6⟩
      obtain ⟨t, ht, -⟩ := State.frames_cons hr
      show ({ U with heap := s₂.heap, slotsUsed := s₂.slotsUsed } : State) = { U.setFrames U.frames with heap := s₂.heap, slotsUsed := s₂.slotsUsed }
      rw [State.setFrames_self ht]
    subst hg
    refine Or.inr ⟨q, ⟨(({ U with heap := s₂.heap, slotsUsed := s₂.slotsUsed } : State).setVm s₂.vm), Ls ++ L, c0 + mc, s0 + ms⟩,
      ⟨X.admits, X.cas, X.clock, X.frames, X.room, X.hears, X.method, X.code, (X.here.setHeapUsed s₂.heap s₂.slotsUsed).setVm hW'.alike, X.tail, State.WarmedH.trans X.warmed hW', X.limits, X.bytes, X.same.trans (hsame.setVm s.vm)⟩,
      ⟨g, mk, s₂, L, E, ce, rfl, rfl, hx, hce, hcv, hcl, rfl, hL, rfl, rfl⟩, ?_⟩
    show Steps p.tables e below _ (((({ U with heap := s₂.heap, slotsUsed := s₂.slotsUsed } : State).setVm s₂.vm).setTop g).pushFrame (.throwing q))
    rw [← hs₂]
    exact hsteps
end
variable {p : Program} {l : Launch} {e : Env} {R : Room} {s : State} {m : MethodId} {args : Array Value} {below : List Frame} {meth : Method} {c : Code} {T : State} {H : Heap} {locs : List Loc} {cells slots : Nat}
theorem vx_callVX (X : Stand p l e R s m args below meth c T locs cells slots) (hexec : p.tables.exec = Jvm.exec) {own C : String} {index : Nat} {y : MethodName} {bytes : ByteArray} {maxL : Nat} {ret : Option FieldType} {hh : List (Nat × Nat × Nat × Nat)}
    (hown : s.vm.findClass own = some m.cls) (hlink : (Cond.methodLink own index y).before args s = true) (hinst : (Cond.instanceMethod y).before args s = true) (hsel : (Cond.selects C y y).before args s = true)
    (hcode : (Cond.codeWith y bytes maxL ret hh).before args s = true) (hy : y.cls ≠ "java/lang/invoke/MethodHandle" ∧ y.cls ≠ "java/lang/invoke/VarHandle")
    {W9 : Nat} {Pre : Pt → Array Value → Prop} {Post : Pt → Array Value → Option Value → Pt → Prop} {PostX : Pt → Array Value → Addr → Pt → Prop} (hK : vx_Back l R p e below s args y 3 W9 Pre Post PostX)
    {b : Addr} {cellB : Cell} (hcell : T.heap[b]? = some cellB) (hobj : cellB.vm.isStatics = false) (hcls : s.vm.findClass C = some cellB.cls)
    {g : JFrame} (hg : g.method = m) (hsize : g.locals.size = c.maxLocals) {argsL rest : List Value} (hlen : ∀ sig, parseMethodDescriptor y.desc = some sig → argsL.length = sig.parameters.length)
    (hstack : g.stack = argsL.reverse ++ .ref b :: rest) (hW : 2 * g.monitorRoom + (rest.map fun v => v.category).sum ≤ W9) (hdg : decode c.code g.pc = .ok (.invokevirtual index, 3))
    (hpre : ∀ vm₁, s.WarmedH vm₁ → Pre ⟨T.setVm vm₁, locs, cells, slots⟩ (Value.ref b :: argsL).toArray) :
    (∃ (v : Option Value) (vm₁ : Vm) (B : Pt), s.WarmedH vm₁ ∧ Stand p l e R s m args below meth c B.U B.locs B.cells B.slots ∧ Post ⟨T.setVm vm₁, locs, cells, slots⟩ (Value.ref b :: argsL).toArray v B ∧
      ∀ target, Steps p.tables e below (B.U.setTop { g with pc := g.pc + 3, stack := v.toList ++ rest }) target → Steps p.tables e below (T.setTop g) target) ∨
    (∃ (q : Addr) (vm₁ : Vm) (B : Pt), s.WarmedH vm₁ ∧ Stand p l e R s m args below meth c B.U B.locs B.cells B.slots ∧ PostX ⟨T.setVm vm₁, locs, cells, slots⟩ (Value.ref b :: argsL).toArray q B ∧
      Steps p.tables e below (T.setTop g) ((B.U.setTop { g with stack := rest }).pushFrame (.throwing q))) := by
  obtain ⟨mk, methM, hnamed, hmethM, hstM, habM⟩ := Cond.instanceMethod_spec hinst
  obtain ⟨m8, methM', cM, hn8, hmethM', -, -, -, -, -, -, hsigM⟩ := Cond.codeWith_spec hcode
  cases Option.some.inj (hn8.symm.trans hnamed)
  cases hmethM.symm.trans hmethM'
  obtain ⟨c2, r2, m2, q1, q2, q3, q4, kP, hkP, hkPi⟩ := Cond.selects_spec hsel
  cases hcls.symm.trans q1
  cases (State.methodFound?_of_named hnamed hy).symm.trans q2
  cases hnamed.symm.trans q3
  have hselP : selectMethod e.platform s.vm cellB.cls mk = .method mk := by rw [Launch.admits_selectMethod X.admits]; exact q4
  obtain ⟨vm₁, X₁, hstep₁⟩ := X.invokevirtual hexec hown hlink hnamed hmethM hstM hkP hkPi hy (a := b) (cell := cellB) hcell
    (fun z h => by rw [h] at hobj; cases hobj) hselP hmethM habM hkP hkPi (g := g) hg (argsL := argsL) (rest := rest) (hlen _ hsigM) hstack hdg
  rcases hK m meth c ⟨T.setVm vm₁, locs, cells, slots⟩ { g with stack := rest } (.invokevirtual index) mk (Value.ref b :: argsL).toArray X₁ hg hsize hdg hW (X₁.named hnamed) (hpre vm₁ X₁.warmed) with ⟨v, B, X', hpost, hsteps⟩ | ⟨q, B, X', hpost, hsteps⟩
  · exact Or.inl ⟨v, vm₁, B, X₁.warmed, X', hpost, fun target h => hstep₁ _ fun acts => by rw [doInvoke_state]; exact hsteps.trans h⟩
  · exact Or.inr ⟨q, vm₁, B, X₁.warmed, X', hpost, hstep₁ _ fun acts => by rw [doInvoke_state]; exact hsteps⟩
theorem vx_callSX (X : Stand p l e R s m args below meth c T locs cells slots) (hexec : p.tables.exec = Jvm.exec) {own : String} {index : Nat} {y : MethodName} {bytes : ByteArray} {maxL : Nat} {ret : Option FieldType} {hh : List (Nat × Nat × Nat × Nat)}
    (hown : s.vm.findClass own = some m.cls) (hlink : (Cond.methodLink own index y).before args s = true) (hstat : (Cond.static y).before args s = true) (hinit : (Cond.initialized y.cls).before args s = true)
    (hcode : (Cond.codeWith y bytes maxL ret hh).before args s = true) (hy : y.cls ≠ "java/lang/invoke/MethodHandle" ∧ y.cls ≠ "java/lang/invoke/VarHandle")
    {W9 : Nat} {Pre : Pt → Array Value → Prop} {Post : Pt → Array Value → Option Value → Pt → Prop} {PostX : Pt → Array Value → Addr → Pt → Prop} (hK : vx_Back l R p e below s args y 3 W9 Pre Post PostX)
    {g : JFrame} (hg : g.method = m) (hsize : g.locals.size = c.maxLocals) {argsL rest : List Value} (hlen : ∀ sig, parseMethodDescriptor y.desc = some sig → argsL.length = sig.parameters.length)
    (hstack : g.stack = argsL.reverse ++ rest) (hW : 2 * g.monitorRoom + (rest.map fun v => v.category).sum ≤ W9) (hdg : decode c.code g.pc = .ok (.invokestatic index, 3))
    (hpre : ∀ vm₁, s.WarmedH vm₁ → Pre ⟨T.setVm vm₁, locs, cells, slots⟩ argsL.toArray) :
    (∃ (v : Option Value) (vm₁ : Vm) (B : Pt), s.WarmedH vm₁ ∧ Stand p l e R s m args below meth c B.U B.locs B.cells B.slots ∧ Post ⟨T.setVm vm₁, locs, cells, slots⟩ argsL.toArray v B ∧
      ∀ target, Steps p.tables e below (B.U.setTop { g with pc := g.pc + 3, stack := v.toList ++ rest }) target → Steps p.tables e below (T.setTop g) target) ∨
    (∃ (q : Addr) (vm₁ : Vm) (B : Pt), s.WarmedH vm₁ ∧ Stand p l e R s m args below meth c B.U B.locs B.cells B.slots ∧ PostX ⟨T.setVm vm₁, locs, cells, slots⟩ argsL.toArray q B ∧
      Steps p.tables e below (T.setTop g) ((B.U.setTop { g with stack := rest }).pushFrame (.throwing q))) := by
  obtain ⟨mk, methM, cM, hnamed, hmethM, -, -, -, -, -, -, hsigM⟩ := Cond.codeWith_spec hcode
  have hstatic : methM.isStatic = true := Cond.static_spec hnamed hmethM hstat
  obtain ⟨kP, hkP, -⟩ := className_of_methodNamed hnamed
  have hinitP : kP.init = .initialized := Cond.initialized_spec (findClass_of_methodNamed hnamed) hkP hinit
  obtain ⟨vm₁, X₁, hstep₁⟩ := X.invokestatic hexec hown hlink hnamed hmethM hstatic hkP hinitP hy (g := g) hg (argsL := argsL) (rest := rest) (hlen _ hsigM) hstack hdg
  rcases hK m meth c ⟨T.setVm vm₁, locs, cells, slots⟩ { g with stack := rest } (.invokestatic index) mk argsL.toArray X₁ hg hsize hdg hW (X₁.named hnamed) (hpre vm₁ X₁.warmed) with ⟨v, B, X', hpost, hsteps⟩ | ⟨q, B, X', hpost, hsteps⟩
  · exact Or.inl ⟨v, vm₁, B, X₁.warmed, X', hpost, fun target h => hstep₁ _ fun acts => by rw [doInvoke_state]; exact hsteps.trans h⟩
  · exact Or.inr ⟨q, vm₁, B, X₁.warmed, X', hpost, hstep₁ _ fun acts => by rw [doInvoke_state]; exact hsteps⟩
theorem vx_callVW (X : Stand p l e R s m args below meth c T locs cells slots) (hexec : p.tables.exec = Jvm.exec) {own C : String} {index : Nat} {y : MethodName} {bytes : ByteArray} {maxL : Nat} {ret : Option FieldType} {hh : List (Nat × Nat × Nat × Nat)}
    (hown : s.vm.findClass own = some m.cls) (hlink : (Cond.methodLink own index y).before args s = true) (hinst : (Cond.instanceMethod y).before args s = true) (hsel : (Cond.selects C y y).before args s = true)
    (hcode : (Cond.codeWith y bytes maxL ret hh).before args s = true) (hy : y.cls ≠ "java/lang/invoke/MethodHandle" ∧ y.cls ≠ "java/lang/invoke/VarHandle")
    {W9 : Nat} {Pre : Pt → Array Value → Prop} {Post : Pt → Array Value → Option Value → Pt → Prop} (hK : Back l R p e below s args y 3 W9 Pre Post)
    {b : Addr} {cellB : Cell} (hcell : T.heap[b]? = some cellB) (hobj : cellB.vm.isStatics = false) (hcls : s.vm.findClass C = some cellB.cls)
    {g : JFrame} (hg : g.method = m) (hsize : g.locals.size = c.maxLocals) {argsL rest : List Value} (hlen : ∀ sig, parseMethodDescriptor y.desc = some sig → argsL.length = sig.parameters.length)
    (hstack : g.stack = argsL.reverse ++ .ref b :: rest) (hW : 2 * g.monitorRoom + (rest.map fun v => v.category).sum ≤ W9) (hdg : decode c.code g.pc = .ok (.invokevirtual index, 3))
    (hpre : ∀ vm₁, s.WarmedH vm₁ → Pre ⟨T.setVm vm₁, locs, cells, slots⟩ (Value.ref b :: argsL).toArray) :
    ∃ (v : Option Value) (vm₁ : Vm) (B : Pt), s.WarmedH vm₁ ∧ Stand p l e R s m args below meth c B.U B.locs B.cells B.slots ∧ Post ⟨T.setVm vm₁, locs, cells, slots⟩ (Value.ref b :: argsL).toArray v B ∧
      ∀ target, Steps p.tables e below (B.U.setTop { g with pc := g.pc + 3, stack := v.toList ++ rest }) target → Steps p.tables e below (T.setTop g) target := by
  obtain ⟨mk, methM, hnamed, hmethM, hstM, habM⟩ := Cond.instanceMethod_spec hinst
  obtain ⟨m8, methM', cM, hn8, hmethM', -, -, -, -, -, -, hsigM⟩ := Cond.codeWith_spec hcode
  cases Option.some.inj (hn8.symm.trans hnamed)
  cases hmethM.symm.trans hmethM'
  obtain ⟨c2, r2, m2, q1, q2, q3, q4, kP, hkP, hkPi⟩ := Cond.selects_spec hsel
  cases hcls.symm.trans q1
  cases (State.methodFound?_of_named hnamed hy).symm.trans q2
  cases hnamed.symm.trans q3
  have hselP : selectMethod e.platform s.vm cellB.cls mk = .method mk := by rw [Launch.admits_selectMethod X.admits]; exact q4
  obtain ⟨vm₁, X₁, hstep₁⟩ := X.invokevirtual hexec hown hlink hnamed hmethM hstM hkP hkPi hy (a := b) (cell := cellB) hcell
    (fun z h => by rw [h] at hobj; cases hobj) hselP hmethM habM hkP hkPi (g := g) hg (argsL := argsL) (rest := rest) (hlen _ hsigM) hstack hdg
  obtain ⟨v, B, X', hpost, hsteps⟩ := hK m meth c ⟨T.setVm vm₁, locs, cells, slots⟩ { g with stack := rest } (.invokevirtual index) mk (Value.ref b :: argsL).toArray X₁ hg hsize hdg hW (X₁.named hnamed) (hpre vm₁ X₁.warmed)
  exact ⟨v, vm₁, B, X₁.warmed, X', hpost, fun target h => hstep₁ _ fun acts => by rw [doInvoke_state]; exact hsteps.trans h⟩
abbrev vx_CVW (R : Room) (s : State) (args : Array Value) (own C : String) (index : Nat) (y : MethodName) (bytes : ByteArray) (maxL : Nat) (ret : Option FieldType) (hh : List (Nat × Nat × Nat × Nat)) (ws : List Cond) (rm : Room) (mc ms n : Nat) : Prop :=
  (rm.cells = mc ∧ rm.slots = ms ∧ rm.frames + 1 ≤ R.frames ∧ 8 + (maxL + 11) + rm.locals ≤ R.locals ∧ (∀ w ∈ ws, ∀ (a' : Array Value) (U : State), s.WarmedH U.vm → w.before a' U = true) ∧ Cond.codeWith y bytes maxL ret hh ∈ ws) ∧
  (Cond.codeWith y bytes maxL ret hh).before args s = true ∧ (Cond.initialized y.cls).before args s = true ∧ (y.cls ≠ "java/lang/invoke/MethodHandle" ∧ y.cls ≠ "java/lang/invoke/VarHandle") ∧
  (∀ sig, parseMethodDescriptor y.desc = some sig → n = sig.parameters.length) ∧ (Cond.methodLink own index y).before args s = true ∧ (Cond.instanceMethod y).before args s = true ∧ (Cond.selects C y y).before args s = true
theorem vx_cwVW {own C : String} {index maxL mc ms : Nat} {y : MethodName} {bytes : ByteArray} {ret : Option FieldType} {hh : List (Nat × Nat × Nat × Nat)} {Ts ws ws' : List Cond} {rm : Room} (n : Nat) (ht : ∀ w ∈ Ts, w.before args s = true) (hT : GoodIn Ts (wsV own index C y ws)) (hw : ws = Cond.codeWith y bytes maxL ret hh :: ws') (hrc : rm.cells = mc) (hrs : rm.slots = ms)
    (hd : y.cls = C ∧ y.cls ≠ "java/lang/invoke/MethodHandle" ∧ y.cls ≠ "java/lang/invoke/VarHandle" ∧ (parseMethodDescriptor y.desc).map (fun d => d.parameters.length) = some n) (hR : rm.frames + 1 ≤ R.frames ∧ 8 + (maxL + 11) + rm.locals ≤ R.locals) :
    vx_CVW R s args own C index y bytes maxL ret hh ws rm mc ms n := by
  obtain ⟨hC, hd⟩ := hd
  subst hC
  have ok : ∀ w ∈ wsV own index y.cls y ws, w.before args s = true := fun w h => ht w (hT w h).1
  have hG : GoodIn Ts ws := fun w h => hT w (by unfold wsV; exact List.mem_append_right _ h)
  have hc : Cond.codeWith y bytes maxL ret hh ∈ ws := by rw [hw]; exact List.mem_cons_self
  refine ⟨⟨hrc, hrs, hR.1, hR.2, pay_in ht hG, hc⟩, ht _ (hG _ hc).1, ok _ (by simp [wsV]), ⟨hd.1, hd.2.1⟩, fun sig h => ?_, ok _ (by simp [wsV]), ok _ (by simp [wsV]), ok _ (by simp [wsV])⟩
  have h2 := hd.2.2
  rw [h] at h2
  exact (Option.some.inj h2).symm
theorem vx_runVW {y : MethodName} {bytes cc : ByteArray} {maxL nL mc ms n index : Nat} {ret : Option FieldType} {hh : List (Nat × Nat × Nat × Nat)} {ws : List Cond} {rm : Room} {Pc : Array Value → State → Prop} {Qc : Array Value → State → Outcome → State → Prop} {free : Addr → Prop} {Ts : List Cond} {own C : String} {b : Addr} {As rest : List Value} {g : JFrame}
    (S : CallFix p m c cc nL s args Ts own) (hM : Met l y ws rm Pc Qc mc ms free) (cw : vx_CVW R s args own C index y bytes maxL ret hh ws rm mc ms n) (hp : PreV s H C b Pc As)
    (hg : g.method = m) (hn : As.length = n) (hsize : g.locals.size = nL) (hstack : g.stack = As.reverse ++ .ref b :: rest) (hW : 2 * g.monitorRoom + (rest.map fun v => v.category).sum ≤ 8) (hdg : decode cc g.pc = .ok (.invokevirtual index, 3)) (hf : cells + mc ≤ R.cells ∧ slots + ms ≤ R.slots) :
    va_Run p l e R s m args below meth c H locs cells slots mc ms g rest (Qc (Value.ref b :: As).toArray) free := by
  obtain ⟨⟨hrc, hrs, hfr, hlo, hws, hcw⟩, hcode, hini, hy, hlen, hl, hin, hse⟩ := cw
  have hK : Back l R p e below s args y 3 8 (PreOf R mc ms Pc) (PostOf Qc mc ms free) := va_backW (hh := hh) (bytes := bytes) (maxL := maxL) (ret := ret) hM hp.1 hrc hrs hfr hlo hws hcw (fun a' U hW => word_at hW (Or.inl (by first | rfl | simp [Cond.onTables, Cond.keeps, Cond.steady])) hini)
  obtain ⟨hx, hb, hml, ho, -⟩ := S
  obtain ⟨-, ⟨cellB, hcB, hoB, hclB⟩, hPc⟩ := hp
  intro T hT X
  obtain ⟨v, vm₁, ⟨U', l2, c2, s2⟩, hW₁, X', ⟨g', mk, t, L, e1, e2, hq, h1, hL, h2, h3⟩, st⟩ := vx_callVW X hx (C := C) (hh := hh) (bytes := bytes) (maxL := maxL) (ret := ret) ho hl hin hse hcode hy hK (by rw [hT]; exact hcB) hoB hclB hg (hsize.trans hml.symm) (argsL := As) (rest := rest) (fun sig h => hn.trans (hlen sig h)) hstack hW (by rw [hb]; exact hdg)
    (fun vm₁ hW₁ => ⟨hf.1, hf.2, hPc (T.setVm vm₁) hT hW₁⟩)
  dsimp only [Pt.U, Pt.locs, Pt.cells, Pt.slots] at X' e1 e2 h1 h2 h3 st
  subst h1; subst h2; subst h3
  exact ⟨v, (T.setVm vm₁).calling g' mk (Value.ref b :: As).toArray, t, U', L, hT, X', hL, e1, e2, hq, st⟩
section
variable {y : MethodName} {bytes cc : ByteArray} {maxL nL mc ms n index : Nat} {ret : Option FieldType} {ws : List Cond} {rm : Room} {Pc : Array Value → State → Prop} {Qc : Array Value → State → Outcome → State → Prop} {XC : String → State → State → Prop} {free : Addr → Prop} {Ts : List Cond} {own C : String} {b : Addr} {As rest : List Value} {g : JFrame}
theorem vx_runVX {hh : List (Nat × Nat × Nat × Nat)} (S : CallFix p m c cc nL s args Ts own) (hM : vx_Met l y ws rm Pc Qc XC mc ms free) (cw : vx_CVW R s args own C index y bytes maxL ret hh ws rm mc ms n) (hp : PreV s H C b Pc As)
    (hg : g.method = m) (hn : As.length = n) (hsize : g.locals.size = nL) (hstack : g.stack = As.reverse ++ .ref b :: rest) (hW : 2 * g.monitorRoom + (rest.map fun v => v.category).sum ≤ 8) (hdg : decode cc g.pc = .ok (.invokevirtual index, 3)) (hf : cells + mc ≤ R.cells ∧ slots + ms ≤ R.slots) :
    vx_Run p l e R s m args below meth c H locs cells slots mc ms g rest (Qc (Value.ref b :: As).toArray) XC free := by
  obtain ⟨⟨hrc, hrs, hfr, hlo, hws, hcw⟩, hcode, hini, hy, hlen, hl, hin, hse⟩ := cw
  have hK : vx_Back l R p e below s args y 3 8 (PreOf R mc ms Pc) (PostOf Qc mc ms free) (vx_Post XC mc ms free) := vx_backW (hh := hh) (bytes := bytes) (maxL := maxL) (ret := ret) hM hp.1 hrc hrs hfr hlo hws hcw (fun a' U hW => word_at hW (Or.inl (by first | rfl | simp [Cond.onTables, Cond.keeps, Cond.steady])) hini)
  obtain ⟨hx, hb, hml, ho, -⟩ := S
  obtain ⟨-, ⟨cellB, hcB, hoB, hclB⟩, hPc⟩ := hp
  intro T hT X
  rcases vx_callVX X hx (C := C) (hh := hh) (bytes := bytes) (maxL := maxL) (ret := ret) ho hl hin hse hcode hy hK (by rw [hT]; exact hcB) hoB hclB hg (hsize.trans hml.symm) (argsL := As) (rest := rest) (fun sig h => hn.trans (hlen sig h)) hstack hW (by rw [hb]; exact hdg)
    (fun vm₁ hW₁ => ⟨hf.1, hf.2, hPc (T.setVm vm₁) hT hW₁⟩) with ⟨v, vm₁, ⟨U', l2, c2, s2⟩, hW₁, X', ⟨g', mk, t, L, e1, e2, hq, h1, hL, h2, h3⟩, st⟩ | ⟨q, vm₁, ⟨U', l2, c2, s2⟩, hW₁, X', ⟨g', mk, t, L, E, ce, e1, e2, hq, hce, hcv, hcl, h1, hL, h2, h3⟩, st⟩
  · dsimp only [Pt.U, Pt.locs, Pt.cells, Pt.slots] at X' e1 e2 h1 h2 h3 st
    subst h1; subst h2; subst h3
    exact Or.inl ⟨v, (T.setVm vm₁).calling g' mk (Value.ref b :: As).toArray, t, U', L, hT, X', hL, e1, e2, hq, st⟩
  · dsimp only [Pt.U, Pt.locs, Pt.cells, Pt.slots] at X' e1 e2 h1 h2 h3 st hcl
    subst h1; subst h2; subst h3
    exact Or.inr ⟨q, (T.setVm vm₁).calling g' mk (Value.ref b :: As).toArray, t, U', L, E, ce, hT, X', hL, e1, e2, hq, hce, hcv, vx_cls hW₁ hcl, st⟩
theorem vx_runSX {hh : List (Nat × Nat × Nat × Nat)} (S : CallFix p m c cc nL s args Ts own) (hM : vx_Met l y ws rm Pc Qc XC mc ms free) (cw : vx_CSW R s args own index y bytes maxL ret hh ws rm mc ms n) (hp : PreS s H Pc As)
    (hg : g.method = m) (hn : As.length = n) (hsize : g.locals.size = nL) (hstack : g.stack = As.reverse ++ rest) (hW : 2 * g.monitorRoom + (rest.map fun v => v.category).sum ≤ 8) (hdg : decode cc g.pc = .ok (.invokestatic index, 3)) (hf : cells + mc ≤ R.cells ∧ slots + ms ≤ R.slots) :
    vx_Run p l e R s m args below meth c H locs cells slots mc ms g rest (Qc As.toArray) XC free := by
  obtain ⟨⟨hrc, hrs, hfr, hlo, hws, hcw⟩, hcode, hini, hy, hlen, hl, hstt⟩ := cw
  have hK : vx_Back l R p e below s args y 3 8 (PreOf R mc ms Pc) (PostOf Qc mc ms free) (vx_Post XC mc ms free) := vx_backW (hh := hh) (bytes := bytes) (maxL := maxL) (ret := ret) hM hp.1 hrc hrs hfr hlo hws hcw (fun a' U hW => word_at hW (Or.inl (by first | rfl | simp [Cond.onTables, Cond.keeps, Cond.steady])) hini)
  obtain ⟨hx, hb, hml, ho, -⟩ := S
  intro T hT X
  rcases vx_callSX X hx (hh := hh) (bytes := bytes) (maxL := maxL) (ret := ret) ho hl hstt hini hcode hy hK hg (hsize.trans hml.symm) (argsL := As) (rest := rest) (fun sig h => hn.trans (hlen sig h)) hstack hW (by rw [hb]; exact hdg)
    (fun vm₁ hW₁ => ⟨hf.1, hf.2, hp.2 (T.setVm vm₁) hT hW₁⟩) with ⟨v, vm₁, ⟨U', l2, c2, s2⟩, hW₁, X', ⟨g', mk, t, L, e1, e2, hq, h1, hL, h2, h3⟩, st⟩ | ⟨q, vm₁, ⟨U', l2, c2, s2⟩, hW₁, X', ⟨g', mk, t, L, E, ce, e1, e2, hq, hce, hcv, hcl, h1, hL, h2, h3⟩, st⟩
  · dsimp only [Pt.U, Pt.locs, Pt.cells, Pt.slots] at X' e1 e2 h1 h2 h3 st
    subst h1; subst h2; subst h3
    exact Or.inl ⟨v, (T.setVm vm₁).calling g' mk As.toArray, t, U', L, hT, X', hL, e1, e2, hq, st⟩
  · dsimp only [Pt.U, Pt.locs, Pt.cells, Pt.slots] at X' e1 e2 h1 h2 h3 st hcl
    subst h1; subst h2; subst h3
    exact Or.inr ⟨q, (T.setVm vm₁).calling g' mk As.toArray, t, U', L, E, ce, hT, X', hL, e1, e2, hq, hce, hcv, vx_cls hW₁ hcl, st⟩
end
end VXH
theorem vx_ofWH {l : Launch} {y : MethodName} {ws ws' : List Cond} {rm : Room} {Pc : Array Value → State → Prop} {Qc : Array Value → State → Outcome → State → Prop} {XC : String → State → State → Prop} {mc ms : Nat} {free : Addr → Prop} {cc : ByteArray} {maxL : Nat} {ret : Option FieldType} {hh : List (Nat × Nat × Nat × Nat)}
    (hy : plainName y.cls = true) (hw : ws = Cond.codeWith y cc maxL ret hh :: ws')
    (body : ∀ p e s m args below meth c s₁, BodyLoose p l y (headSpec ws rm) cc maxL ret e s m args below meth c s₁ → c.maxLocals = maxL → Pc args s →
      W p l e (headSpec ws rm).room s m args below meth c s.heap [] 0 0 (vx_MQ below Qc XC args s mc ms free) (entryFrame m args maxL)) : vx_Met l y ws rm Pc Qc XC mc ms free := by
  refine MetFree.of_bodyS (code := cc) (maxLocals := maxL) (ret := ret) hy ?_ ?_
  · intro args s m h hn
    obtain ⟨m9, meth, c, hn9, h1, h2, h3, h4, -, h5, h6, -⟩ := Cond.codeWith_spec (atoms_spec (ws := ws) h _ (by rw [hw]; exact List.mem_cons_self))
    cases hn.symm.trans hn9
    exact ⟨meth, c, h1, h2, h3, h4, h5, h6⟩
  · intro p e s m args below meth c s₁ B hml hP _
    have hh0 : s₁.heap = s.heap := by rw [B.state]; rfl
    obtain ⟨t, a1, o, b1, b2, b3⟩ := body p e s m args below meth c s₁ B hml hP s₁ hh0 (Stand.of_body B)
    exact ⟨t, o, a1, b1, b2, b3⟩
/-! ===== END ===== -/
end
section
/-! ===== BEGIN printed: names, fields, word lists, decode rows ===== -/
def RX0 : String := "Rotationary$Court"
def TX0 : u_T := fun k => match k with
  | 0 => ("Rotationary$Court", "first", "LRotationary$Side;", true)
  | 1 => ("Rotationary$Court", "second", "LRotationary$Side;", true)
  | 2 => ("Rotationary$Court", "server", "I", false)
  | _ => ("Rotationary$Court", "pointsAheadOfWrong", "I", false)
def tyX0 : Nat → FieldType := fun k => match k with
  | 0 => .object "Rotationary$Side"
  | 1 => .object "Rotationary$Side"
  | 2 => .int
  | _ => .int
theorem nmX0 : ∀ a, a < 4 → ∀ b, b < 4 → a ≠ b → (TX0 a).2.1 ≠ (TX0 b).2.1 := by decide +kernel
theorem tyX0_ok : ∀ k, k < 4 → parseFieldDescriptor (TX0 k).2.2.1 = some (tyX0 k) := by decide +kernel
abbrev cX0_init : ByteArray := prog_2_method_1_code
def yX0_init : MethodName := ⟨RX0, "<init>", "()V"⟩
abbrev cX0_sideOf : ByteArray := prog_2_method_2_code
def yX0_sideOf : MethodName := ⟨RX0, "sideOf", "(I)LRotationary$Side;"⟩
abbrev cX0_isSetOn : ByteArray := prog_2_method_3_code
def yX0_isSetOn : MethodName := ⟨RX0, "isSetOn", "()Z"⟩
abbrev cX0_isMatchOver : ByteArray := prog_2_method_4_code
def yX0_isMatchOver : MethodName := ⟨RX0, "isMatchOver", "()Z"⟩
abbrev cX0_setsPlayed : ByteArray := prog_2_method_5_code
def yX0_setsPlayed : MethodName := ⟨RX0, "setsPlayed", "()I"⟩
abbrev cX0_startSet : ByteArray := prog_2_method_6_code
def yX0_startSet : MethodName := ⟨RX0, "startSet", "(I)V"⟩
abbrev cX0_takeService : ByteArray := prog_2_method_7_code
def yX0_takeService : MethodName := ⟨RX0, "takeService", "(I)Z"⟩
abbrev cX0_givePoint : ByteArray := prog_2_method_8_code
def yX0_givePoint : MethodName := ⟨RX0, "givePoint", "(I)V"⟩
abbrev cX0_takeBack : ByteArray := prog_2_method_9_code
def yX0_takeBack : MethodName := ⟨RX0, "takeBack", "()I"⟩
abbrev cX0_hasWonSet : ByteArray := prog_2_method_10_code
def yX0_hasWonSet : MethodName := ⟨RX0, "hasWonSet", "(I)Z"⟩
abbrev cX0_endSet : ByteArray := prog_2_method_11_code
def yX0_endSet : MethodName := ⟨RX0, "endSet", "(I)V"⟩
abbrev cX0_copyFrom : ByteArray := prog_2_method_12_code
def yX0_copyFrom : MethodName := ⟨RX0, "copyFrom", "(LRotationary$Court;)V"⟩
def RX1 : String := "Rotationary$Rally"
def TX1 : u_T := fun k => match k with
  | 0 => ("Rotationary$Rally", "isOn", "Z", false)
  | 1 => ("Rotationary$Rally", "team", "I", false)
  | 2 => ("Rotationary$Rally", "shirt", "I", false)
  | 3 => ("Rotationary$Rally", "kind", "I", false)
  | 4 => ("Rotationary$Rally", "inARow", "I", false)
  | 5 => ("Rotationary$Rally", "isNetNotedOfFirst", "Z", false)
  | _ => ("Rotationary$Rally", "isNetNotedOfSecond", "Z", false)
def tyX1 : Nat → FieldType := fun k => match k with
  | 0 => .boolean
  | 1 => .int
  | 2 => .int
  | 3 => .int
  | 4 => .int
  | 5 => .boolean
  | _ => .boolean
theorem nmX1 : ∀ a, a < 7 → ∀ b, b < 7 → a ≠ b → (TX1 a).2.1 ≠ (TX1 b).2.1 := by decide +kernel
theorem tyX1_ok : ∀ k, k < 7 → parseFieldDescriptor (TX1 k).2.2.1 = some (tyX1 k) := by decide +kernel
abbrev cX1_init : ByteArray := prog_3_method_1_code
def yX1_init : MethodName := ⟨RX1, "<init>", "()V"⟩
abbrev cX1_start : ByteArray := prog_3_method_2_code
def yX1_start : MethodName := ⟨RX1, "start", "(II)V"⟩
abbrev cX1_faultOf : ByteArray := prog_3_method_3_code
def yX1_faultOf : MethodName := ⟨RX1, "faultOf", "(III)I"⟩
abbrev cX1_note : ByteArray := prog_3_method_4_code
def yX1_note : MethodName := ⟨RX1, "note", "(III)V"⟩
abbrev cX1_noteNet : ByteArray := prog_3_method_5_code
def yX1_noteNet : MethodName := ⟨RX1, "noteNet", "(I)V"⟩
abbrev cX1_isNetNotedOf : ByteArray := prog_3_method_6_code
def yX1_isNetNotedOf : MethodName := ⟨RX1, "isNetNotedOf", "(I)Z"⟩
def RX2 : String := "Rotationary$Reader"
def TX2 : u_T := fun k => match k with
  | 0 => ("Rotationary$Reader", "court", "LRotationary$Court;", true)
  | 1 => ("Rotationary$Reader", "lostByFirst", "[I", true)
  | _ => ("Rotationary$Reader", "lostBySecond", "[I", true)
def tyX2 : Nat → FieldType := fun k => match k with
  | 0 => .object "Rotationary$Court"
  | 1 => .array .int
  | _ => .array .int
theorem nmX2 : ∀ a, a < 3 → ∀ b, b < 3 → a ≠ b → (TX2 a).2.1 ≠ (TX2 b).2.1 := by decide +kernel
theorem tyX2_ok : ∀ k, k < 3 → parseFieldDescriptor (TX2 k).2.2.1 = some (tyX2 k) := by decide +kernel
abbrev cX2_init : ByteArray := prog_4_method_1_code
def yX2_init : MethodName := ⟨RX2, "<init>", "()V"⟩
abbrev cX2_read : ByteArray := prog_4_method_2_code
def yX2_read : MethodName := ⟨RX2, "read", "(LRotationary$Sheet;)V"⟩
abbrev cX2_lostBy : ByteArray := prog_4_method_3_code
def yX2_lostBy : MethodName := ⟨RX2, "lostBy", "(II)I"⟩
abbrev cX2_rowOf : ByteArray := prog_4_method_4_code
def yX2_rowOf : MethodName := ⟨RX2, "rowOf", "(I)[I"⟩
abbrev cX2_clear : ByteArray := prog_4_method_5_code
def yX2_clear : MethodName := ⟨RX2, "clear", "()V"⟩
abbrev cX2_follow : ByteArray := prog_4_method_6_code
def yX2_follow : MethodName := ⟨RX2, "follow", "(IIII)V"⟩
abbrev cX2_countLost : ByteArray := prog_4_method_7_code
def yX2_countLost : MethodName := ⟨RX2, "countLost", "(I)V"⟩
def RX3 : String := "Rotationary$Sheet"
def TX3 : u_T := fun k => match k with
  | 0 => ("Rotationary$Sheet", "signs", "[I", true)
  | _ => ("Rotationary$Sheet", "length", "I", false)
def tyX3 : Nat → FieldType := fun k => match k with
  | 0 => .array .int
  | _ => .int
theorem nmX3 : ∀ a, a < 2 → ∀ b, b < 2 → a ≠ b → (TX3 a).2.1 ≠ (TX3 b).2.1 := by decide +kernel
theorem tyX3_ok : ∀ k, k < 2 → parseFieldDescriptor (TX3 k).2.2.1 = some (tyX3 k) := by decide +kernel
abbrev cX3_init : ByteArray := prog_5_method_1_code
def yX3_init : MethodName := ⟨RX3, "<init>", "()V"⟩
abbrev cX3_write : ByteArray := prog_5_method_2_code
def yX3_write : MethodName := ⟨RX3, "write", "(IIII)V"⟩
abbrev cX3_cutTo : ByteArray := prog_5_method_3_code
def yX3_cutTo : MethodName := ⟨RX3, "cutTo", "(I)V"⟩
abbrev cX3_signAt : ByteArray := prog_5_method_4_code
def yX3_signAt : MethodName := ⟨RX3, "signAt", "(I)I"⟩
abbrev cX3_kindOf : ByteArray := prog_5_method_5_code
def yX3_kindOf : MethodName := ⟨RX3, "kindOf", "(I)I"⟩
abbrev cX3_teamOf : ByteArray := prog_5_method_6_code
def yX3_teamOf : MethodName := ⟨RX3, "teamOf", "(I)I"⟩
abbrev cX3_oneOf : ByteArray := prog_5_method_7_code
def yX3_oneOf : MethodName := ⟨RX3, "oneOf", "(I)I"⟩
abbrev cX3_twoOf : ByteArray := prog_5_method_8_code
def yX3_twoOf : MethodName := ⟨RX3, "twoOf", "(I)I"⟩
def RX4 : String := "Rotationary$Side"
def TX4 : u_T := fun k => match k with
  | 0 => ("Rotationary$Side", "shirts", "[I", true)
  | 1 => ("Rotationary$Side", "pairs", "[I", true)
  | 2 => ("Rotationary$Side", "libero", "I", false)
  | 3 => ("Rotationary$Side", "goneForLibero", "I", false)
  | 4 => ("Rotationary$Side", "points", "I", false)
  | 5 => ("Rotationary$Side", "sets", "I", false)
  | 6 => ("Rotationary$Side", "rotations", "I", false)
  | 7 => ("Rotationary$Side", "substitutions", "I", false)
  | 8 => ("Rotationary$Side", "challenges", "I", false)
  | _ => ("Rotationary$Side", "hasExchanged", "Z", false)
def tyX4 : Nat → FieldType := fun k => match k with
  | 0 => .array .int
  | 1 => .array .int
  | 2 => .int
  | 3 => .int
  | 4 => .int
  | 5 => .int
  | 6 => .int
  | 7 => .int
  | 8 => .int
  | _ => .boolean
theorem nmX4 : ∀ a, a < 10 → ∀ b, b < 10 → a ≠ b → (TX4 a).2.1 ≠ (TX4 b).2.1 := by decide +kernel
theorem tyX4_ok : ∀ k, k < 10 → parseFieldDescriptor (TX4 k).2.2.1 = some (tyX4 k) := by decide +kernel
abbrev cX4_init : ByteArray := prog_6_method_1_code
def yX4_init : MethodName := ⟨RX4, "<init>", "()V"⟩
abbrev cX4_shirtIn : ByteArray := prog_6_method_2_code
def yX4_shirtIn : MethodName := ⟨RX4, "shirtIn", "(I)I"⟩
abbrev cX4_put : ByteArray := prog_6_method_3_code
def yX4_put : MethodName := ⟨RX4, "put", "(II)V"⟩
abbrev cX4_placeOf : ByteArray := prog_6_method_4_code
def yX4_placeOf : MethodName := ⟨RX4, "placeOf", "(I)I"⟩
abbrev cX4_isBehind : ByteArray := prog_6_method_5_code
def yX4_isBehind : MethodName := ⟨RX4, "isBehind", "(I)Z"⟩
abbrev cX4_isLiberoIn : ByteArray := prog_6_method_6_code
def yX4_isLiberoIn : MethodName := ⟨RX4, "isLiberoIn", "()Z"⟩
abbrev cX4_isReady : ByteArray := prog_6_method_7_code
def yX4_isReady : MethodName := ⟨RX4, "isReady", "()Z"⟩
abbrev cX4_startSet : ByteArray := prog_6_method_8_code
def yX4_startSet : MethodName := ⟨RX4, "startSet", "()V"⟩
abbrev cX4_clearOrder : ByteArray := prog_6_method_9_code
def yX4_clearOrder : MethodName := ⟨RX4, "clearOrder", "()V"⟩
abbrev cX4_rotate : ByteArray := prog_6_method_10_code
def yX4_rotate : MethodName := ⟨RX4, "rotate", "()V"⟩
abbrev cX4_faultOf : ByteArray := prog_6_method_11_code
def yX4_faultOf : MethodName := ⟨RX4, "faultOf", "(IIZ)I"⟩
abbrev cX4_canExchange : ByteArray := prog_6_method_12_code
def yX4_canExchange : MethodName := ⟨RX4, "canExchange", "(I)Z"⟩
abbrev cX4_swapLibero : ByteArray := prog_6_method_13_code
def yX4_swapLibero : MethodName := ⟨RX4, "swapLibero", "(I)V"⟩
abbrev cX4_canSubstitute : ByteArray := prog_6_method_14_code
def yX4_canSubstitute : MethodName := ⟨RX4, "canSubstitute", "(II)Z"⟩
abbrev cX4_swapByPair : ByteArray := prog_6_method_15_code
def yX4_swapByPair : MethodName := ⟨RX4, "swapByPair", "(II)V"⟩
abbrev cX4_copyFrom : ByteArray := prog_6_method_16_code
def yX4_copyFrom : MethodName := ⟨RX4, "copyFrom", "(LRotationary$Side;)V"⟩
def RX5 : String := "Rotationary"
def TX5 : u_T := fun k => match k with
  | 0 => ("Rotationary", "court", "LRotationary$Court;", true)
  | 1 => ("Rotationary", "courtAheadOfEnd", "LRotationary$Court;", true)
  | 2 => ("Rotationary", "rally", "LRotationary$Rally;", true)
  | 3 => ("Rotationary", "sheet", "LRotationary$Sheet;", true)
  | 4 => ("Rotationary", "reader", "LRotationary$Reader;", true)
  | 5 => ("Rotationary", "signsAheadOfEnd", "I", false)
  | 6 => ("Rotationary", "loser", "I", false)
  | _ => ("Rotationary", "lastEnd", "I", false)
def tyX5 : Nat → FieldType := fun k => match k with
  | 0 => .object "Rotationary$Court"
  | 1 => .object "Rotationary$Court"
  | 2 => .object "Rotationary$Rally"
  | 3 => .object "Rotationary$Sheet"
  | 4 => .object "Rotationary$Reader"
  | 5 => .int
  | 6 => .int
  | _ => .int
theorem nmX5 : ∀ a, a < 8 → ∀ b, b < 8 → a ≠ b → (TX5 a).2.1 ≠ (TX5 b).2.1 := by decide +kernel
theorem tyX5_ok : ∀ k, k < 8 → parseFieldDescriptor (TX5 k).2.2.1 = some (tyX5 k) := by decide +kernel
abbrev cX5_init : ByteArray := prog_1_method_1_code
def yX5_init : MethodName := ⟨RX5, "<init>", "()V"⟩
abbrev cX5_line : ByteArray := prog_1_method_2_code
def yX5_line : MethodName := ⟨RX5, "line", "(III)I"⟩
abbrev cX5_libero : ByteArray := prog_1_method_3_code
def yX5_libero : MethodName := ⟨RX5, "libero", "(II)I"⟩
abbrev cX5_begin : ByteArray := prog_1_method_4_code
def yX5_begin : MethodName := ⟨RX5, "begin", "(I)I"⟩
abbrev cX5_serve : ByteArray := prog_1_method_5_code
def yX5_serve : MethodName := ⟨RX5, "serve", "(I)Z"⟩
abbrev cX5_touch : ByteArray := prog_1_method_6_code
def yX5_touch : MethodName := ⟨RX5, "touch", "(IIIZ)I"⟩
abbrev cX5_fall : ByteArray := prog_1_method_7_code
def yX5_fall : MethodName := ⟨RX5, "fall", "(I)I"⟩
abbrev cX5_net : ByteArray := prog_1_method_8_code
def yX5_net : MethodName := ⟨RX5, "net", "(IZ)Z"⟩
abbrev cX5_find : ByteArray := prog_1_method_9_code
def yX5_find : MethodName := ⟨RX5, "find", "()I"⟩
abbrev cX5_exchange : ByteArray := prog_1_method_10_code
def yX5_exchange : MethodName := ⟨RX5, "exchange", "(II)Z"⟩
abbrev cX5_substitute : ByteArray := prog_1_method_11_code
def yX5_substitute : MethodName := ⟨RX5, "substitute", "(III)I"⟩
abbrev cX5_challenge : ByteArray := prog_1_method_12_code
def yX5_challenge : MethodName := ⟨RX5, "challenge", "(I)Z"⟩
abbrev cX5_points : ByteArray := prog_1_method_13_code
def yX5_points : MethodName := ⟨RX5, "points", "(I)I"⟩
abbrev cX5_pointsAnew : ByteArray := prog_1_method_14_code
def yX5_pointsAnew : MethodName := ⟨RX5, "pointsAnew", "(I)I"⟩
abbrev cX5_sets : ByteArray := prog_1_method_15_code
def yX5_sets : MethodName := ⟨RX5, "sets", "(I)I"⟩
abbrev cX5_at : ByteArray := prog_1_method_16_code
def yX5_at : MethodName := ⟨RX5, "at", "(II)I"⟩
abbrev cX5_atAnew : ByteArray := prog_1_method_17_code
def yX5_atAnew : MethodName := ⟨RX5, "atAnew", "(II)I"⟩
abbrev cX5_about : ByteArray := prog_1_method_18_code
def yX5_about : MethodName := ⟨RX5, "about", "(I)I"⟩
abbrev cX5_of : ByteArray := prog_1_method_19_code
def yX5_of : MethodName := ⟨RX5, "of", "(II)I"⟩
abbrev cX5_lost : ByteArray := prog_1_method_20_code
def yX5_lost : MethodName := ⟨RX5, "lost", "(II)I"⟩
abbrev cX5_checkTeam : ByteArray := prog_1_method_21_code
def yX5_checkTeam : MethodName := ⟨RX5, "checkTeam", "(I)V"⟩
abbrev cX5_checkPlace : ByteArray := prog_1_method_22_code
def yX5_checkPlace : MethodName := ⟨RX5, "checkPlace", "(I)V"⟩
abbrev cX5_checkShirt : ByteArray := prog_1_method_23_code
def yX5_checkShirt : MethodName := ⟨RX5, "checkShirt", "(I)V"⟩
abbrev cX5_checkAheadOfSet : ByteArray := prog_1_method_24_code
def yX5_checkAheadOfSet : MethodName := ⟨RX5, "checkAheadOfSet", "()V"⟩
abbrev cX5_checkBetweenRallies : ByteArray := prog_1_method_25_code
def yX5_checkBetweenRallies : MethodName := ⟨RX5, "checkBetweenRallies", "()V"⟩
abbrev cX5_checkRally : ByteArray := prog_1_method_26_code
def yX5_checkRally : MethodName := ⟨RX5, "checkRally", "()V"⟩
abbrev cX5_writeOrder : ByteArray := prog_1_method_27_code
def yX5_writeOrder : MethodName := ⟨RX5, "writeOrder", "(I)V"⟩
abbrev cX5_endRally : ByteArray := prog_1_method_28_code
def yX5_endRally : MethodName := ⟨RX5, "endRally", "(II)V"⟩
abbrev cX5_endSetIfWonBy : ByteArray := prog_1_method_29_code
def yX5_endSetIfWonBy : MethodName := ⟨RX5, "endSetIfWonBy", "(I)V"⟩
abbrev cX5_valueIn : ByteArray := prog_1_method_30_code
def yX5_valueIn : MethodName := ⟨RX5, "valueIn", "([II)I"⟩
abbrev cX5_putIn : ByteArray := prog_1_method_31_code
def yX5_putIn : MethodName := ⟨RX5, "putIn", "([III)V"⟩
def RX6 : String := "RotationaryModel"
def TX6 : u_T := fun k => match k with
  | 0 => ("RotationaryModel", "z", "[I", true)
  | 1 => ("RotationaryModel", "ahead", "[I", true)
  | _ => ("RotationaryModel", "thrown", "I", false)
def tyX6 : Nat → FieldType := fun k => match k with
  | 0 => .array .int
  | 1 => .array .int
  | _ => .int
theorem nmX6 : ∀ a, a < 3 → ∀ b, b < 3 → a ≠ b → (TX6 a).2.1 ≠ (TX6 b).2.1 := by decide +kernel
theorem tyX6_ok : ∀ k, k < 3 → parseFieldDescriptor (TX6 k).2.2.1 = some (tyX6 k) := by decide +kernel
abbrev cX6_init : ByteArray := prog_8_method_1_code
def yX6_init : MethodName := ⟨RX6, "<init>", "()V"⟩
abbrev cX6_thrown : ByteArray := prog_8_method_2_code
def yX6_thrown : MethodName := ⟨RX6, "thrown", "()I"⟩
abbrev cX6_goes : ByteArray := prog_8_method_3_code
def yX6_goes : MethodName := ⟨RX6, "goes", "(I)Z"⟩
abbrev cX6_isIn : ByteArray := prog_8_method_4_code
def yX6_isIn : MethodName := ⟨RX6, "isIn", "(III)Z"⟩
abbrev cX6_isTeam : ByteArray := prog_8_method_5_code
def yX6_isTeam : MethodName := ⟨RX6, "isTeam", "(I)Z"⟩
abbrev cX6_isShirt : ByteArray := prog_8_method_6_code
def yX6_isShirt : MethodName := ⟨RX6, "isShirt", "(I)Z"⟩
abbrev cX6_isOver : ByteArray := prog_8_method_7_code
def yX6_isOver : MethodName := ⟨RX6, "isOver", "()Z"⟩
abbrev cX6_slot : ByteArray := prog_8_method_8_code
def yX6_slot : MethodName := ⟨RX6, "slot", "(II)I"⟩
abbrev cX6_place : ByteArray := prog_8_method_9_code
def yX6_place : MethodName := ⟨RX6, "place", "(II)I"⟩
abbrev cX6_isBehind : ByteArray := prog_8_method_10_code
def yX6_isBehind : MethodName := ⟨RX6, "isBehind", "(I)Z"⟩
abbrev cX6_line : ByteArray := prog_8_method_11_code
def yX6_line : MethodName := ⟨RX6, "line", "(III)I"⟩
abbrev cX6_libero : ByteArray := prog_8_method_12_code
def yX6_libero : MethodName := ⟨RX6, "libero", "(II)I"⟩
abbrev cX6_isLinedUp : ByteArray := prog_8_method_13_code
def yX6_isLinedUp : MethodName := ⟨RX6, "isLinedUp", "(I)Z"⟩
abbrev cX6_begin : ByteArray := prog_8_method_14_code
def yX6_begin : MethodName := ⟨RX6, "begin", "(I)I"⟩
abbrev cX6_rotates : ByteArray := prog_8_method_15_code
def yX6_rotates : MethodName := ⟨RX6, "rotates", "(I)V"⟩
abbrev cX6_scores : ByteArray := prog_8_method_16_code
def yX6_scores : MethodName := ⟨RX6, "scores", "(I)V"⟩
abbrev cX6_wins : ByteArray := prog_8_method_17_code
def yX6_wins : MethodName := ⟨RX6, "wins", "(II)V"⟩
abbrev cX6_ends : ByteArray := prog_8_method_18_code
def yX6_ends : MethodName := ⟨RX6, "ends", "(II)V"⟩
abbrev cX6_serve : ByteArray := prog_8_method_19_code
def yX6_serve : MethodName := ⟨RX6, "serve", "(I)Z"⟩
abbrev cX6_fault : ByteArray := prog_8_method_20_code
def yX6_fault : MethodName := ⟨RX6, "fault", "(IIIZ)I"⟩
abbrev cX6_touch : ByteArray := prog_8_method_21_code
def yX6_touch : MethodName := ⟨RX6, "touch", "(IIIZ)I"⟩
abbrev cX6_fall : ByteArray := prog_8_method_22_code
def yX6_fall : MethodName := ⟨RX6, "fall", "(I)I"⟩
abbrev cX6_net : ByteArray := prog_8_method_23_code
def yX6_net : MethodName := ⟨RX6, "net", "(IZ)Z"⟩
abbrev cX6_find : ByteArray := prog_8_method_24_code
def yX6_find : MethodName := ⟨RX6, "find", "()I"⟩
abbrev cX6_exchange : ByteArray := prog_8_method_25_code
def yX6_exchange : MethodName := ⟨RX6, "exchange", "(II)Z"⟩
abbrev cX6_pair : ByteArray := prog_8_method_26_code
def yX6_pair : MethodName := ⟨RX6, "pair", "(II)I"⟩
abbrev cX6_substitute : ByteArray := prog_8_method_27_code
def yX6_substitute : MethodName := ⟨RX6, "substitute", "(III)I"⟩
abbrev cX6_challenge : ByteArray := prog_8_method_28_code
def yX6_challenge : MethodName := ⟨RX6, "challenge", "(I)Z"⟩
abbrev cX6_points : ByteArray := prog_8_method_29_code
def yX6_points : MethodName := ⟨RX6, "points", "(I)I"⟩
abbrev cX6_pointsAnew : ByteArray := prog_8_method_30_code
def yX6_pointsAnew : MethodName := ⟨RX6, "pointsAnew", "(I)I"⟩
abbrev cX6_sets : ByteArray := prog_8_method_31_code
def yX6_sets : MethodName := ⟨RX6, "sets", "(I)I"⟩
abbrev cX6_isPlace : ByteArray := prog_8_method_32_code
def yX6_isPlace : MethodName := ⟨RX6, "isPlace", "(II)Z"⟩
abbrev cX6_at : ByteArray := prog_8_method_33_code
def yX6_at : MethodName := ⟨RX6, "at", "(II)I"⟩
abbrev cX6_atAnew : ByteArray := prog_8_method_34_code
def yX6_atAnew : MethodName := ⟨RX6, "atAnew", "(II)I"⟩
abbrev cX6_about : ByteArray := prog_8_method_35_code
def yX6_about : MethodName := ⟨RX6, "about", "(I)I"⟩
abbrev cX6_of : ByteArray := prog_8_method_36_code
def yX6_of : MethodName := ⟨RX6, "of", "(II)I"⟩
abbrev cX6_lost : ByteArray := prog_8_method_37_code
def yX6_lost : MethodName := ⟨RX6, "lost", "(II)I"⟩
def RJ0 : String := "java/lang/String"
def TJ0 : u_T := fun k => match k with
  | _ => ("", "", "", false)
def tyJ0 : Nat → FieldType := fun k => match k with
  | _ => .int
theorem nmJ0 : ∀ a, a < 0 → ∀ b, b < 0 → a ≠ b → (TJ0 a).2.1 ≠ (TJ0 b).2.1 := by decide +kernel
theorem tyJ0_ok : ∀ k, k < 0 → parseFieldDescriptor (TJ0 k).2.2.1 = some (tyJ0 k) := by decide +kernel
def RL : String := "RotationaryLaw"
abbrev cL_line : ByteArray := method_3_code
def yL_line : MethodName := ⟨RL, "line", "(LRotationary;III[J)I"⟩
abbrev cL_libero : ByteArray := method_4_code
def yL_libero : MethodName := ⟨RL, "libero", "(LRotationary;II[J)I"⟩
abbrev cL_begin : ByteArray := method_5_code
def yL_begin : MethodName := ⟨RL, "begin", "(LRotationary;I[J)I"⟩
abbrev cL_serve : ByteArray := method_6_code
def yL_serve : MethodName := ⟨RL, "serve", "(LRotationary;I[J)I"⟩
abbrev cL_touch : ByteArray := method_7_code
def yL_touch : MethodName := ⟨RL, "touch", "(LRotationary;IIIZ[J)I"⟩
abbrev cL_fall : ByteArray := method_8_code
def yL_fall : MethodName := ⟨RL, "fall", "(LRotationary;I[J)I"⟩
abbrev cL_net : ByteArray := method_9_code
def yL_net : MethodName := ⟨RL, "net", "(LRotationary;IZ[J)I"⟩
abbrev cL_find : ByteArray := method_10_code
def yL_find : MethodName := ⟨RL, "find", "(LRotationary;[J)I"⟩
abbrev cL_exchange : ByteArray := method_11_code
def yL_exchange : MethodName := ⟨RL, "exchange", "(LRotationary;II[J)I"⟩
abbrev cL_substitute : ByteArray := method_12_code
def yL_substitute : MethodName := ⟨RL, "substitute", "(LRotationary;III[J)I"⟩
abbrev cL_challenge : ByteArray := method_13_code
def yL_challenge : MethodName := ⟨RL, "challenge", "(LRotationary;I[J)I"⟩
abbrev cL_points : ByteArray := method_14_code
def yL_points : MethodName := ⟨RL, "points", "(LRotationary;I[J)I"⟩
abbrev cL_pointsAnew : ByteArray := method_15_code
def yL_pointsAnew : MethodName := ⟨RL, "pointsAnew", "(LRotationary;I[J)I"⟩
abbrev cL_sets : ByteArray := method_16_code
def yL_sets : MethodName := ⟨RL, "sets", "(LRotationary;I[J)I"⟩
abbrev cL_at : ByteArray := method_17_code
def yL_at : MethodName := ⟨RL, "at", "(LRotationary;II[J)I"⟩
abbrev cL_atAnew : ByteArray := method_18_code
def yL_atAnew : MethodName := ⟨RL, "atAnew", "(LRotationary;II[J)I"⟩
abbrev cL_about : ByteArray := method_19_code
def yL_about : MethodName := ⟨RL, "about", "(LRotationary;I[J)I"⟩
abbrev cL_of : ByteArray := method_20_code
def yL_of : MethodName := ⟨RL, "of", "(LRotationary;II[J)I"⟩
abbrev cL_lost : ByteArray := method_21_code
def yL_lost : MethodName := ⟨RL, "lost", "(LRotationary;II[J)I"⟩
abbrev cL_law : ByteArray := code
def yL_law : MethodName := ⟨RL, "law", "([I)Z"⟩
abbrev vwCl : List vw_C := [(RX0, TX0, 4), (RX1, TX1, 7), (RX2, TX2, 3), (RX3, TX3, 2), (RX4, TX4, 10), (RX5, TX5, 8), (RX6, TX6, 3)]
end
section
/-! THE WORLD: 32 cells by number (0 the game, 1..7 its court, 8..14 the kept court, 15 rally, 16 17 sheet, 18 reader, 19..25 its court, 26 27 its rows, 28 29 30 the model, 31 the law's own row); what they hold is a function of two numbers -/
abbrev gSt : Type := Nat → Nat → Int32
def gup (σ : gSt) (k j : Nat) (v : Int32) : gSt := fun k' j' => if k' = k ∧ j' = j then v else σ k' j'
theorem gup_s {σ : gSt} {k j : Nat} {v : Int32} : gup σ k j v k j = v := if_pos ⟨rfl, rfl⟩
theorem gup_n {σ : gSt} {k j k' j' : Nat} {v : Int32} (h : ¬ (k' = k ∧ j' = j)) : gup σ k j v k' j' = σ k' j' := if_neg h
theorem gup_k {σ : gSt} {k j k' j' : Nat} {v : Int32} (h : k' ≠ k) : gup σ k j v k' j' = σ k' j' := if_neg (fun q => h q.1)
theorem gup_row {σ : gSt} {k j : Nat} {v : Int32} : gup σ k j v k = upd (σ k) j v := by
  funext j'
  unfold gup upd
  by_cases h : j' = j
  · rw [if_pos h, if_pos ⟨rfl, h⟩]
  · rw [if_neg h, if_neg (fun q => h q.2)]
theorem gup_oth {σ : gSt} {k j k' : Nat} {v : Int32} (h : k' ≠ k) : gup σ k j v k' = σ k' := by
  funext j'
  exact gup_k h
def gKs : List Nat := [5, 0, 4, 7, 7, 4, 7, 7, 0, 4, 7, 7, 4, 7, 7, 1, 3, 7, 2, 0, 4, 7, 7, 4, 7, 7, 7, 7, 6, 7, 7, 8]
def gKd (k : Nat) : Nat := gKs.getD k 9
def gRs : List (List (Option Nat)) := [[some 1, some 8, some 15, some 16, some 18], [some 2, some 5], [some 3, some 4], [], [], [some 6, some 7], [], [],
  [some 9, some 12], [some 10, some 11], [], [], [some 13, some 14], [], [], [], [some 17], [], [some 19, some 26, some 27],
  [some 20, some 23], [some 21, some 22], [], [], [some 24, some 25], [], [], [], [], [some 29, some 30], [], [], []]
def gRf (k j : Nat) : Option Nat := (gRs.getD k []).getD j none
def gLs : List Nat := [0, 0, 0, 7, 21, 0, 7, 21, 0, 0, 7, 21, 0, 7, 21, 0, 0, 640, 0, 0, 0, 7, 21, 0, 7, 21, 6, 6, 0, 92, 92, 1]
def gLn (k : Nat) : Nat := gLs.getD k 0
def gNf (c : Nat) : Nat := [4, 7, 3, 2, 10, 8, 3].getD c 0
def gfv (ad : Nat → Nat) (σ : gSt) (k j : Nat) : Value := match gRf k j with
  | some k' => .ref (ad k')
  | none => .int (σ k j)
def gcell (cI cJ : ClassId) (ad : Nat → Nat) (σ : gSt) (k : Nat) : va_E := if gKd k = 7 then .inl (cI, gLn k, .inl (σ k)) else if gKd k = 8 then .inl (cJ, gLn k, .inr (.inl (fun j => (σ k j).toInt64))) else .inr (gKd k, (List.range (gNf (gKd k))).map (gfv ad σ k))
def gw (cI cJ : ClassId) (ad : Nat → Nat) (σ : gSt) : va_W := (List.range 32).map (fun k => (ad k, gcell cI cJ ad σ k))
theorem gw_get {cI cJ : ClassId} {ad : Nat → Nat} {σ : gSt} {k : Nat} (h : k < 32) : (gw cI cJ ad σ)[k]? = some (ad k, gcell cI cJ ad σ k) := by
  unfold gw
  rw [List.getElem?_map, List.getElem?_range h]
  rfl
theorem gw_no {cI cJ : ClassId} {ad : Nat → Nat} {σ : gSt} {k : Nat} {q : Nat × va_E} (h : (gw cI cJ ad σ)[k]? = some q) : k < 32 ∧ q = (ad k, gcell cI cJ ad σ k) := by
  have hk : k < 32 := by
    have h1 := (List.getElem?_eq_some_iff.mp h).1
    simpa [gw] using h1
  refine ⟨hk, ?_⟩
  rw [gw_get hk] at h
  exact (Option.some.inj h).symm
theorem gcell_o {cI cJ : ClassId} {ad : Nat → Nat} {σ : gSt} {k c : Nat} (h : gKd k = c) (hc : c < 7) : gcell cI cJ ad σ k = .inr (c, (List.range (gNf c)).map (gfv ad σ k)) := by
  unfold gcell
  rw [if_neg (by omega), if_neg (by omega), h]
theorem gcell_i {cI cJ : ClassId} {ad : Nat → Nat} {σ : gSt} {k : Nat} (h : gKd k = 7) : gcell cI cJ ad σ k = .inl (cI, gLn k, .inl (σ k)) := by
  unfold gcell
  rw [if_pos h]
theorem gcell_j {cI cJ : ClassId} {ad : Nat → Nat} {σ : gSt} {k : Nat} (h : gKd k = 8) : gcell cI cJ ad σ k = .inl (cJ, gLn k, .inr (.inl (fun j => (σ k j).toInt64))) := by
  unfold gcell
  rw [if_neg (by omega), if_pos h]
theorem gKd_lt {k c : Nat} (h : gKd k = c) (hc : c < 9) : k < 32 := by
  rcases Nat.lt_or_ge k 32 with q | q
  · exact q
  · have : gKd k = 9 := by
      unfold gKd
      rw [List.getD_eq_getElem?_getD, List.getElem?_eq_none (by simpa [gKs] using q)]
      rfl
    omega
theorem gfl_get {ad : Nat → Nat} {σ : gSt} {k n j : Nat} (h : j < n) : ((List.range n).map (gfv ad σ k))[j]? = some (gfv ad σ k j) := by
  rw [List.getElem?_map, List.getElem?_range h]
  rfl
theorem gfv_i {ad : Nat → Nat} {σ : gSt} {k j : Nat} (h : gRf k j = none) : gfv ad σ k j = .int (σ k j) := by
  unfold gfv
  rw [h]
theorem gfv_r {ad : Nat → Nat} {σ : gSt} {k j k' : Nat} (h : gRf k j = some k') : gfv ad σ k j = .ref (ad k') := by
  unfold gfv
  rw [h]
theorem gcell_n {cI cJ : ClassId} {ad : Nat → Nat} {σ σ' : gSt} {k : Nat} (h : σ' k = σ k) : gcell cI cJ ad σ' k = gcell cI cJ ad σ k := by
  have h2 : gfv ad σ' k = gfv ad σ k := by
    funext j
    unfold gfv
    rw [h]
  unfold gcell
  rw [h, h2]
theorem gw_set {cI cJ : ClassId} {ad : Nat → Nat} {σ σ' : gSt} {k : Nat} (hk : k < 32) {e : va_E} (he : gcell cI cJ ad σ' k = e) (ho : ∀ k', k' ≠ k → σ' k' = σ k') : (gw cI cJ ad σ).set k (ad k, e) = gw cI cJ ad σ' := by
  apply List.ext_getElem?
  intro i
  rw [List.getElem?_set]
  by_cases h : k = i
  · subst h
    rw [if_pos rfl, if_pos (by simpa [gw] using hk), gw_get hk, he]
  · rw [if_neg h]
    rcases Nat.lt_or_ge i 32 with q | q
    · rw [gw_get q, gw_get q, gcell_n (ho i (Ne.symm h))]
    · rw [List.getElem?_eq_none (by simpa [gw] using q), List.getElem?_eq_none (by simpa [gw] using q)]
theorem gw_putf {cI cJ : ClassId} {ad : Nat → Nat} {σ : gSt} {k c j : Nat} {v : Int32} (h : gKd k = c) (hc : c < 7) (hr : gRf k j = none) : (gw cI cJ ad σ).set k (ad k, .inr (c, ((List.range (gNf c)).map (gfv ad σ k)).set j (.int v))) = gw cI cJ ad (gup σ k j v) := by
  refine gw_set (gKd_lt h (by omega)) ?_ (fun k' hk => gup_oth hk)
  rw [gcell_o h hc]
  congr 2
  apply List.ext_getElem?
  intro i
  rw [List.getElem?_set]
  by_cases hi : j = i
  · subst hi
    rw [if_pos rfl]
    rcases Nat.lt_or_ge j (gNf c) with q | q
    · rw [if_pos (by simpa using q), gfl_get q, gfv_i hr, gup_s]
    · rw [if_neg (by simpa using q), List.getElem?_eq_none (by simpa using q)]
  · rw [if_neg hi]
    rcases Nat.lt_or_ge i (gNf c) with q | q
    · rw [gfl_get q, gfl_get q]
      unfold gfv
      rw [gup_n (fun z => hi z.2.symm)]
    · rw [List.getElem?_eq_none (by simpa using q), List.getElem?_eq_none (by simpa using q)]
theorem gw_puti {cI cJ : ClassId} {ad : Nat → Nat} {σ : gSt} {k j : Nat} {v : Int32} (h : gKd k = 7) : (gw cI cJ ad σ).set k (ad k, .inl (cI, gLn k, .inl (upd (σ k) j v))) = gw cI cJ ad (gup σ k j v) := by
  refine gw_set (gKd_lt h (by omega)) ?_ (fun k' hk => gup_oth hk)
  rw [gcell_i h, gup_row]
theorem gw_putj {cI cJ : ClassId} {ad : Nat → Nat} {σ : gSt} {k j : Nat} {v : Int32} (h : gKd k = 8) : (gw cI cJ ad σ).set k (ad k, .inl (cJ, gLn k, .inr (.inl (vp_updL (fun j => (σ k j).toInt64) j v.toInt64)))) = gw cI cJ ad (gup σ k j v) := by
  refine gw_set (gKd_lt h (by omega)) ?_ (fun k' hk => gup_oth hk)
  rw [gcell_j h]
  congr 5
  funext j'
  rw [gup_row]
  unfold upd vp_updL
  by_cases hj : j' = j
  · rw [if_pos hj, if_pos hj]
  · rw [if_neg hj, if_neg hj]
/-- the addresses are unlike -/
def gInj (ad : Nat → Nat) : Prop := ∀ i j : Nat, i < 32 → j < 32 → ad i = ad j → i = j
theorem gw_D {cI cJ : ClassId} {ad : Nat → Nat} {σ : gSt} {A : Nat → Prop} (hi : gInj ad) (hA : ∀ k, k < 32 → A (ad k)) : va_D A (gw cI cJ ad σ) := by
  refine ⟨fun i j p q hp hq h => ?_, fun k q hq => ?_⟩
  · obtain ⟨h1, rfl⟩ := gw_no hp
    obtain ⟨h2, rfl⟩ := gw_no hq
    exact hi i j h1 h2 h
  · obtain ⟨h1, rfl⟩ := gw_no hq
    exact hA k h1
/-- what a method may write: the world's cells, and new ones -/
def gA (ad : Nat → Nat) (sz : Nat) : Nat → Prop := fun q => (∃ k, k < 32 ∧ q = ad k) ∨ sz ≤ q
/-- the words that all methods share -/
def gT : List Cond := lw_tbl.filter goodWord
theorem gT_in {w : Cond} (h : w ∈ lw_tbl) (hg : goodWord w = true) : w ∈ gT := List.mem_filter.mpr ⟨h, hg⟩
theorem gT_good {w : Cond} (h : w ∈ gT) : goodWord w = true := (List.mem_filter.mp h).2
theorem gT_lw {w : Cond} (h : w ∈ gT) : w ∈ lw_tbl := (List.mem_filter.mp h).1
/-- the answer of a method's picture, and that a goal is wanted only where there is one -/
def gX {ρ : Type} (X : Option ρ) (res : ρ) (G : Prop) : Prop := X = some res → G
def gl {α β : Type} (v : α) (K : α → β) : β := K v
theorem gX_none {ρ : Type} {res : ρ} {G : Prop} : gX none res G := fun h => nomatch h
theorem gX_if {ρ : Type} {res : ρ} {G : Prop} {c : Prop} [Decidable c] {X1 X2 : Option ρ} (a : c → gX X1 res G) (b : ¬ c → gX X2 res G) : gX (if c then X1 else X2) res G := by
  by_cases h : c
  · rw [if_pos h]; exact a h
  · rw [if_neg h]; exact b h
def gNestF : List (String × Nat × String × String × String × String) := [("Rotationary", 71, "Rotationary$Side", "libero", "I", "Rotationary"), ("Rotationary$Reader", 86, "Rotationary$Side", "libero", "I", "Rotationary"), ("Rotationary$Court", 42, "Rotationary$Side", "points", "I", "Rotationary"), ("Rotationary", 211, "Rotationary$Side", "points", "I", "Rotationary"), ("Rotationary$Court", 28, "Rotationary$Side", "sets", "I", "Rotationary"), ("Rotationary", 219, "Rotationary$Side", "sets", "I", "Rotationary"), ("Rotationary$Reader", 113, "Rotationary$Side", "rotations", "I", "Rotationary"), ("Rotationary", 193, "Rotationary$Side", "substitutions", "I", "Rotationary"), ("Rotationary", 196, "Rotationary$Side", "challenges", "I", "Rotationary"), ("Rotationary$Court", 45, "Rotationary$Side", "hasExchanged", "Z", "Rotationary"), ("Rotationary", 74, "Rotationary$Court", "first", "LRotationary$Side;", "Rotationary"), ("Rotationary$Reader", 62, "Rotationary$Court", "first", "LRotationary$Side;", "Rotationary"), ("Rotationary", 82, "Rotationary$Court", "second", "LRotationary$Side;", "Rotationary"), ("Rotationary$Reader", 71, "Rotationary$Court", "second", "LRotationary$Side;", "Rotationary"), ("Rotationary", 115, "Rotationary$Court", "server", "I", "Rotationary"), ("Rotationary", 162, "Rotationary$Court", "pointsAheadOfWrong", "I", "Rotationary"), ("Rotationary", 158, "Rotationary$Rally", "isOn", "Z", "Rotationary"), ("Rotationary", 152, "Rotationary$Rally", "team", "I", "Rotationary"), ("Rotationary", 225, "Rotationary$Rally", "shirt", "I", "Rotationary"), ("Rotationary$Reader", 28, "Rotationary$Sheet", "length", "I", "Rotationary"), ("Rotationary", 256, "Rotationary$Sheet", "length", "I", "Rotationary"), ("Rotationary", 218, "Rotationary$Reader", "court", "LRotationary$Court;", "Rotationary")]
def gNestM : List (String × Nat × MethodName × String) := [("Rotationary", 9, ⟨"Rotationary$Court", "<init>", "()V"⟩, "Rotationary"), ("Rotationary$Side", 28, ⟨"Rotationary", "putIn", "([III)V"⟩, "Rotationary"), ("Rotationary", 21, ⟨"Rotationary$Rally", "<init>", "()V"⟩, "Rotationary"), ("Rotationary", 28, ⟨"Rotationary$Sheet", "<init>", "()V"⟩, "Rotationary"), ("Rotationary", 35, ⟨"Rotationary$Reader", "<init>", "()V"⟩, "Rotationary"), ("Rotationary$Reader", 11, ⟨"Rotationary$Court", "<init>", "()V"⟩, "Rotationary"), ("Rotationary$Side", 32, ⟨"Rotationary", "valueIn", "([II)I"⟩, "Rotationary"), ("Rotationary$Sheet", 17, ⟨"Rotationary", "putIn", "([III)V"⟩, "Rotationary"), ("Rotationary$Reader", 74, ⟨"Rotationary", "putIn", "([III)V"⟩, "Rotationary"), ("Rotationary$Sheet", 23, ⟨"Rotationary", "valueIn", "([II)I"⟩, "Rotationary"), ("Rotationary$Reader", 58, ⟨"Rotationary", "valueIn", "([II)I"⟩, "Rotationary")]
def gNestD : List MethodName := [⟨"java/lang/RuntimeException", "<init>", "(Ljava/lang/String;)V"⟩, ⟨"java/lang/Exception", "<init>", "(Ljava/lang/String;)V"⟩, ⟨"java/lang/Throwable", "<init>", "(Ljava/lang/String;)V"⟩]
def gNestC : List (String × String) := [("java/lang/IndexOutOfBoundsException", "java/lang/IndexOutOfBoundsException"), ("java/lang/IllegalArgumentException", "java/lang/IllegalArgumentException"), ("java/lang/IllegalStateException", "java/lang/IllegalStateException")]
def gNcs : List (String × String) := [("java/lang/IndexOutOfBoundsException", "java/lang/IllegalArgumentException"), ("java/lang/IndexOutOfBoundsException", "java/lang/IllegalStateException"), ("java/lang/IllegalArgumentException", "java/lang/IndexOutOfBoundsException"), ("java/lang/IllegalArgumentException", "java/lang/IllegalStateException"), ("java/lang/IllegalStateException", "java/lang/IndexOutOfBoundsException"), ("java/lang/IllegalStateException", "java/lang/IllegalArgumentException")]
def gStr : List (String × Nat × String) := [("Rotationary", 240, "no such team"), ("Rotationary", 243, "no such place"), ("Rotationary", 245, "no such shirt"), ("Rotationary", 250, "a set goes on, or the match is over"), ("Rotationary", 87, "the orders are not as told"), ("Rotationary", 252, "no set goes on, or a rally goes on"), ("Rotationary", 121, "the shirt is not on the court"), ("Rotationary", 132, "no such touch"), ("Rotationary", 254, "no rally goes on"), ("Rotationary", 165, "nothing can be found"), ("Rotationary", 176, "it cannot be exchanged"), ("Rotationary", 188, "it cannot be substituted"), ("Rotationary", 199, "the team may not challenge"), ("Rotationary", 228, "nothing is told about this"), ("Rotationary", 230, "nothing is told of this"), ("Rotationary", 232, "no such remainder")]
def gNest : List Cond := gNestF.map (fun q => .fieldLinkNest q.1 q.2.1 q.2.2.1 q.2.2.2.1 q.2.2.2.2.1 q.2.2.2.2.2) ++ (gNestM.map (fun q => .methodLinkNest q.1 q.2.1 q.2.2.1 q.2.2.2) ++ (gNestD.map (fun q => .declares q) ++ gNestC.map (fun q => .castable q.1 q.2)))
theorem gNest_tab : ∀ w ∈ gNest, w.onTables = true := by
  intro w hw
  simp only [gNest, List.mem_append, List.mem_map] at hw
  rcases hw with ⟨q, -, rfl⟩ | ⟨q, -, rfl⟩ | ⟨q, -, rfl⟩ | ⟨q, -, rfl⟩ <;> rfl
theorem gNest_warm {s U : State} (hW : s.WarmedH U.vm) : ∀ w ∈ gNest, va_Nw w s → va_Nw w U := by
  intro w hw h
  simp only [gNest, List.mem_append, List.mem_map] at hw
  rcases hw with ⟨q, -, rfl⟩ | ⟨q, -, rfl⟩ | ⟨q, -, rfl⟩ | ⟨q, -, rfl⟩
  · exact va_Nw.warmF hW h
  · exact va_Nw.warmM hW h
  · exact va_Nw.warmD hW h
  · exact va_Nw.warmC hW h
/-- what the tables say beside the shared words -/
def gB (U : State) : Prop := (∀ w ∈ gNest, va_Nw w U) ∧ (∀ q ∈ gNcs, va_Nc q.1 q.2 U) ∧ ∀ q ∈ gStr, ∃ sa, vk_R q.1 q.2.1 q.2.2 sa U
theorem gB_warm {s U : State} (hW : s.WarmedH U.vm) (h : gB s) : gB U := by
  refine ⟨fun w hw => gNest_warm hW w hw (h.1 w hw), fun q hq => va_Nc.moved hW.alike (h.2.1 q hq), fun q hq => ?_⟩
  obtain ⟨sa, h1⟩ := h.2.2 q hq
  exact ⟨sa, vk_R.warm hW h1⟩
theorem gB_nest {s : State} (h : gB s) {w : Cond} (hw : w ∈ gNest) : va_Nw w s := h.1 w hw
/-- the two statics that a throw reads -/
def gZ (A : Nat → Prop) (U : State) (H : Heap) : Prop := vx_Zq Bundle.tN "UNASSIGNED_STACK" Bundle.steD A U H ∧ vx_Zq Bundle.tN "SUPPRESSED_SENTINEL" Bundle.listD A U H
theorem gZ_moved {A : Nat → Prop} {u U : State} {H : Heap} (hvm : u.vm.Alike U.vm) (h : gZ A u H) : gZ A U H := ⟨vx_Zq.moved hvm h.1, vx_Zq.moved hvm h.2⟩
theorem gZ_kept {A : Nat → Prop} {U : State} {H H1 : Heap} (h : gZ A U H) (hq : ∀ a : Nat, a < H.size → ¬ A a → H1[a]? = H[a]?) : gZ A U H1 := ⟨h.1.kept hq, h.2.kept hq⟩
theorem gZ_narrow {A B : Nat → Prop} {U : State} {H : Heap} (h : gZ A U H) (hAB : ∀ q, B q → A q) : gZ B U H := ⟨h.1.narrow hAB, h.2.narrow hAB⟩
end
section
/-- what a method's body has at hand, beside its world -/
def gC (p : Program) (s : State) (m : MethodId) (args : Array Value) (meth : Method) (c : Code) (D : va_G) (cI cJ : ClassId) (ad : Nat → Nat) (A : Nat → Prop) (cc : ByteArray) (nL : Nat) (own : String) : Prop :=
  p.tables.exec = Jvm.exec ∧ c.code = cc ∧ c.maxLocals = nL ∧ s.vm.findClass own = some m.cls ∧ (∀ w ∈ gT, w.before args s = true) ∧ va_K D vwCl [(cI, .int), (cJ, .long)] s ∧ (∀ q, s.heap.size ≤ q → A q) ∧ (∀ k, k < 32 → A (ad k)) ∧ gInj ad ∧ gB s ∧ gZ A s s.heap ∧ meth.locks = false
def gG (p : Program) (l : Launch) (e : Env) (R : Room) (s : State) (m : MethodId) (args : Array Value) (below : List Frame) (meth : Method) (c : Code) (D : va_G) (cI cJ : ClassId) (ad : Nat → Nat) (A : Nat → Prop) (nL cells slots : Nat) (Q : State → Prop) (σ : gSt) (pc : Nat) (L : List (Nat × Value)) (st : List Value) : Prop :=
  ∀ (H : Heap) (locs : List Loc) (ls : Array Slot), lv_has ls nL L → va_P D vwCl (gw cI cJ ad σ) H → va_S A s.heap H locs → W p l e R s m args below meth c H locs cells slots Q (F0 m pc ls st)
section GR
variable {p : Program} {l : Launch} {e : Env} {R : Room} {s : State} {m : MethodId} {args : Array Value} {below : List Frame} {meth : Method} {c : Code} {D : va_G} {cI cJ : ClassId} {ad : Nat → Nat} {A : Nat → Prop} {cc : ByteArray} {nL : Nat} {own : String} {cells slots : Nat} {Q : State → Prop} {σ : gSt} {pc : Nat} {L L' : List (Nat × Value)} {st : List Value}
variable {ρ : Type} {X X1 X2 : Option ρ} {res : ρ}
theorem g_iconst (C : gC p s m args meth c D cI cJ ad A cc nL own) {n : Int} {v : Int32} (hdg : decode cc pc = .ok (.iconst n, 1)) (hv : Int32.ofInt n = v) (k : gX X res (gG p l e R s m args below meth c D cI cJ ad A nL cells slots Q σ (pc + 1) L (.int v :: st))) : gX X res (gG p l e R s m args below meth c D cI cJ ad A nL cells slots Q σ pc L st) :=
  fun hX H locs ls hl hP hS => lv_iconst C.1 C.2.1 hdg hv (k hX H locs ls hl hP hS)
theorem g_bipush (C : gC p s m args meth c D cI cJ ad A cc nL own) {n : Int} {v : Int32} (hdg : decode cc pc = .ok (.bipush n, 2)) (hv : (Int8.ofInt n).toInt32 = v) (k : gX X res (gG p l e R s m args below meth c D cI cJ ad A nL cells slots Q σ (pc + 2) L (.int v :: st))) : gX X res (gG p l e R s m args below meth c D cI cJ ad A nL cells slots Q σ pc L st) :=
  fun hX H locs ls hl hP hS => lv_bipush C.1 C.2.1 hdg hv (k hX H locs ls hl hP hS)
theorem g_sipush (C : gC p s m args meth c D cI cJ ad A cc nL own) {n : Int} {v : Int32} (hdg : decode cc pc = .ok (.sipush n, 3)) (hv : (Int16.ofInt n).toInt32 = v) (k : gX X res (gG p l e R s m args below meth c D cI cJ ad A nL cells slots Q σ (pc + 3) L (.int v :: st))) : gX X res (gG p l e R s m args below meth c D cI cJ ad A nL cells slots Q σ pc L st) :=
  fun hX H locs ls hl hP hS => lv_sipush C.1 C.2.1 hdg hv (k hX H locs ls hl hP hS)
theorem g_iload_n (C : gC p s m args meth c D cI cJ ad A cc nL own) {q : Fin 4} {i : Nat} {x : Int32} (j : Nat) (hdg : decode cc pc = .ok (.iload_n q, 1)) (hi : (q : Nat) = i) (hj : L[j]? = some (i, .int x)) (k : gX X res (gG p l e R s m args below meth c D cI cJ ad A nL cells slots Q σ (pc + 1) L (.int x :: st))) : gX X res (gG p l e R s m args below meth c D cI cJ ad A nL cells slots Q σ pc L st) :=
  fun hX H locs ls hl hP hS => lv_iload_n C.1 C.2.1 hdg hi (lv_at hl j hj) (k hX H locs ls hl hP hS)
theorem g_iload (C : gC p s m args meth c D cI cJ ad A cc nL own) {i : Nat} {x : Int32} (j : Nat) (hdg : decode cc pc = .ok (.iload i, 2)) (hj : L[j]? = some (i, .int x)) (k : gX X res (gG p l e R s m args below meth c D cI cJ ad A nL cells slots Q σ (pc + 2) L (.int x :: st))) : gX X res (gG p l e R s m args below meth c D cI cJ ad A nL cells slots Q σ pc L st) :=
  fun hX H locs ls hl hP hS => lv_iload C.1 C.2.1 hdg (lv_at hl j hj) (k hX H locs ls hl hP hS)
theorem g_aload_n (C : gC p s m args meth c D cI cJ ad A cc nL own) {q : Fin 4} {i : Nat} {x : Nat} (j : Nat) (hdg : decode cc pc = .ok (.aload_n q, 1)) (hi : (q : Nat) = i) (hj : L[j]? = some (i, .ref x)) (k : gX X res (gG p l e R s m args below meth c D cI cJ ad A nL cells slots Q σ (pc + 1) L (.ref x :: st))) : gX X res (gG p l e R s m args below meth c D cI cJ ad A nL cells slots Q σ pc L st) :=
  fun hX H locs ls hl hP hS => lv_aload_n C.1 C.2.1 hdg hi (lv_at hl j hj) (k hX H locs ls hl hP hS)
theorem g_aload (C : gC p s m args meth c D cI cJ ad A cc nL own) {i : Nat} {x : Nat} (j : Nat) (hdg : decode cc pc = .ok (.aload i, 2)) (hj : L[j]? = some (i, .ref x)) (k : gX X res (gG p l e R s m args below meth c D cI cJ ad A nL cells slots Q σ (pc + 2) L (.ref x :: st))) : gX X res (gG p l e R s m args below meth c D cI cJ ad A nL cells slots Q σ pc L st) :=
  fun hX H locs ls hl hP hS => lv_aload C.1 C.2.1 hdg (lv_at hl j hj) (k hX H locs ls hl hP hS)
theorem g_istore_n (C : gC p s m args meth c D cI cJ ad A cc nL own) {q : Fin 4} {i : Nat} {x : Int32} (hdg : decode cc pc = .ok (.istore_n q, 1)) (hi : (q : Nat) = i) (hn : i < nL) (hl' : (i, Value.int x) :: L.filter (fun q => !(q.1 == i) && !(q.1 + 1 == i && q.2.category == 2)) = L') (k : gX X res (gG p l e R s m args below meth c D cI cJ ad A nL cells slots Q σ (pc + 1) L' st)) : gX X res (gG p l e R s m args below meth c D cI cJ ad A nL cells slots Q σ pc L (.int x :: st)) :=
  fun hX H locs ls hl hP hS => lv_istore_n C.1 C.2.1 hdg hi hl hn hl' (fun ls' hl2 => k hX H locs ls' hl2 hP hS)
theorem g_istore (C : gC p s m args meth c D cI cJ ad A cc nL own) {i : Nat} {x : Int32} (hdg : decode cc pc = .ok (.istore i, 2)) (hn : i < nL) (hl' : (i, Value.int x) :: L.filter (fun q => !(q.1 == i) && !(q.1 + 1 == i && q.2.category == 2)) = L') (k : gX X res (gG p l e R s m args below meth c D cI cJ ad A nL cells slots Q σ (pc + 2) L' st)) : gX X res (gG p l e R s m args below meth c D cI cJ ad A nL cells slots Q σ pc L (.int x :: st)) :=
  fun hX H locs ls hl hP hS => lv_istore C.1 C.2.1 hdg hl hn hl' (fun ls' hl2 => k hX H locs ls' hl2 hP hS)
theorem g_astore_n (C : gC p s m args meth c D cI cJ ad A cc nL own) {q : Fin 4} {i : Nat} {x : Nat} (hdg : decode cc pc = .ok (.astore_n q, 1)) (hi : (q : Nat) = i) (hn : i < nL) (hl' : (i, Value.ref x) :: L.filter (fun q => !(q.1 == i) && !(q.1 + 1 == i && q.2.category == 2)) = L') (k : gX X res (gG p l e R s m args below meth c D cI cJ ad A nL cells slots Q σ (pc + 1) L' st)) : gX X res (gG p l e R s m args below meth c D cI cJ ad A nL cells slots Q σ pc L (.ref x :: st)) :=
  fun hX H locs ls hl hP hS => lv_astore_n C.1 C.2.1 hdg hi hl hn hl' (fun ls' hl2 => k hX H locs ls' hl2 hP hS)
theorem g_astore (C : gC p s m args meth c D cI cJ ad A cc nL own) {i : Nat} {x : Nat} (hdg : decode cc pc = .ok (.astore i, 2)) (hn : i < nL) (hl' : (i, Value.ref x) :: L.filter (fun q => !(q.1 == i) && !(q.1 + 1 == i && q.2.category == 2)) = L') (k : gX X res (gG p l e R s m args below meth c D cI cJ ad A nL cells slots Q σ (pc + 2) L' st)) : gX X res (gG p l e R s m args below meth c D cI cJ ad A nL cells slots Q σ pc L (.ref x :: st)) :=
  fun hX H locs ls hl hP hS => lv_astore C.1 C.2.1 hdg hl hn hl' (fun ls' hl2 => k hX H locs ls' hl2 hP hS)
theorem g_iinc (C : gC p s m args meth c D cI cJ ad A cc nL own) {i : Nat} {n : Int} {x v : Int32} (j : Nat) (hdg : decode cc pc = .ok (.iinc i n, 3)) (hj : L[j]? = some (i, .int x)) (hv : x + Int32.ofInt n = v) (hn : i < nL) (hl' : (i, Value.int v) :: L.filter (fun q => !(q.1 == i) && !(q.1 + 1 == i && q.2.category == 2)) = L') (k : gX X res (gG p l e R s m args below meth c D cI cJ ad A nL cells slots Q σ (pc + 3) L' st)) : gX X res (gG p l e R s m args below meth c D cI cJ ad A nL cells slots Q σ pc L st) :=
  fun hX H locs ls hl hP hS => lv_iinc C.1 C.2.1 hdg hl (k := j) hj hv hn hl' (fun ls' hl2 => k hX H locs ls' hl2 hP hS)
/-- the listed places in another order, or fewer -/
theorem g_loc (js : List Nat) (hj : lv_pick L js = L') (k : gX X res (gG p l e R s m args below meth c D cI cJ ad A nL cells slots Q σ pc L' st)) : gX X res (gG p l e R s m args below meth c D cI cJ ad A nL cells slots Q σ pc L st) :=
  fun hX H locs ls hl hP hS => k hX H locs ls (lv_sub hl js hj) hP hS
theorem g_iadd (C : gC p s m args meth c D cI cJ ad A cc nL own) {x y : Int32} (hdg : decode cc pc = .ok (.iadd, 1)) (k : gX X res (gG p l e R s m args below meth c D cI cJ ad A nL cells slots Q σ (pc + 1) L (.int (x + y) :: st))) : gX X res (gG p l e R s m args below meth c D cI cJ ad A nL cells slots Q σ pc L (.int y :: .int x :: st)) :=
  fun hX H locs ls hl hP hS => lv_iadd C.1 C.2.1 hdg (k hX H locs ls hl hP hS)
theorem g_isub (C : gC p s m args meth c D cI cJ ad A cc nL own) {x y : Int32} (hdg : decode cc pc = .ok (.isub, 1)) (k : gX X res (gG p l e R s m args below meth c D cI cJ ad A nL cells slots Q σ (pc + 1) L (.int (x - y) :: st))) : gX X res (gG p l e R s m args below meth c D cI cJ ad A nL cells slots Q σ pc L (.int y :: .int x :: st)) :=
  fun hX H locs ls hl hP hS => lv_isub C.1 C.2.1 hdg (k hX H locs ls hl hP hS)
theorem g_imul (C : gC p s m args meth c D cI cJ ad A cc nL own) {x y : Int32} (hdg : decode cc pc = .ok (.imul, 1)) (k : gX X res (gG p l e R s m args below meth c D cI cJ ad A nL cells slots Q σ (pc + 1) L (.int (x * y) :: st))) : gX X res (gG p l e R s m args below meth c D cI cJ ad A nL cells slots Q σ pc L (.int y :: .int x :: st)) :=
  fun hX H locs ls hl hP hS => lv_imul C.1 C.2.1 hdg (k hX H locs ls hl hP hS)
theorem g_iand (C : gC p s m args meth c D cI cJ ad A cc nL own) {x y : Int32} (hdg : decode cc pc = .ok (.iand, 1)) (k : gX X res (gG p l e R s m args below meth c D cI cJ ad A nL cells slots Q σ (pc + 1) L (.int (x &&& y) :: st))) : gX X res (gG p l e R s m args below meth c D cI cJ ad A nL cells slots Q σ pc L (.int y :: .int x :: st)) :=
  fun hX H locs ls hl hP hS => lv_iand C.1 C.2.1 hdg (k hX H locs ls hl hP hS)
theorem g_ior (C : gC p s m args meth c D cI cJ ad A cc nL own) {x y : Int32} (hdg : decode cc pc = .ok (.ior, 1)) (k : gX X res (gG p l e R s m args below meth c D cI cJ ad A nL cells slots Q σ (pc + 1) L (.int (x ||| y) :: st))) : gX X res (gG p l e R s m args below meth c D cI cJ ad A nL cells slots Q σ pc L (.int y :: .int x :: st)) :=
  fun hX H locs ls hl hP hS => lv_ior C.1 C.2.1 hdg (k hX H locs ls hl hP hS)
theorem g_ishl (C : gC p s m args meth c D cI cJ ad A cc nL own) {x y : Int32} (hdg : decode cc pc = .ok (.ishl, 1)) (k : gX X res (gG p l e R s m args below meth c D cI cJ ad A nL cells slots Q σ (pc + 1) L (.int (x <<< (y &&& 31)) :: st))) : gX X res (gG p l e R s m args below meth c D cI cJ ad A nL cells slots Q σ pc L (.int y :: .int x :: st)) :=
  fun hX H locs ls hl hP hS => lv_ishl C.1 C.2.1 hdg (k hX H locs ls hl hP hS)
theorem g_ishr (C : gC p s m args meth c D cI cJ ad A cc nL own) {x y : Int32} (hdg : decode cc pc = .ok (.ishr, 1)) (k : gX X res (gG p l e R s m args below meth c D cI cJ ad A nL cells slots Q σ (pc + 1) L (.int (x >>> (y &&& 31)) :: st))) : gX X res (gG p l e R s m args below meth c D cI cJ ad A nL cells slots Q σ pc L (.int y :: .int x :: st)) :=
  fun hX H locs ls hl hP hS => lv_ishr C.1 C.2.1 hdg (k hX H locs ls hl hP hS)
theorem g_irem (C : gC p s m args meth c D cI cJ ad A cc nL own) {x y : Int32} (hdg : decode cc pc = .ok (.irem, 1)) (hne : ¬ y = 0) (k : gX X res (gG p l e R s m args below meth c D cI cJ ad A nL cells slots Q σ (pc + 1) L (.int (x - x / y * y) :: st))) : gX X res (gG p l e R s m args below meth c D cI cJ ad A nL cells slots Q σ pc L (.int y :: .int x :: st)) :=
  fun hX H locs ls hl hP hS => lv_irem C.1 C.2.1 hdg hne (k hX H locs ls hl hP hS)
theorem g_dup (C : gC p s m args meth c D cI cJ ad A cc nL own) {a : Value} (hdg : decode cc pc = .ok (.dup, 1)) (ha : a.category = 1) (k : gX X res (gG p l e R s m args below meth c D cI cJ ad A nL cells slots Q σ (pc + 1) L (a :: a :: st))) : gX X res (gG p l e R s m args below meth c D cI cJ ad A nL cells slots Q σ pc L (a :: st)) :=
  fun hX H locs ls hl hP hS => lv_dup C.1 C.2.1 hdg ha (k hX H locs ls hl hP hS)
theorem g_pop (C : gC p s m args meth c D cI cJ ad A cc nL own) {a : Value} (hdg : decode cc pc = .ok (.pop, 1)) (ha : a.category = 1) (k : gX X res (gG p l e R s m args below meth c D cI cJ ad A nL cells slots Q σ (pc + 1) L st)) : gX X res (gG p l e R s m args below meth c D cI cJ ad A nL cells slots Q σ pc L (a :: st)) :=
  fun hX H locs ls hl hP hS => lv_pop C.1 C.2.1 hdg ha (k hX H locs ls hl hP hS)
theorem g_dup2 (C : gC p s m args meth c D cI cJ ad A cc nL own) {a b : Value} (hdg : decode cc pc = .ok (.dup2, 1)) (ha : a.category = 1) (hb : b.category = 1) (k : gX X res (gG p l e R s m args below meth c D cI cJ ad A nL cells slots Q σ (pc + 1) L (a :: b :: a :: b :: st))) : gX X res (gG p l e R s m args below meth c D cI cJ ad A nL cells slots Q σ pc L (a :: b :: st)) :=
  fun hX H locs ls hl hP hS => lv_dup2_11 C.1 C.2.1 hdg ha hb (k hX H locs ls hl hP hS)
theorem g_goto (C : gC p s m args meth c D cI cJ ad A cc nL own) {off : Int} {tgt : Nat} (hdg : decode cc pc = .ok (.goto off, 3)) (ht : (pc : Int) + off = (tgt : Int)) (k : gX X res (gG p l e R s m args below meth c D cI cJ ad A nL cells slots Q σ tgt L st)) : gX X res (gG p l e R s m args below meth c D cI cJ ad A nL cells slots Q σ pc L st) :=
  fun hX H locs ls hl hP hS => lv_goto C.1 C.2.1 hdg ht (k hX H locs ls hl hP hS)
theorem g_icmp_eq (C : gC p s m args meth c D cI cJ ad A cc nL own) {x y : Int32} {off : Int} {tgt : Nat} (hdg : decode cc pc = .ok (.if_icmp .eq off, 3)) (ht : (pc : Int) + off = (tgt : Int)) (k1 : x = y → gX X1 res (gG p l e R s m args below meth c D cI cJ ad A nL cells slots Q σ tgt L st)) (k2 : ¬ x = y → gX X2 res (gG p l e R s m args below meth c D cI cJ ad A nL cells slots Q σ (pc + 3) L st)) : gX (if x = y then X1 else X2) res (gG p l e R s m args below meth c D cI cJ ad A nL cells slots Q σ pc L (.int y :: .int x :: st)) := by
  refine gX_if (fun h hX H locs ls hl hP hS => ?_) (fun h hX H locs ls hl hP hS => ?_)
  · exact lv_icmp_eq C.1 C.2.1 hdg ht (fun _ => k1 h hX H locs ls hl hP hS) (fun h2 => absurd h h2)
  · exact lv_icmp_eq C.1 C.2.1 hdg ht (fun h2 => absurd h2 h) (fun _ => k2 h hX H locs ls hl hP hS)
theorem g_icmp_eq_t (C : gC p s m args meth c D cI cJ ad A cc nL own) {x y : Int32} {off : Int} {tgt : Nat} (hdg : decode cc pc = .ok (.if_icmp .eq off, 3)) (ht : (pc : Int) + off = (tgt : Int)) (h : x = y) (k1 : gX X res (gG p l e R s m args below meth c D cI cJ ad A nL cells slots Q σ tgt L st)) : gX X res (gG p l e R s m args below meth c D cI cJ ad A nL cells slots Q σ pc L (.int y :: .int x :: st)) :=
  fun hX H locs ls hl hP hS => lv_icmp_eq C.1 C.2.1 hdg ht (fun _ => k1 hX H locs ls hl hP hS) (fun h2 => absurd h h2)
theorem g_icmp_eq_f (C : gC p s m args meth c D cI cJ ad A cc nL own) {x y : Int32} {off : Int} {tgt : Nat} (hdg : decode cc pc = .ok (.if_icmp .eq off, 3)) (ht : (pc : Int) + off = (tgt : Int)) (h : ¬ x = y) (k2 : gX X res (gG p l e R s m args below meth c D cI cJ ad A nL cells slots Q σ (pc + 3) L st)) : gX X res (gG p l e R s m args below meth c D cI cJ ad A nL cells slots Q σ pc L (.int y :: .int x :: st)) :=
  fun hX H locs ls hl hP hS => lv_icmp_eq C.1 C.2.1 hdg ht (fun h2 => absurd h2 h) (fun _ => k2 hX H locs ls hl hP hS)
theorem g_icmp_ne (C : gC p s m args meth c D cI cJ ad A cc nL own) {x y : Int32} {off : Int} {tgt : Nat} (hdg : decode cc pc = .ok (.if_icmp .ne off, 3)) (ht : (pc : Int) + off = (tgt : Int)) (k1 : x = y → gX X1 res (gG p l e R s m args below meth c D cI cJ ad A nL cells slots Q σ (pc + 3) L st)) (k2 : ¬ x = y → gX X2 res (gG p l e R s m args below meth c D cI cJ ad A nL cells slots Q σ tgt L st)) : gX (if x = y then X1 else X2) res (gG p l e R s m args below meth c D cI cJ ad A nL cells slots Q σ pc L (.int y :: .int x :: st)) := by
  refine gX_if (fun h hX H locs ls hl hP hS => ?_) (fun h hX H locs ls hl hP hS => ?_)
  · exact lv_icmp_ne C.1 C.2.1 hdg ht (fun h2 => absurd h h2) (fun _ => k1 h hX H locs ls hl hP hS)
  · exact lv_icmp_ne C.1 C.2.1 hdg ht (fun _ => k2 h hX H locs ls hl hP hS) (fun h2 => absurd h2 h)
theorem g_icmp_ne_t (C : gC p s m args meth c D cI cJ ad A cc nL own) {x y : Int32} {off : Int} {tgt : Nat} (hdg : decode cc pc = .ok (.if_icmp .ne off, 3)) (ht : (pc : Int) + off = (tgt : Int)) (h : x = y) (k1 : gX X res (gG p l e R s m args below meth c D cI cJ ad A nL cells slots Q σ (pc + 3) L st)) : gX X res (gG p l e R s m args below meth c D cI cJ ad A nL cells slots Q σ pc L (.int y :: .int x :: st)) :=
  fun hX H locs ls hl hP hS => lv_icmp_ne C.1 C.2.1 hdg ht (fun h2 => absurd h h2) (fun _ => k1 hX H locs ls hl hP hS)
theorem g_icmp_ne_f (C : gC p s m args meth c D cI cJ ad A cc nL own) {x y : Int32} {off : Int} {tgt : Nat} (hdg : decode cc pc = .ok (.if_icmp .ne off, 3)) (ht : (pc : Int) + off = (tgt : Int)) (h : ¬ x = y) (k2 : gX X res (gG p l e R s m args below meth c D cI cJ ad A nL cells slots Q σ tgt L st)) : gX X res (gG p l e R s m args below meth c D cI cJ ad A nL cells slots Q σ pc L (.int y :: .int x :: st)) :=
  fun hX H locs ls hl hP hS => lv_icmp_ne C.1 C.2.1 hdg ht (fun _ => k2 hX H locs ls hl hP hS) (fun h2 => absurd h2 h)
theorem g_icmp_lt (C : gC p s m args meth c D cI cJ ad A cc nL own) {x y : Int32} {off : Int} {tgt : Nat} (hdg : decode cc pc = .ok (.if_icmp .lt off, 3)) (ht : (pc : Int) + off = (tgt : Int)) (k1 : x < y → gX X1 res (gG p l e R s m args below meth c D cI cJ ad A nL cells slots Q σ tgt L st)) (k2 : ¬ x < y → gX X2 res (gG p l e R s m args below meth c D cI cJ ad A nL cells slots Q σ (pc + 3) L st)) : gX (if x < y then X1 else X2) res (gG p l e R s m args below meth c D cI cJ ad A nL cells slots Q σ pc L (.int y :: .int x :: st)) := by
  refine gX_if (fun h hX H locs ls hl hP hS => ?_) (fun h hX H locs ls hl hP hS => ?_)
  · exact lv_icmp_lt C.1 C.2.1 hdg ht (fun _ => k1 h hX H locs ls hl hP hS) (fun h2 => absurd h h2)
  · exact lv_icmp_lt C.1 C.2.1 hdg ht (fun h2 => absurd h2 h) (fun _ => k2 h hX H locs ls hl hP hS)
theorem g_icmp_lt_t (C : gC p s m args meth c D cI cJ ad A cc nL own) {x y : Int32} {off : Int} {tgt : Nat} (hdg : decode cc pc = .ok (.if_icmp .lt off, 3)) (ht : (pc : Int) + off = (tgt : Int)) (h : x < y) (k1 : gX X res (gG p l e R s m args below meth c D cI cJ ad A nL cells slots Q σ tgt L st)) : gX X res (gG p l e R s m args below meth c D cI cJ ad A nL cells slots Q σ pc L (.int y :: .int x :: st)) :=
  fun hX H locs ls hl hP hS => lv_icmp_lt C.1 C.2.1 hdg ht (fun _ => k1 hX H locs ls hl hP hS) (fun h2 => absurd h h2)
theorem g_icmp_lt_f (C : gC p s m args meth c D cI cJ ad A cc nL own) {x y : Int32} {off : Int} {tgt : Nat} (hdg : decode cc pc = .ok (.if_icmp .lt off, 3)) (ht : (pc : Int) + off = (tgt : Int)) (h : ¬ x < y) (k2 : gX X res (gG p l e R s m args below meth c D cI cJ ad A nL cells slots Q σ (pc + 3) L st)) : gX X res (gG p l e R s m args below meth c D cI cJ ad A nL cells slots Q σ pc L (.int y :: .int x :: st)) :=
  fun hX H locs ls hl hP hS => lv_icmp_lt C.1 C.2.1 hdg ht (fun h2 => absurd h2 h) (fun _ => k2 hX H locs ls hl hP hS)
theorem g_icmp_ge (C : gC p s m args meth c D cI cJ ad A cc nL own) {x y : Int32} {off : Int} {tgt : Nat} (hdg : decode cc pc = .ok (.if_icmp .ge off, 3)) (ht : (pc : Int) + off = (tgt : Int)) (k1 : y ≤ x → gX X1 res (gG p l e R s m args below meth c D cI cJ ad A nL cells slots Q σ tgt L st)) (k2 : ¬ y ≤ x → gX X2 res (gG p l e R s m args below meth c D cI cJ ad A nL cells slots Q σ (pc + 3) L st)) : gX (if y ≤ x then X1 else X2) res (gG p l e R s m args below meth c D cI cJ ad A nL cells slots Q σ pc L (.int y :: .int x :: st)) := by
  refine gX_if (fun h hX H locs ls hl hP hS => ?_) (fun h hX H locs ls hl hP hS => ?_)
  · exact lv_icmp_ge C.1 C.2.1 hdg ht (fun _ => k1 h hX H locs ls hl hP hS) (fun h2 => absurd h h2)
  · exact lv_icmp_ge C.1 C.2.1 hdg ht (fun h2 => absurd h2 h) (fun _ => k2 h hX H locs ls hl hP hS)
theorem g_icmp_ge_t (C : gC p s m args meth c D cI cJ ad A cc nL own) {x y : Int32} {off : Int} {tgt : Nat} (hdg : decode cc pc = .ok (.if_icmp .ge off, 3)) (ht : (pc : Int) + off = (tgt : Int)) (h : y ≤ x) (k1 : gX X res (gG p l e R s m args below meth c D cI cJ ad A nL cells slots Q σ tgt L st)) : gX X res (gG p l e R s m args below meth c D cI cJ ad A nL cells slots Q σ pc L (.int y :: .int x :: st)) :=
  fun hX H locs ls hl hP hS => lv_icmp_ge C.1 C.2.1 hdg ht (fun _ => k1 hX H locs ls hl hP hS) (fun h2 => absurd h h2)
theorem g_icmp_ge_f (C : gC p s m args meth c D cI cJ ad A cc nL own) {x y : Int32} {off : Int} {tgt : Nat} (hdg : decode cc pc = .ok (.if_icmp .ge off, 3)) (ht : (pc : Int) + off = (tgt : Int)) (h : ¬ y ≤ x) (k2 : gX X res (gG p l e R s m args below meth c D cI cJ ad A nL cells slots Q σ (pc + 3) L st)) : gX X res (gG p l e R s m args below meth c D cI cJ ad A nL cells slots Q σ pc L (.int y :: .int x :: st)) :=
  fun hX H locs ls hl hP hS => lv_icmp_ge C.1 C.2.1 hdg ht (fun h2 => absurd h2 h) (fun _ => k2 hX H locs ls hl hP hS)
theorem g_icmp_gt (C : gC p s m args meth c D cI cJ ad A cc nL own) {x y : Int32} {off : Int} {tgt : Nat} (hdg : decode cc pc = .ok (.if_icmp .gt off, 3)) (ht : (pc : Int) + off = (tgt : Int)) (k1 : y < x → gX X1 res (gG p l e R s m args below meth c D cI cJ ad A nL cells slots Q σ tgt L st)) (k2 : ¬ y < x → gX X2 res (gG p l e R s m args below meth c D cI cJ ad A nL cells slots Q σ (pc + 3) L st)) : gX (if y < x then X1 else X2) res (gG p l e R s m args below meth c D cI cJ ad A nL cells slots Q σ pc L (.int y :: .int x :: st)) := by
  refine gX_if (fun h hX H locs ls hl hP hS => ?_) (fun h hX H locs ls hl hP hS => ?_)
  · exact lv_icmp_gt C.1 C.2.1 hdg ht (fun _ => k1 h hX H locs ls hl hP hS) (fun h2 => absurd h h2)
  · exact lv_icmp_gt C.1 C.2.1 hdg ht (fun h2 => absurd h2 h) (fun _ => k2 h hX H locs ls hl hP hS)
theorem g_icmp_gt_t (C : gC p s m args meth c D cI cJ ad A cc nL own) {x y : Int32} {off : Int} {tgt : Nat} (hdg : decode cc pc = .ok (.if_icmp .gt off, 3)) (ht : (pc : Int) + off = (tgt : Int)) (h : y < x) (k1 : gX X res (gG p l e R s m args below meth c D cI cJ ad A nL cells slots Q σ tgt L st)) : gX X res (gG p l e R s m args below meth c D cI cJ ad A nL cells slots Q σ pc L (.int y :: .int x :: st)) :=
  fun hX H locs ls hl hP hS => lv_icmp_gt C.1 C.2.1 hdg ht (fun _ => k1 hX H locs ls hl hP hS) (fun h2 => absurd h h2)
theorem g_icmp_gt_f (C : gC p s m args meth c D cI cJ ad A cc nL own) {x y : Int32} {off : Int} {tgt : Nat} (hdg : decode cc pc = .ok (.if_icmp .gt off, 3)) (ht : (pc : Int) + off = (tgt : Int)) (h : ¬ y < x) (k2 : gX X res (gG p l e R s m args below meth c D cI cJ ad A nL cells slots Q σ (pc + 3) L st)) : gX X res (gG p l e R s m args below meth c D cI cJ ad A nL cells slots Q σ pc L (.int y :: .int x :: st)) :=
  fun hX H locs ls hl hP hS => lv_icmp_gt C.1 C.2.1 hdg ht (fun h2 => absurd h2 h) (fun _ => k2 hX H locs ls hl hP hS)
theorem g_icmp_le (C : gC p s m args meth c D cI cJ ad A cc nL own) {x y : Int32} {off : Int} {tgt : Nat} (hdg : decode cc pc = .ok (.if_icmp .le off, 3)) (ht : (pc : Int) + off = (tgt : Int)) (k1 : x ≤ y → gX X1 res (gG p l e R s m args below meth c D cI cJ ad A nL cells slots Q σ tgt L st)) (k2 : ¬ x ≤ y → gX X2 res (gG p l e R s m args below meth c D cI cJ ad A nL cells slots Q σ (pc + 3) L st)) : gX (if x ≤ y then X1 else X2) res (gG p l e R s m args below meth c D cI cJ ad A nL cells slots Q σ pc L (.int y :: .int x :: st)) := by
  refine gX_if (fun h hX H locs ls hl hP hS => ?_) (fun h hX H locs ls hl hP hS => ?_)
  · exact lv_icmp_le C.1 C.2.1 hdg ht (fun _ => k1 h hX H locs ls hl hP hS) (fun h2 => absurd h h2)
  · exact lv_icmp_le C.1 C.2.1 hdg ht (fun h2 => absurd h2 h) (fun _ => k2 h hX H locs ls hl hP hS)
theorem g_icmp_le_t (C : gC p s m args meth c D cI cJ ad A cc nL own) {x y : Int32} {off : Int} {tgt : Nat} (hdg : decode cc pc = .ok (.if_icmp .le off, 3)) (ht : (pc : Int) + off = (tgt : Int)) (h : x ≤ y) (k1 : gX X res (gG p l e R s m args below meth c D cI cJ ad A nL cells slots Q σ tgt L st)) : gX X res (gG p l e R s m args below meth c D cI cJ ad A nL cells slots Q σ pc L (.int y :: .int x :: st)) :=
  fun hX H locs ls hl hP hS => lv_icmp_le C.1 C.2.1 hdg ht (fun _ => k1 hX H locs ls hl hP hS) (fun h2 => absurd h h2)
theorem g_icmp_le_f (C : gC p s m args meth c D cI cJ ad A cc nL own) {x y : Int32} {off : Int} {tgt : Nat} (hdg : decode cc pc = .ok (.if_icmp .le off, 3)) (ht : (pc : Int) + off = (tgt : Int)) (h : ¬ x ≤ y) (k2 : gX X res (gG p l e R s m args below meth c D cI cJ ad A nL cells slots Q σ (pc + 3) L st)) : gX X res (gG p l e R s m args below meth c D cI cJ ad A nL cells slots Q σ pc L (.int y :: .int x :: st)) :=
  fun hX H locs ls hl hP hS => lv_icmp_le C.1 C.2.1 hdg ht (fun h2 => absurd h2 h) (fun _ => k2 hX H locs ls hl hP hS)
theorem g_if_eq (C : gC p s m args meth c D cI cJ ad A cc nL own) {x : Int32} {off : Int} {tgt : Nat} (hdg : decode cc pc = .ok (.ifCond .eq off, 3)) (ht : (pc : Int) + off = (tgt : Int)) (k1 : x = 0 → gX X1 res (gG p l e R s m args below meth c D cI cJ ad A nL cells slots Q σ tgt L st)) (k2 : ¬ x = 0 → gX X2 res (gG p l e R s m args below meth c D cI cJ ad A nL cells slots Q σ (pc + 3) L st)) : gX (if x = 0 then X1 else X2) res (gG p l e R s m args below meth c D cI cJ ad A nL cells slots Q σ pc L (.int x :: st)) := by
  refine gX_if (fun h hX H locs ls hl hP hS => ?_) (fun h hX H locs ls hl hP hS => ?_)
  · exact lv_if_eq C.1 C.2.1 hdg ht (fun _ => k1 h hX H locs ls hl hP hS) (fun h2 => absurd h h2)
  · exact lv_if_eq C.1 C.2.1 hdg ht (fun h2 => absurd h2 h) (fun _ => k2 h hX H locs ls hl hP hS)
theorem g_if_eq_t (C : gC p s m args meth c D cI cJ ad A cc nL own) {x : Int32} {off : Int} {tgt : Nat} (hdg : decode cc pc = .ok (.ifCond .eq off, 3)) (ht : (pc : Int) + off = (tgt : Int)) (h : x = 0) (k1 : gX X res (gG p l e R s m args below meth c D cI cJ ad A nL cells slots Q σ tgt L st)) : gX X res (gG p l e R s m args below meth c D cI cJ ad A nL cells slots Q σ pc L (.int x :: st)) :=
  fun hX H locs ls hl hP hS => lv_if_eq C.1 C.2.1 hdg ht (fun _ => k1 hX H locs ls hl hP hS) (fun h2 => absurd h h2)
theorem g_if_eq_f (C : gC p s m args meth c D cI cJ ad A cc nL own) {x : Int32} {off : Int} {tgt : Nat} (hdg : decode cc pc = .ok (.ifCond .eq off, 3)) (ht : (pc : Int) + off = (tgt : Int)) (h : ¬ x = 0) (k2 : gX X res (gG p l e R s m args below meth c D cI cJ ad A nL cells slots Q σ (pc + 3) L st)) : gX X res (gG p l e R s m args below meth c D cI cJ ad A nL cells slots Q σ pc L (.int x :: st)) :=
  fun hX H locs ls hl hP hS => lv_if_eq C.1 C.2.1 hdg ht (fun h2 => absurd h2 h) (fun _ => k2 hX H locs ls hl hP hS)
theorem g_if_ne (C : gC p s m args meth c D cI cJ ad A cc nL own) {x : Int32} {off : Int} {tgt : Nat} (hdg : decode cc pc = .ok (.ifCond .ne off, 3)) (ht : (pc : Int) + off = (tgt : Int)) (k1 : x = 0 → gX X1 res (gG p l e R s m args below meth c D cI cJ ad A nL cells slots Q σ (pc + 3) L st)) (k2 : ¬ x = 0 → gX X2 res (gG p l e R s m args below meth c D cI cJ ad A nL cells slots Q σ tgt L st)) : gX (if x = 0 then X1 else X2) res (gG p l e R s m args below meth c D cI cJ ad A nL cells slots Q σ pc L (.int x :: st)) := by
  refine gX_if (fun h hX H locs ls hl hP hS => ?_) (fun h hX H locs ls hl hP hS => ?_)
  · exact lv_if_ne C.1 C.2.1 hdg ht (fun h2 => absurd h h2) (fun _ => k1 h hX H locs ls hl hP hS)
  · exact lv_if_ne C.1 C.2.1 hdg ht (fun _ => k2 h hX H locs ls hl hP hS) (fun h2 => absurd h2 h)
theorem g_if_ne_t (C : gC p s m args meth c D cI cJ ad A cc nL own) {x : Int32} {off : Int} {tgt : Nat} (hdg : decode cc pc = .ok (.ifCond .ne off, 3)) (ht : (pc : Int) + off = (tgt : Int)) (h : x = 0) (k1 : gX X res (gG p l e R s m args below meth c D cI cJ ad A nL cells slots Q σ (pc + 3) L st)) : gX X res (gG p l e R s m args below meth c D cI cJ ad A nL cells slots Q σ pc L (.int x :: st)) :=
  fun hX H locs ls hl hP hS => lv_if_ne C.1 C.2.1 hdg ht (fun h2 => absurd h h2) (fun _ => k1 hX H locs ls hl hP hS)
theorem g_if_ne_f (C : gC p s m args meth c D cI cJ ad A cc nL own) {x : Int32} {off : Int} {tgt : Nat} (hdg : decode cc pc = .ok (.ifCond .ne off, 3)) (ht : (pc : Int) + off = (tgt : Int)) (h : ¬ x = 0) (k2 : gX X res (gG p l e R s m args below meth c D cI cJ ad A nL cells slots Q σ tgt L st)) : gX X res (gG p l e R s m args below meth c D cI cJ ad A nL cells slots Q σ pc L (.int x :: st)) :=
  fun hX H locs ls hl hP hS => lv_if_ne C.1 C.2.1 hdg ht (fun _ => k2 hX H locs ls hl hP hS) (fun h2 => absurd h2 h)
theorem g_if_lt (C : gC p s m args meth c D cI cJ ad A cc nL own) {x : Int32} {off : Int} {tgt : Nat} (hdg : decode cc pc = .ok (.ifCond .lt off, 3)) (ht : (pc : Int) + off = (tgt : Int)) (k1 : x < 0 → gX X1 res (gG p l e R s m args below meth c D cI cJ ad A nL cells slots Q σ tgt L st)) (k2 : ¬ x < 0 → gX X2 res (gG p l e R s m args below meth c D cI cJ ad A nL cells slots Q σ (pc + 3) L st)) : gX (if x < 0 then X1 else X2) res (gG p l e R s m args below meth c D cI cJ ad A nL cells slots Q σ pc L (.int x :: st)) := by
  refine gX_if (fun h hX H locs ls hl hP hS => ?_) (fun h hX H locs ls hl hP hS => ?_)
  · exact lv_if_lt C.1 C.2.1 hdg ht (fun _ => k1 h hX H locs ls hl hP hS) (fun h2 => absurd h h2)
  · exact lv_if_lt C.1 C.2.1 hdg ht (fun h2 => absurd h2 h) (fun _ => k2 h hX H locs ls hl hP hS)
theorem g_if_lt_t (C : gC p s m args meth c D cI cJ ad A cc nL own) {x : Int32} {off : Int} {tgt : Nat} (hdg : decode cc pc = .ok (.ifCond .lt off, 3)) (ht : (pc : Int) + off = (tgt : Int)) (h : x < 0) (k1 : gX X res (gG p l e R s m args below meth c D cI cJ ad A nL cells slots Q σ tgt L st)) : gX X res (gG p l e R s m args below meth c D cI cJ ad A nL cells slots Q σ pc L (.int x :: st)) :=
  fun hX H locs ls hl hP hS => lv_if_lt C.1 C.2.1 hdg ht (fun _ => k1 hX H locs ls hl hP hS) (fun h2 => absurd h h2)
theorem g_if_lt_f (C : gC p s m args meth c D cI cJ ad A cc nL own) {x : Int32} {off : Int} {tgt : Nat} (hdg : decode cc pc = .ok (.ifCond .lt off, 3)) (ht : (pc : Int) + off = (tgt : Int)) (h : ¬ x < 0) (k2 : gX X res (gG p l e R s m args below meth c D cI cJ ad A nL cells slots Q σ (pc + 3) L st)) : gX X res (gG p l e R s m args below meth c D cI cJ ad A nL cells slots Q σ pc L (.int x :: st)) :=
  fun hX H locs ls hl hP hS => lv_if_lt C.1 C.2.1 hdg ht (fun h2 => absurd h2 h) (fun _ => k2 hX H locs ls hl hP hS)
theorem g_if_ge (C : gC p s m args meth c D cI cJ ad A cc nL own) {x : Int32} {off : Int} {tgt : Nat} (hdg : decode cc pc = .ok (.ifCond .ge off, 3)) (ht : (pc : Int) + off = (tgt : Int)) (k1 : 0 ≤ x → gX X1 res (gG p l e R s m args below meth c D cI cJ ad A nL cells slots Q σ tgt L st)) (k2 : ¬ 0 ≤ x → gX X2 res (gG p l e R s m args below meth c D cI cJ ad A nL cells slots Q σ (pc + 3) L st)) : gX (if 0 ≤ x then X1 else X2) res (gG p l e R s m args below meth c D cI cJ ad A nL cells slots Q σ pc L (.int x :: st)) := by
  refine gX_if (fun h hX H locs ls hl hP hS => ?_) (fun h hX H locs ls hl hP hS => ?_)
  · exact lv_if_ge C.1 C.2.1 hdg ht (fun _ => k1 h hX H locs ls hl hP hS) (fun h2 => absurd h h2)
  · exact lv_if_ge C.1 C.2.1 hdg ht (fun h2 => absurd h2 h) (fun _ => k2 h hX H locs ls hl hP hS)
theorem g_if_ge_t (C : gC p s m args meth c D cI cJ ad A cc nL own) {x : Int32} {off : Int} {tgt : Nat} (hdg : decode cc pc = .ok (.ifCond .ge off, 3)) (ht : (pc : Int) + off = (tgt : Int)) (h : 0 ≤ x) (k1 : gX X res (gG p l e R s m args below meth c D cI cJ ad A nL cells slots Q σ tgt L st)) : gX X res (gG p l e R s m args below meth c D cI cJ ad A nL cells slots Q σ pc L (.int x :: st)) :=
  fun hX H locs ls hl hP hS => lv_if_ge C.1 C.2.1 hdg ht (fun _ => k1 hX H locs ls hl hP hS) (fun h2 => absurd h h2)
theorem g_if_ge_f (C : gC p s m args meth c D cI cJ ad A cc nL own) {x : Int32} {off : Int} {tgt : Nat} (hdg : decode cc pc = .ok (.ifCond .ge off, 3)) (ht : (pc : Int) + off = (tgt : Int)) (h : ¬ 0 ≤ x) (k2 : gX X res (gG p l e R s m args below meth c D cI cJ ad A nL cells slots Q σ (pc + 3) L st)) : gX X res (gG p l e R s m args below meth c D cI cJ ad A nL cells slots Q σ pc L (.int x :: st)) :=
  fun hX H locs ls hl hP hS => lv_if_ge C.1 C.2.1 hdg ht (fun h2 => absurd h2 h) (fun _ => k2 hX H locs ls hl hP hS)
theorem g_if_gt (C : gC p s m args meth c D cI cJ ad A cc nL own) {x : Int32} {off : Int} {tgt : Nat} (hdg : decode cc pc = .ok (.ifCond .gt off, 3)) (ht : (pc : Int) + off = (tgt : Int)) (k1 : 0 < x → gX X1 res (gG p l e R s m args below meth c D cI cJ ad A nL cells slots Q σ tgt L st)) (k2 : ¬ 0 < x → gX X2 res (gG p l e R s m args below meth c D cI cJ ad A nL cells slots Q σ (pc + 3) L st)) : gX (if 0 < x then X1 else X2) res (gG p l e R s m args below meth c D cI cJ ad A nL cells slots Q σ pc L (.int x :: st)) := by
  refine gX_if (fun h hX H locs ls hl hP hS => ?_) (fun h hX H locs ls hl hP hS => ?_)
  · exact lv_if_gt C.1 C.2.1 hdg ht (fun _ => k1 h hX H locs ls hl hP hS) (fun h2 => absurd h h2)
  · exact lv_if_gt C.1 C.2.1 hdg ht (fun h2 => absurd h2 h) (fun _ => k2 h hX H locs ls hl hP hS)
theorem g_if_gt_t (C : gC p s m args meth c D cI cJ ad A cc nL own) {x : Int32} {off : Int} {tgt : Nat} (hdg : decode cc pc = .ok (.ifCond .gt off, 3)) (ht : (pc : Int) + off = (tgt : Int)) (h : 0 < x) (k1 : gX X res (gG p l e R s m args below meth c D cI cJ ad A nL cells slots Q σ tgt L st)) : gX X res (gG p l e R s m args below meth c D cI cJ ad A nL cells slots Q σ pc L (.int x :: st)) :=
  fun hX H locs ls hl hP hS => lv_if_gt C.1 C.2.1 hdg ht (fun _ => k1 hX H locs ls hl hP hS) (fun h2 => absurd h h2)
theorem g_if_gt_f (C : gC p s m args meth c D cI cJ ad A cc nL own) {x : Int32} {off : Int} {tgt : Nat} (hdg : decode cc pc = .ok (.ifCond .gt off, 3)) (ht : (pc : Int) + off = (tgt : Int)) (h : ¬ 0 < x) (k2 : gX X res (gG p l e R s m args below meth c D cI cJ ad A nL cells slots Q σ (pc + 3) L st)) : gX X res (gG p l e R s m args below meth c D cI cJ ad A nL cells slots Q σ pc L (.int x :: st)) :=
  fun hX H locs ls hl hP hS => lv_if_gt C.1 C.2.1 hdg ht (fun h2 => absurd h2 h) (fun _ => k2 hX H locs ls hl hP hS)
theorem g_if_le (C : gC p s m args meth c D cI cJ ad A cc nL own) {x : Int32} {off : Int} {tgt : Nat} (hdg : decode cc pc = .ok (.ifCond .le off, 3)) (ht : (pc : Int) + off = (tgt : Int)) (k1 : x ≤ 0 → gX X1 res (gG p l e R s m args below meth c D cI cJ ad A nL cells slots Q σ tgt L st)) (k2 : ¬ x ≤ 0 → gX X2 res (gG p l e R s m args below meth c D cI cJ ad A nL cells slots Q σ (pc + 3) L st)) : gX (if x ≤ 0 then X1 else X2) res (gG p l e R s m args below meth c D cI cJ ad A nL cells slots Q σ pc L (.int x :: st)) := by
  refine gX_if (fun h hX H locs ls hl hP hS => ?_) (fun h hX H locs ls hl hP hS => ?_)
  · exact lv_if_le C.1 C.2.1 hdg ht (fun _ => k1 h hX H locs ls hl hP hS) (fun h2 => absurd h h2)
  · exact lv_if_le C.1 C.2.1 hdg ht (fun h2 => absurd h2 h) (fun _ => k2 h hX H locs ls hl hP hS)
theorem g_if_le_t (C : gC p s m args meth c D cI cJ ad A cc nL own) {x : Int32} {off : Int} {tgt : Nat} (hdg : decode cc pc = .ok (.ifCond .le off, 3)) (ht : (pc : Int) + off = (tgt : Int)) (h : x ≤ 0) (k1 : gX X res (gG p l e R s m args below meth c D cI cJ ad A nL cells slots Q σ tgt L st)) : gX X res (gG p l e R s m args below meth c D cI cJ ad A nL cells slots Q σ pc L (.int x :: st)) :=
  fun hX H locs ls hl hP hS => lv_if_le C.1 C.2.1 hdg ht (fun _ => k1 hX H locs ls hl hP hS) (fun h2 => absurd h h2)
theorem g_if_le_f (C : gC p s m args meth c D cI cJ ad A cc nL own) {x : Int32} {off : Int} {tgt : Nat} (hdg : decode cc pc = .ok (.ifCond .le off, 3)) (ht : (pc : Int) + off = (tgt : Int)) (h : ¬ x ≤ 0) (k2 : gX X res (gG p l e R s m args below meth c D cI cJ ad A nL cells slots Q σ (pc + 3) L st)) : gX X res (gG p l e R s m args below meth c D cI cJ ad A nL cells slots Q σ pc L (.int x :: st)) :=
  fun hX H locs ls hl hP hS => lv_if_le C.1 C.2.1 hdg ht (fun h2 => absurd h2 h) (fun _ => k2 hX H locs ls hl hP hS)
/-- a class by its number: its words, its place -/
def gCl (c : Nat) (CN : String) (T : u_T) : Prop := (∀ w ∈ u_ws CN T (gNf c), w ∈ gT) ∧ vwCl[c]? = some (CN, T, gNf c) ∧ c < 7
theorem gw_obj {o c0 : Nat} (ho : gKd o = c0) (hc : c0 < 7) : (gw cI cJ ad σ)[o]? = some (ad o, .inr (c0, (List.range (gNf c0)).map (gfv ad σ o))) := by
  rw [gw_get (gKd_lt ho (by omega)), gcell_o ho hc]
theorem gw_int {o : Nat} (ho : gKd o = 7) : (gw cI cJ ad σ)[o]? = some (ad o, .inl (cI, gLn o, .inl (σ o))) := by
  rw [gw_get (gKd_lt ho (by omega)), gcell_i ho]
theorem gw_lng {o : Nat} (ho : gKd o = 8) : (gw cI cJ ad σ)[o]? = some (ad o, .inl (cJ, gLn o, .inr (.inl (fun j => (σ o j).toInt64)))) := by
  rw [gw_get (gKd_lt ho (by omega)), gcell_j ho]
theorem g_getI (C : gC p s m args meth c D cI cJ ad A cc nL own) {idx c0 : Nat} {CN : String} {T : u_T} (o j : Nat) (hcl : gCl c0 CN T) (ho : gKd o = c0) (hj : j < gNf c0) (hr : gRf o j = none) (hlink : Cond.fieldLink own idx (T j).1 (T j).2.1 (T j).2.2.1 ∈ gT) (hdg : decode cc pc = .ok (.getfield idx, 3)) (k : gX X res (gG p l e R s m args below meth c D cI cJ ad A nL cells slots Q σ (pc + 3) L (.int (σ o j) :: st))) : gX X res (gG p l e R s m args below meth c D cI cJ ad A nL cells slots Q σ pc L (.ref (ad o) :: st)) :=
  fun hX H locs ls hl hP hS => va_get (D := D) C.1 C.2.1 C.2.2.2.2.1 hcl.1 C.2.2.2.1 C.2.2.2.2.2.1 hP o (gw_obj ho hcl.2.2) hcl.2.1 j hj (C.2.2.2.2.1 _ hlink) (fun _ h9 => h9) (by rw [gfl_get hj, gfv_i hr]) hdg (k hX H locs ls hl hP hS)
theorem g_getR (C : gC p s m args meth c D cI cJ ad A cc nL own) {idx c0 : Nat} {CN : String} {T : u_T} (o j : Nat) {o' : Nat} (hcl : gCl c0 CN T) (ho : gKd o = c0) (hj : j < gNf c0) (hr : gRf o j = some o') (hlink : Cond.fieldLink own idx (T j).1 (T j).2.1 (T j).2.2.1 ∈ gT) (hdg : decode cc pc = .ok (.getfield idx, 3)) (k : gX X res (gG p l e R s m args below meth c D cI cJ ad A nL cells slots Q σ (pc + 3) L (.ref (ad o') :: st))) : gX X res (gG p l e R s m args below meth c D cI cJ ad A nL cells slots Q σ pc L (.ref (ad o) :: st)) :=
  fun hX H locs ls hl hP hS => va_get (D := D) C.1 C.2.1 C.2.2.2.2.1 hcl.1 C.2.2.2.1 C.2.2.2.2.2.1 hP o (gw_obj ho hcl.2.2) hcl.2.1 j hj (C.2.2.2.2.1 _ hlink) (fun _ h9 => h9) (by rw [gfl_get hj, gfv_r hr]) hdg (k hX H locs ls hl hP hS)
theorem g_getIN (C : gC p s m args meth c D cI cJ ad A cc nL own) {idx c0 : Nat} {CN host : String} {T : u_T} (o j : Nat) (hcl : gCl c0 CN T) (ho : gKd o = c0) (hj : j < gNf c0) (hr : gRf o j = none) (hlink : Cond.fieldLinkNest own idx (T j).1 (T j).2.1 (T j).2.2.1 host ∈ gNest) (hdg : decode cc pc = .ok (.getfield idx, 3)) (k : gX X res (gG p l e R s m args below meth c D cI cJ ad A nL cells slots Q σ (pc + 3) L (.int (σ o j) :: st))) : gX X res (gG p l e R s m args below meth c D cI cJ ad A nL cells slots Q σ pc L (.ref (ad o) :: st)) :=
  fun hX H locs ls hl hP hS => va_getN (D := D) C.1 C.2.1 C.2.2.2.2.1 hcl.1 C.2.2.2.1 C.2.2.2.2.2.1 hP o (gw_obj ho hcl.2.2) hcl.2.1 j hj (va_Nw.use rfl (gB_nest C.2.2.2.2.2.2.2.2.2.1 hlink)) (fun _ h9 => h9) (by rw [gfl_get hj, gfv_i hr]) hdg (k hX H locs ls hl hP hS)
theorem g_getRN (C : gC p s m args meth c D cI cJ ad A cc nL own) {idx c0 : Nat} {CN host : String} {T : u_T} (o j : Nat) {o' : Nat} (hcl : gCl c0 CN T) (ho : gKd o = c0) (hj : j < gNf c0) (hr : gRf o j = some o') (hlink : Cond.fieldLinkNest own idx (T j).1 (T j).2.1 (T j).2.2.1 host ∈ gNest) (hdg : decode cc pc = .ok (.getfield idx, 3)) (k : gX X res (gG p l e R s m args below meth c D cI cJ ad A nL cells slots Q σ (pc + 3) L (.ref (ad o') :: st))) : gX X res (gG p l e R s m args below meth c D cI cJ ad A nL cells slots Q σ pc L (.ref (ad o) :: st)) :=
  fun hX H locs ls hl hP hS => va_getN (D := D) C.1 C.2.1 C.2.2.2.2.1 hcl.1 C.2.2.2.1 C.2.2.2.2.2.1 hP o (gw_obj ho hcl.2.2) hcl.2.1 j hj (va_Nw.use rfl (gB_nest C.2.2.2.2.2.2.2.2.2.1 hlink)) (fun _ h9 => h9) (by rw [gfl_get hj, gfv_r hr]) hdg (k hX H locs ls hl hP hS)
/-- a field's type row: not final, its name apart, what may be stored -/
def gFt (c0 : Nat) (T : u_T) (ty : Nat → FieldType) : Prop := (∀ k, k < gNf c0 → parseFieldDescriptor (T k).2.2.1 = some (ty k)) ∧ (∀ a, a < gNf c0 → ∀ b, b < gNf c0 → a ≠ b → (T a).2.1 ≠ (T b).2.1)
theorem g_putI (C : gC p s m args meth c D cI cJ ad A cc nL own) {K : gSt → Option ρ} {idx c0 : Nat} {CN : String} {T : u_T} {ty : Nat → FieldType} {v : Int32} (o j : Nat) (hcl : gCl c0 CN T) (hft : gFt c0 T ty) (ho : gKd o = c0) (hj : j < gNf c0) (hr : gRf o j = none) (hfin : (T j).2.2.2 = false) (hty : ty j = .int) (hlink : Cond.fieldLink own idx (T j).1 (T j).2.1 (T j).2.2.1 ∈ gT) (hdg : decode cc pc = .ok (.putfield idx, 3)) (k : ∀ σ', gX (K σ') res (gG p l e R s m args below meth c D cI cJ ad A nL cells slots Q σ' (pc + 3) L st)) : gX (gl (gup σ o j v) K) res (gG p l e R s m args below meth c D cI cJ ad A nL cells slots Q σ pc L (.int v :: .ref (ad o) :: st)) := by
  intro hX H locs ls hl hP hS
  refine va_put (D := D) (v := .int v) (ty := .int) C.1 C.2.1 C.2.2.2.2.1 hcl.1 ty hft.1 hft.2 C.2.2.2.1 C.2.2.2.2.2.1 hP (gw_D C.2.2.2.2.2.2.2.2.1 C.2.2.2.2.2.2.2.1) hS o (gw_obj ho hcl.2.2) hcl.2.1 j hj (C.2.2.2.2.1 _ hlink) (fun _ h9 => h9) hfin (by rw [hft.1 j hj, hty]) rfl rfl (by simpa using hj) hdg (fun H1 locs1 hP1 _ hS1 => ?_)
  rw [gw_putf ho hcl.2.2 hr] at hP1
  exact k _ hX H1 locs1 ls hl hP1 hS1
theorem g_putIN (C : gC p s m args meth c D cI cJ ad A cc nL own) {K : gSt → Option ρ} {idx c0 : Nat} {CN host : String} {T : u_T} {ty : Nat → FieldType} {v : Int32} (o j : Nat) (hcl : gCl c0 CN T) (hft : gFt c0 T ty) (ho : gKd o = c0) (hj : j < gNf c0) (hr : gRf o j = none) (hfin : (T j).2.2.2 = false) (hty : ty j = .int) (hlink : Cond.fieldLinkNest own idx (T j).1 (T j).2.1 (T j).2.2.1 host ∈ gNest) (hdg : decode cc pc = .ok (.putfield idx, 3)) (k : ∀ σ', gX (K σ') res (gG p l e R s m args below meth c D cI cJ ad A nL cells slots Q σ' (pc + 3) L st)) : gX (gl (gup σ o j v) K) res (gG p l e R s m args below meth c D cI cJ ad A nL cells slots Q σ pc L (.int v :: .ref (ad o) :: st)) := by
  intro hX H locs ls hl hP hS
  refine va_putN (D := D) (v := .int v) (ty := .int) C.1 C.2.1 C.2.2.2.2.1 hcl.1 ty hft.1 hft.2 C.2.2.2.1 C.2.2.2.2.2.1 hP (gw_D C.2.2.2.2.2.2.2.2.1 C.2.2.2.2.2.2.2.1) hS o (gw_obj ho hcl.2.2) hcl.2.1 j hj (va_Nw.use rfl (gB_nest C.2.2.2.2.2.2.2.2.2.1 hlink)) (fun _ h9 => h9) hfin (by rw [hft.1 j hj, hty]) rfl rfl (by simpa using hj) hdg (fun H1 locs1 hP1 _ hS1 => ?_)
  rw [gw_putf ho hcl.2.2 hr] at hP1
  exact k _ hX H1 locs1 ls hl hP1 hS1
theorem gz_n {v : Int32} (h : v = 0 ∨ v = 1) : narrow .boolean (.int v) = .int v := by
  rcases h with rfl | rfl <;> decide +kernel
theorem gz_f {v : Int32} (h : v = 0 ∨ v = 1) : fits .boolean (.int v) = true := by
  rcases h with rfl | rfl <;> decide +kernel
theorem g_putZ (C : gC p s m args meth c D cI cJ ad A cc nL own) {K : gSt → Option ρ} {idx c0 : Nat} {CN : String} {T : u_T} {ty : Nat → FieldType} {v : Int32} (o j : Nat) (hv : v = 0 ∨ v = 1) (hcl : gCl c0 CN T) (hft : gFt c0 T ty) (ho : gKd o = c0) (hj : j < gNf c0) (hr : gRf o j = none) (hfin : (T j).2.2.2 = false) (hty : ty j = .boolean) (hlink : Cond.fieldLink own idx (T j).1 (T j).2.1 (T j).2.2.1 ∈ gT) (hdg : decode cc pc = .ok (.putfield idx, 3)) (k : ∀ σ', gX (K σ') res (gG p l e R s m args below meth c D cI cJ ad A nL cells slots Q σ' (pc + 3) L st)) : gX (gl (gup σ o j v) K) res (gG p l e R s m args below meth c D cI cJ ad A nL cells slots Q σ pc L (.int v :: .ref (ad o) :: st)) := by
  intro hX H locs ls hl hP hS
  refine va_put (D := D) (v := .int v) (ty := .boolean) C.1 C.2.1 C.2.2.2.2.1 hcl.1 ty hft.1 hft.2 C.2.2.2.1 C.2.2.2.2.2.1 hP (gw_D C.2.2.2.2.2.2.2.2.1 C.2.2.2.2.2.2.2.1) hS o (gw_obj ho hcl.2.2) hcl.2.1 j hj (C.2.2.2.2.1 _ hlink) (fun _ h9 => h9) hfin (by rw [hft.1 j hj, hty]) (gz_n hv) (gz_f hv) (by simpa using hj) hdg (fun H1 locs1 hP1 _ hS1 => ?_)
  rw [gw_putf ho hcl.2.2 hr] at hP1
  exact k _ hX H1 locs1 ls hl hP1 hS1
theorem g_putZN (C : gC p s m args meth c D cI cJ ad A cc nL own) {K : gSt → Option ρ} {idx c0 : Nat} {CN host : String} {T : u_T} {ty : Nat → FieldType} {v : Int32} (o j : Nat) (hv : v = 0 ∨ v = 1) (hcl : gCl c0 CN T) (hft : gFt c0 T ty) (ho : gKd o = c0) (hj : j < gNf c0) (hr : gRf o j = none) (hfin : (T j).2.2.2 = false) (hty : ty j = .boolean) (hlink : Cond.fieldLinkNest own idx (T j).1 (T j).2.1 (T j).2.2.1 host ∈ gNest) (hdg : decode cc pc = .ok (.putfield idx, 3)) (k : ∀ σ', gX (K σ') res (gG p l e R s m args below meth c D cI cJ ad A nL cells slots Q σ' (pc + 3) L st)) : gX (gl (gup σ o j v) K) res (gG p l e R s m args below meth c D cI cJ ad A nL cells slots Q σ pc L (.int v :: .ref (ad o) :: st)) := by
  intro hX H locs ls hl hP hS
  refine va_putN (D := D) (v := .int v) (ty := .boolean) C.1 C.2.1 C.2.2.2.2.1 hcl.1 ty hft.1 hft.2 C.2.2.2.1 C.2.2.2.2.2.1 hP (gw_D C.2.2.2.2.2.2.2.2.1 C.2.2.2.2.2.2.2.1) hS o (gw_obj ho hcl.2.2) hcl.2.1 j hj (va_Nw.use rfl (gB_nest C.2.2.2.2.2.2.2.2.2.1 hlink)) (fun _ h9 => h9) hfin (by rw [hft.1 j hj, hty]) (gz_n hv) (gz_f hv) (by simpa using hj) hdg (fun H1 locs1 hP1 _ hS1 => ?_)
  rw [gw_putf ho hcl.2.2 hr] at hP1
  exact k _ hX H1 locs1 ls hl hP1 hS1
/-- a boolean that is computed: 0 or 1, or nothing is said -/
theorem gX_z {v : Int32} {G : Prop} (k : (v = 0 ∨ v = 1) → gX X res G) : gX (if v = 0 ∨ v = 1 then X else none) res G := gX_if k (fun _ => gX_none)
theorem g_iald (C : gC p s m args meth c D cI cJ ad A cc nL own) {o n : Nat} {i : Int32} (ho : gKd o = 7) (hn : gLn o = n) (hdg : decode cc pc = .ok (.iaload, 1)) (k : gX X res (gG p l e R s m args below meth c D cI cJ ad A nL cells slots Q σ (pc + 1) L (.int (σ o i.toNatClampNeg) :: st))) : gX (if i < 0 ∨ n ≤ i.toNatClampNeg then none else X) res (gG p l e R s m args below meth c D cI cJ ad A nL cells slots Q σ pc L (.int i :: .ref (ad o) :: st)) := by
  refine gX_if (fun _ => gX_none) (fun h hX H locs ls hl hP hS => ?_)
  subst hn
  exact va_iald (D := D) C.1 C.2.1 C.2.2.2.2.2.1 hP o 0 (gw_int ho) rfl h hdg (k hX H locs ls hl hP hS)
theorem g_ialdL (C : gC p s m args meth c D cI cJ ad A cc nL own) {o n : Nat} {i : Int32} (j : Nat) (hin : i.toNatClampNeg = j ∧ vp_in i n) (ho : gKd o = 7) (hn : gLn o = n) (hdg : decode cc pc = .ok (.iaload, 1)) (k : gX X res (gG p l e R s m args below meth c D cI cJ ad A nL cells slots Q σ (pc + 1) L (.int (σ o j) :: st))) : gX X res (gG p l e R s m args below meth c D cI cJ ad A nL cells slots Q σ pc L (.int i :: .ref (ad o) :: st)) := by
  intro hX H locs ls hl hP hS
  obtain ⟨rfl, hin⟩ := hin
  subst hn
  exact va_iald (D := D) C.1 C.2.1 C.2.2.2.2.2.1 hP o 0 (gw_int ho) rfl hin hdg (k hX H locs ls hl hP hS)
theorem g_iast (C : gC p s m args meth c D cI cJ ad A cc nL own) {K : gSt → Option ρ} {o n : Nat} {i v : Int32} (ho : gKd o = 7) (hn : gLn o = n) (hdg : decode cc pc = .ok (.iastore, 1)) (k : ∀ σ', gX (K σ') res (gG p l e R s m args below meth c D cI cJ ad A nL cells slots Q σ' (pc + 1) L st)) : gX (if i < 0 ∨ n ≤ i.toNatClampNeg then none else gl (gup σ o i.toNatClampNeg v) K) res (gG p l e R s m args below meth c D cI cJ ad A nL cells slots Q σ pc L (.int v :: .int i :: .ref (ad o) :: st)) := by
  refine gX_if (fun _ => gX_none) (fun h hX H locs ls hl hP hS => ?_)
  subst hn
  refine va_iast (D := D) C.1 C.2.1 C.2.2.2.2.2.1 hP (gw_D C.2.2.2.2.2.2.2.2.1 C.2.2.2.2.2.2.2.1) hS o 0 (gw_int ho) rfl h hdg (fun H1 locs1 hP1 _ hS1 => ?_)
  rw [gw_puti ho] at hP1
  exact k _ hX H1 locs1 ls hl hP1 hS1
theorem g_iastL (C : gC p s m args meth c D cI cJ ad A cc nL own) {K : gSt → Option ρ} {o n : Nat} {i v : Int32} (j : Nat) (hin : i.toNatClampNeg = j ∧ vp_in i n) (ho : gKd o = 7) (hn : gLn o = n) (hdg : decode cc pc = .ok (.iastore, 1)) (k : ∀ σ', gX (K σ') res (gG p l e R s m args below meth c D cI cJ ad A nL cells slots Q σ' (pc + 1) L st)) : gX (gl (gup σ o j v) K) res (gG p l e R s m args below meth c D cI cJ ad A nL cells slots Q σ pc L (.int v :: .int i :: .ref (ad o) :: st)) := by
  intro hX H locs ls hl hP hS
  obtain ⟨rfl, hin⟩ := hin
  subst hn
  refine va_iast (D := D) C.1 C.2.1 C.2.2.2.2.2.1 hP (gw_D C.2.2.2.2.2.2.2.2.1 C.2.2.2.2.2.2.2.1) hS o 0 (gw_int ho) rfl hin hdg (fun H1 locs1 hP1 _ hS1 => ?_)
  rw [gw_puti ho] at hP1
  exact k _ hX H1 locs1 ls hl hP1 hS1
theorem g_alen (C : gC p s m args meth c D cI cJ ad A cc nL own) {o n : Nat} (ho : gKd o = 7) (hn : gLn o = n) (hdg : decode cc pc = .ok (.arraylength, 1)) (k : gX X res (gG p l e R s m args below meth c D cI cJ ad A nL cells slots Q σ (pc + 1) L (.int (nI n) :: st))) : gX X res (gG p l e R s m args below meth c D cI cJ ad A nL cells slots Q σ pc L (.ref (ad o) :: st)) := by
  intro hX H locs ls hl hP hS
  subst hn
  exact va_alen (D := D) C.1 C.2.1 C.2.2.2.2.2.1 hP o 0 (gw_int ho) (ty := .int) rfl rfl hdg (k hX H locs ls hl hP hS)
theorem g_tswIn (C : gC p s m args meth c D cI cJ ad A cc nL own) {dflt lo hi : Int} {offs : Array Int} {len : Nat} {x : Int32} {off : Int} {tgt : Nat} (hdg : decode cc pc = .ok (.tableswitch dflt lo hi offs, len)) (j : Int) (hx : x.toInt = j) (h1 : ¬ j < lo) (h2 : ¬ hi < j) (ho : offs[(j - lo).toNat]? = some off) (ht : (pc : Int) + off = (tgt : Int)) (k : gX X res (gG p l e R s m args below meth c D cI cJ ad A nL cells slots Q σ tgt L st)) : gX X res (gG p l e R s m args below meth c D cI cJ ad A nL cells slots Q σ pc L (.int x :: st)) := by
  subst hx
  exact fun hX H locs ls hl hP hS => lv_tableIn C.1 C.2.1 hdg h1 h2 ho ht (k hX H locs ls hl hP hS)
theorem g_tswOut (C : gC p s m args meth c D cI cJ ad A cc nL own) {dflt lo hi : Int} {offs : Array Int} {len : Nat} {x : Int32} {tgt : Nat} (hdg : decode cc pc = .ok (.tableswitch dflt lo hi offs, len)) (h : x.toInt < lo ∨ hi < x.toInt) (ht : (pc : Int) + dflt = (tgt : Int)) (k : gX X res (gG p l e R s m args below meth c D cI cJ ad A nL cells slots Q σ tgt L st)) : gX X res (gG p l e R s m args below meth c D cI cJ ad A nL cells slots Q σ pc L (.int x :: st)) :=
  fun hX H locs ls hl hP hS => lv_tableOut C.1 C.2.1 hdg h ht (k hX H locs ls hl hP hS)
end GR
/-- a method's start: the world's picture, and what the tables say -/
def gPre (D : va_G) (cI cJ : ClassId) (ad : Nat → Nat) (σ : gSt) (sz : Nat) (U : State) : Prop :=
  U.heap.size = sz ∧ va_P D vwCl (gw cI cJ ad σ) U.heap ∧ va_K D vwCl [(cI, .int), (cJ, .long)] U ∧ gInj ad ∧ gB U ∧ gZ (gA ad sz) U U.heap
theorem gPre_blind {D : va_G} {cI cJ : ClassId} {ad : Nat → Nat} {σ : gSt} {sz : Nat} {av : List Value} : FrameBlind (va_Pc av (gPre D cI cJ ad σ sz)) := by
  intro a U g mk q
  obtain ⟨q0, q1, qP, qK, qi, qB, qZ⟩ := q
  exact ⟨q0, q1, qP, va_K.moved (u := U) (U := U.calling g mk a) (Vm.Alike.refl U.vm) qK, qi, gB_warm (s := U) (U := U.calling g mk a) (State.WarmedH.refl U) qB, gZ_moved (u := U) (U := U.calling g mk a) (Vm.Alike.refl U.vm) qZ⟩
section GK
variable {p : Program} {l : Launch} {e : Env} {R : Room} {s : State} {m : MethodId} {args : Array Value} {below : List Frame} {meth : Method} {c : Code} {D : va_G} {cI cJ : ClassId} {ad : Nat → Nat} {A : Nat → Prop} {cc : ByteArray} {nL : Nat} {own : String} {cells slots : Nat} {Q : State → Prop} {σ : gSt} {pc : Nat} {L L' : List (Nat × Value)} {st : List Value}
variable {ρ : Type} {X X1 X2 : Option ρ} {res : ρ}
theorem gPre_at (C : gC p s m args meth c D cI cJ ad A cc nL own) {H : Heap} {locs : List Loc} (hP : va_P D vwCl (gw cI cJ ad σ) H) (hS : va_S A s.heap H locs) {U : State} (hU : U.heap = H) (hW : s.WarmedH U.vm) : gPre D cI cJ ad σ H.size U := by
  obtain ⟨hx, hb, hml, hown, hts, hK, hA, hA2, hi, hB, hZ, hlk⟩ := C
  refine ⟨by rw [hU], by rw [hU]; exact hP, va_K.moved hW.alike hK, hi, gB_warm hW hB, ?_⟩
  rw [hU]
  refine gZ_moved hW.alike (gZ_narrow (gZ_kept hZ hS.2.1) (fun q hq => ?_))
  rcases hq with ⟨k, hk, rfl⟩ | hq
  · exact hA2 k hk
  · exact hA q (Nat.le_trans hS.1 hq)
theorem gA_sub (C : gC p s m args meth c D cI cJ ad A cc nL own) {H : Heap} {locs : List Loc} (hS : va_S A s.heap H locs) : ∀ q, gA ad H.size q → A q := by
  intro q hq
  rcases hq with ⟨k, hk, rfl⟩ | hq
  · exact C.2.2.2.2.2.2.2.1 k hk
  · exact C.2.2.2.2.2.2.1 q (Nat.le_trans hS.1 hq)
/-- contracts: an int (or boolean) comes back; nothing; a thing of the world -/
def gMi (l : Launch) (D : va_G) (cI cJ : ClassId) (ad : Nat → Nat) (y : MethodName) (yb : ByteArray) (yn : Nat) (yret : Option FieldType) (rm : Room) (av : List Value) (F : gSt → Option (Int32 × gSt)) : Prop :=
  ∀ (σ : gSt) (r : Int32) (σ' : gSt) (sz : Nat), F σ = some (r, σ') → Met l y (.code y yb yn yret :: gT) rm (va_Pc av (gPre D cI cJ ad σ sz)) (va_Qi (fun r1 (_ : Unit) => r1 = r) (fun _ t => va_P D vwCl (gw cI cJ ad σ') t.heap) (gA ad sz)) 0 0 (gA ad sz)
def gMv (l : Launch) (D : va_G) (cI cJ : ClassId) (ad : Nat → Nat) (y : MethodName) (yb : ByteArray) (yn : Nat) (yret : Option FieldType) (rm : Room) (av : List Value) (F : gSt → Option gSt) : Prop :=
  ∀ (σ : gSt) (σ' : gSt) (sz : Nat), F σ = some σ' → Met l y (.code y yb yn yret :: gT) rm (va_Pc av (gPre D cI cJ ad σ sz)) (va_Qv (fun (_ : Unit) => True) (fun _ t => va_P D vwCl (gw cI cJ ad σ') t.heap) (gA ad sz)) 0 0 (gA ad sz)
def gMr (l : Launch) (D : va_G) (cI cJ : ClassId) (ad : Nat → Nat) (y : MethodName) (yb : ByteArray) (yn : Nat) (yret : Option FieldType) (rm : Room) (av : List Value) (F : gSt → Option (Nat × gSt)) : Prop :=
  ∀ (σ : gSt) (o : Nat) (σ' : gSt) (sz : Nat), F σ = some (o, σ') → Met l y (.code y yb yn yret :: gT) rm (va_Pc av (gPre D cI cJ ad σ sz)) (va_Qr (fun (_ : Unit) => True) (fun _ a t => a = ad o ∧ va_P D vwCl (gw cI cJ ad σ') t.heap) (gA ad sz)) 0 0 (gA ad sz)
theorem gGood {Ts : List Cond} {y : MethodName} {yb : ByteArray} {yn : Nat} {yret : Option FieldType} (hsub : ∀ w ∈ gT, w ∈ Ts) (h : Cond.code y yb yn yret ∈ gT) : GoodIn Ts (.code y yb yn yret :: gT) := by
  intro w hw
  have hw2 : w ∈ gT := by
    rcases List.mem_cons.mp hw with rfl | h1
    · exact h
    · exact h1
  exact ⟨hsub w hw2, good_of_word (gT_good hw2)⟩
/-- a virtual call's words; a static one's; a static one's into another class; a nest mate's static -/
def gWv (own : String) (idx : Nat) (CN : String) (y : MethodName) (yb : ByteArray) (yn : Nat) (yret : Option FieldType) (n : Nat) : Prop :=
  Cond.methodLink own idx y ∈ gT ∧ Cond.instanceMethod y ∈ gT ∧ Cond.selects CN y y ∈ gT ∧ Cond.initialized CN ∈ gT ∧ Cond.code y yb yn yret ∈ gT ∧ (y.cls = CN ∧ y.cls ≠ "java/lang/invoke/MethodHandle" ∧ y.cls ≠ "java/lang/invoke/VarHandle" ∧ (parseMethodDescriptor y.desc).map (fun d => d.parameters.length) = some n)
def gWs (own : String) (idx : Nat) (y : MethodName) (yb : ByteArray) (yn : Nat) (yret : Option FieldType) (n : Nat) : Prop :=
  Cond.methodLink own idx y ∈ gT ∧ Cond.static y ∈ gT ∧ Cond.initialized y.cls ∈ gT ∧ Cond.code y yb yn yret ∈ gT ∧ (y.cls ≠ "java/lang/invoke/MethodHandle" ∧ y.cls ≠ "java/lang/invoke/VarHandle" ∧ (parseMethodDescriptor y.desc).map (fun d => d.parameters.length) = some n)
def gWn (own : String) (idx : Nat) (host : String) (y : MethodName) (yb : ByteArray) (yn : Nat) (yret : Option FieldType) (n : Nat) : Prop :=
  Cond.methodLinkNest own idx y host ∈ gNest ∧ Cond.static y ∈ gT ∧ Cond.initialized y.cls ∈ gT ∧ Cond.code y yb yn yret ∈ gT ∧ (y.cls ≠ "java/lang/invoke/MethodHandle" ∧ y.cls ≠ "java/lang/invoke/VarHandle" ∧ (parseMethodDescriptor y.desc).map (fun d => d.parameters.length) = some n)
theorem gRunV (C : gC p s m args meth c D cI cJ ad A cc nL own) {idx c0 o n : Nat} {CN : String} {T : u_T} {y : MethodName} {yb : ByteArray} {yn : Nat} {yret : Option FieldType} {rm : Room} {As : List Value} {Qc : Array Value → State → Outcome → State → Prop} {free : Addr → Prop} {H : Heap} {locs : List Loc} {ls : Array Slot} {stk : List Value}
    (hM : Met l y (.code y yb yn yret :: gT) rm (va_Pc (.ref (ad o) :: As) (gPre D cI cJ ad σ H.size)) Qc 0 0 free) (hrm : rm.cells = 0 ∧ rm.slots = 0) (hcl : gCl c0 CN T) (ho : gKd o = c0) (hw : gWv own idx CN y yb yn yret n) (hR : rm.frames + 1 ≤ R.frames ∧ 8 + (yn + 11) + rm.locals ≤ R.locals) (hn : As.length = n)
    (hl : lv_has ls nL L) (hP : va_P D vwCl (gw cI cJ ad σ) H) (hS : va_S A s.heap H locs) (hstk : stk = As.reverse ++ .ref (ad o) :: st) (hcat : (st.map fun v => v.category).sum ≤ 8) (hdg : decode cc pc = .ok (.invokevirtual idx, 3)) (hf : cells ≤ R.cells ∧ slots ≤ R.slots) :
    va_Run p l e R s m args below meth c H locs cells slots 0 0 (F0 m pc ls stk) st (Qc (Value.ref (ad o) :: As).toArray) free := by
  obtain ⟨w1, w2, w3, w4, w5, w6⟩ := hw
  have hts := C.2.2.2.2.1
  have cw : CallW R s args own CN idx y yb yn yret (.code y yb yn yret :: gT) rm 0 0 n :=
    ⟨callB_of n hts (gGood (fun _ h => h) w5) rfl hrm.1 hrm.2 (by rw [w6.1]; exact hts _ w4) (hts _ w1) w6.2 hR, hts _ w2, hts _ w3⟩
  exact va_runV ⟨C.1, C.2.1, C.2.2.1, C.2.2.2.1, hts⟩ hM cw ⟨gPre_blind, va_recv (q := (CN, T, gNf c0)) C.2.2.2.2.2.1 hP hcl.2.1 (gw_obj ho hcl.2.2), fun U hU hW => ⟨rfl, gPre_at C hP hS hU hW⟩⟩ rfl hn hl.1 hstk (lv_room hcat) hdg hf
theorem gRunS (C : gC p s m args meth c D cI cJ ad A cc nL own) {idx n : Nat} {y : MethodName} {yb : ByteArray} {yn : Nat} {yret : Option FieldType} {rm : Room} {As : List Value} {Qc : Array Value → State → Outcome → State → Prop} {free : Addr → Prop} {H : Heap} {locs : List Loc} {ls : Array Slot} {stk : List Value}
    (hM : Met l y (.code y yb yn yret :: gT) rm (va_Pc As (gPre D cI cJ ad σ H.size)) Qc 0 0 free) (hrm : rm.cells = 0 ∧ rm.slots = 0) (hw : gWs own idx y yb yn yret n) (hR : rm.frames + 1 ≤ R.frames ∧ 8 + (yn + 11) + rm.locals ≤ R.locals) (hn : As.length = n)
    (hl : lv_has ls nL L) (hP : va_P D vwCl (gw cI cJ ad σ) H) (hS : va_S A s.heap H locs) (hstk : stk = As.reverse ++ st) (hcat : (st.map fun v => v.category).sum ≤ 8) (hdg : decode cc pc = .ok (.invokestatic idx, 3)) (hf : cells ≤ R.cells ∧ slots ≤ R.slots) :
    va_Run p l e R s m args below meth c H locs cells slots 0 0 (F0 m pc ls stk) st (Qc As.toArray) free := by
  obtain ⟨w1, w2, w3, w4, w6⟩ := hw
  have hts := C.2.2.2.2.1
  exact va_runS ⟨C.1, C.2.1, C.2.2.1, C.2.2.2.1, hts⟩ hM ⟨callB_of n hts (gGood (fun _ h => h) w4) rfl hrm.1 hrm.2 (hts _ w3) (hts _ w1) w6 hR, hts _ w2⟩ ⟨gPre_blind, fun U hU hW => ⟨rfl, gPre_at C hP hS hU hW⟩⟩ rfl hn hl.1 hstk (lv_room hcat) hdg hf
theorem gRunN (C : gC p s m args meth c D cI cJ ad A cc nL own) {idx n : Nat} {host : String} {y : MethodName} {yb : ByteArray} {yn : Nat} {yret : Option FieldType} {rm : Room} {As : List Value} {Qc : Array Value → State → Outcome → State → Prop} {free : Addr → Prop} {H : Heap} {locs : List Loc} {ls : Array Slot} {stk : List Value}
    (hM : Met l y (.code y yb yn yret :: gT) rm (va_Pc As (gPre D cI cJ ad σ H.size)) Qc 0 0 free) (hrm : rm.cells = 0 ∧ rm.slots = 0) (hw : gWn own idx host y yb yn yret n) (hR : rm.frames + 1 ≤ R.frames ∧ 8 + (yn + 11) + rm.locals ≤ R.locals) (hn : As.length = n)
    (hl : lv_has ls nL L) (hP : va_P D vwCl (gw cI cJ ad σ) H) (hS : va_S A s.heap H locs) (hstk : stk = As.reverse ++ st) (hcat : (st.map fun v => v.category).sum ≤ 8) (hdg : decode cc pc = .ok (.invokestatic idx, 3)) (hf : cells ≤ R.cells ∧ slots ≤ R.slots) :
    va_Run p l e R s m args below meth c H locs cells slots 0 0 (F0 m pc ls stk) st (Qc As.toArray) free := by
  obtain ⟨w1, w2, w3, w4, w6⟩ := hw
  have hts := C.2.2.2.2.1
  exact va_runSN (host := host) ⟨C.1, C.2.1, C.2.2.1, C.2.2.2.1, hts⟩ hM ⟨va_cnB (host := host) n hts (gGood (fun _ h => h) w4) rfl hrm.1 hrm.2 (gB_nest C.2.2.2.2.2.2.2.2.2.1 w1) (hts _ w3) w6 hR, hts _ w2, trivial⟩ ⟨gPre_blind, fun U hU hW => ⟨rfl, gPre_at C hP hS hU hW⟩⟩ rfl hn hl.1 hstk (lv_room hcat) hdg hf
/-- behind a call -/
theorem gConI (C : gC p s m args meth c D cI cJ ad A cc nL own) {H : Heap} {locs : List Loc} {ls : Array Slot} {stk : List Value} {r : Int32} {σ' : gSt} {a : Array Value} (hl : lv_has ls nL L) (hS : va_S A s.heap H locs)
    (hr : va_Run p l e R s m args below meth c H locs cells slots 0 0 (F0 m pc ls stk) st (va_Qi (fun r1 (_ : Unit) => r1 = r) (fun _ t => va_P D vwCl (gw cI cJ ad σ') t.heap) (gA ad H.size) a) (gA ad H.size))
    (k : gG p l e R s m args below meth c D cI cJ ad A nL cells slots Q σ' (pc + 3) L (.int r :: st)) : W p l e R s m args below meth c H locs cells slots Q (F0 m pc ls stk) := by
  refine va_calli hr hS (fun q _ h => gA_sub C hS q h) (gA_sub C hS) (fun r1 u t H1 locs1 ht hvm hw hB hz hk hS1 => ?_)
  subst hw
  rw [ht] at hB
  exact k H1 locs1 ls hl hB hS1
theorem gConV (C : gC p s m args meth c D cI cJ ad A cc nL own) {H : Heap} {locs : List Loc} {ls : Array Slot} {stk : List Value} {σ' : gSt} {a : Array Value} (hl : lv_has ls nL L) (hS : va_S A s.heap H locs)
    (hr : va_Run p l e R s m args below meth c H locs cells slots 0 0 (F0 m pc ls stk) st (va_Qv (fun (_ : Unit) => True) (fun _ t => va_P D vwCl (gw cI cJ ad σ') t.heap) (gA ad H.size) a) (gA ad H.size))
    (k : gG p l e R s m args below meth c D cI cJ ad A nL cells slots Q σ' (pc + 3) L st) : W p l e R s m args below meth c H locs cells slots Q (F0 m pc ls stk) := by
  refine va_callv hr hS (fun q _ h => gA_sub C hS q h) (gA_sub C hS) (fun u t H1 locs1 ht hvm hw hB hz hk hS1 => ?_)
  rw [ht] at hB
  exact k H1 locs1 ls hl hB hS1
theorem gConR (C : gC p s m args meth c D cI cJ ad A cc nL own) {H : Heap} {locs : List Loc} {ls : Array Slot} {stk : List Value} {o : Nat} {σ' : gSt} {a : Array Value} (hl : lv_has ls nL L) (hS : va_S A s.heap H locs)
    (hr : va_Run p l e R s m args below meth c H locs cells slots 0 0 (F0 m pc ls stk) st (va_Qr (fun (_ : Unit) => True) (fun _ a t => a = ad o ∧ va_P D vwCl (gw cI cJ ad σ') t.heap) (gA ad H.size) a) (gA ad H.size))
    (k : gG p l e R s m args below meth c D cI cJ ad A nL cells slots Q σ' (pc + 3) L (.ref (ad o) :: st)) : W p l e R s m args below meth c H locs cells slots Q (F0 m pc ls stk) := by
  refine va_callr hr hS (fun q _ h => gA_sub C hS q h) (gA_sub C hS) (fun u ra t H1 locs1 ht hvm hw hB hz hk hS1 => ?_)
  obtain ⟨rfl, hB⟩ := hB
  rw [ht] at hB
  exact k H1 locs1 ls hl hB hS1
def gbi {ρ : Type} (X0 : Option (Int32 × gSt)) (K : Int32 → gSt → Option ρ) : Option ρ := match X0 with
  | none => none
  | some q => K q.1 q.2
def gbv {ρ : Type} (X0 : Option gSt) (K : gSt → Option ρ) : Option ρ := match X0 with
  | none => none
  | some q => K q
def gbr {ρ : Type} (X0 : Option (Nat × gSt)) (K : Nat → gSt → Option ρ) : Option ρ := match X0 with
  | none => none
  | some q => K q.1 q.2
theorem g_callvi (C : gC p s m args meth c D cI cJ ad A cc nL own) {idx c0 o n : Nat} {CN : String} {T : u_T} {y : MethodName} {yb : ByteArray} {yn : Nat} {yret : Option FieldType} {rm : Room} {As : List Value} {F : gSt → Option (Int32 × gSt)} {K : Int32 → gSt → Option ρ} {stk : List Value}
    (hM : gMi l D cI cJ ad y yb yn yret rm (.ref (ad o) :: As) F) (hrm : rm.cells = 0 ∧ rm.slots = 0) (hcl : gCl c0 CN T) (ho : gKd o = c0) (hw : gWv own idx CN y yb yn yret n) (hR : rm.frames + 1 ≤ R.frames ∧ 8 + (yn + 11) + rm.locals ≤ R.locals) (hn : As.length = n) (hstk : stk = As.reverse ++ .ref (ad o) :: st) (hcat : (st.map fun v => v.category).sum ≤ 8) (hdg : decode cc pc = .ok (.invokevirtual idx, 3)) (hf : cells ≤ R.cells ∧ slots ≤ R.slots)
    (k : ∀ (r : Int32) (σ' : gSt), gX (K r σ') res (gG p l e R s m args below meth c D cI cJ ad A nL cells slots Q σ' (pc + 3) L (.int r :: st))) : gX (gbi (F σ) K) res (gG p l e R s m args below meth c D cI cJ ad A nL cells slots Q σ pc L stk) := by
  intro hX
  cases hF : F σ with
  | none => rw [hF] at hX; cases hX
  | some q =>
    rw [hF] at hX
    obtain ⟨r, σ'⟩ := q
    intro H locs ls hl hP hS
    exact gConI C hl hS (gRunV C (hM _ _ _ _ hF) hrm hcl ho hw hR hn hl hP hS hstk hcat hdg hf) (k r σ' hX)
theorem g_callvv (C : gC p s m args meth c D cI cJ ad A cc nL own) {idx c0 o n : Nat} {CN : String} {T : u_T} {y : MethodName} {yb : ByteArray} {yn : Nat} {yret : Option FieldType} {rm : Room} {As : List Value} {F : gSt → Option gSt} {K : gSt → Option ρ} {stk : List Value}
    (hM : gMv l D cI cJ ad y yb yn yret rm (.ref (ad o) :: As) F) (hrm : rm.cells = 0 ∧ rm.slots = 0) (hcl : gCl c0 CN T) (ho : gKd o = c0) (hw : gWv own idx CN y yb yn yret n) (hR : rm.frames + 1 ≤ R.frames ∧ 8 + (yn + 11) + rm.locals ≤ R.locals) (hn : As.length = n) (hstk : stk = As.reverse ++ .ref (ad o) :: st) (hcat : (st.map fun v => v.category).sum ≤ 8) (hdg : decode cc pc = .ok (.invokevirtual idx, 3)) (hf : cells ≤ R.cells ∧ slots ≤ R.slots)
    (k : ∀ σ' : gSt, gX (K σ') res (gG p l e R s m args below meth c D cI cJ ad A nL cells slots Q σ' (pc + 3) L (st))) : gX (gbv (F σ) K) res (gG p l e R s m args below meth c D cI cJ ad A nL cells slots Q σ pc L stk) := by
  intro hX
  cases hF : F σ with
  | none => rw [hF] at hX; cases hX
  | some σ' =>
    rw [hF] at hX
    intro H locs ls hl hP hS
    exact gConV C hl hS (gRunV C (hM _ _ _ hF) hrm hcl ho hw hR hn hl hP hS hstk hcat hdg hf) (k σ' hX)
theorem g_callvr (C : gC p s m args meth c D cI cJ ad A cc nL own) {idx c0 o n : Nat} {CN : String} {T : u_T} {y : MethodName} {yb : ByteArray} {yn : Nat} {yret : Option FieldType} {rm : Room} {As : List Value} {F : gSt → Option (Nat × gSt)} {K : Nat → gSt → Option ρ} {stk : List Value}
    (hM : gMr l D cI cJ ad y yb yn yret rm (.ref (ad o) :: As) F) (hrm : rm.cells = 0 ∧ rm.slots = 0) (hcl : gCl c0 CN T) (ho : gKd o = c0) (hw : gWv own idx CN y yb yn yret n) (hR : rm.frames + 1 ≤ R.frames ∧ 8 + (yn + 11) + rm.locals ≤ R.locals) (hn : As.length = n) (hstk : stk = As.reverse ++ .ref (ad o) :: st) (hcat : (st.map fun v => v.category).sum ≤ 8) (hdg : decode cc pc = .ok (.invokevirtual idx, 3)) (hf : cells ≤ R.cells ∧ slots ≤ R.slots)
    (k : ∀ (o1 : Nat) (σ' : gSt), F σ = some (o1, σ') → gX (K o1 σ') res (gG p l e R s m args below meth c D cI cJ ad A nL cells slots Q σ' (pc + 3) L (.ref (ad o1) :: st))) : gX (gbr (F σ) K) res (gG p l e R s m args below meth c D cI cJ ad A nL cells slots Q σ pc L stk) := by
  intro hX
  cases hF : F σ with
  | none => rw [hF] at hX; cases hX
  | some q =>
    rw [hF] at hX
    obtain ⟨o1, σ'⟩ := q
    intro H locs ls hl hP hS
    exact gConR C hl hS (gRunV C (hM _ _ _ _ hF) hrm hcl ho hw hR hn hl hP hS hstk hcat hdg hf) (k o1 σ' hF hX)
theorem g_callsi (C : gC p s m args meth c D cI cJ ad A cc nL own) {idx n : Nat} {y : MethodName} {yb : ByteArray} {yn : Nat} {yret : Option FieldType} {rm : Room} {As : List Value} {F : gSt → Option (Int32 × gSt)} {K : Int32 → gSt → Option ρ} {stk : List Value}
    (hM : gMi l D cI cJ ad y yb yn yret rm As F) (hrm : rm.cells = 0 ∧ rm.slots = 0) (hw : gWs own idx y yb yn yret n) (hR : rm.frames + 1 ≤ R.frames ∧ 8 + (yn + 11) + rm.locals ≤ R.locals) (hn : As.length = n) (hstk : stk = As.reverse ++ st) (hcat : (st.map fun v => v.category).sum ≤ 8) (hdg : decode cc pc = .ok (.invokestatic idx, 3)) (hf : cells ≤ R.cells ∧ slots ≤ R.slots)
    (k : ∀ (r : Int32) (σ' : gSt), gX (K r σ') res (gG p l e R s m args below meth c D cI cJ ad A nL cells slots Q σ' (pc + 3) L (.int r :: st))) : gX (gbi (F σ) K) res (gG p l e R s m args below meth c D cI cJ ad A nL cells slots Q σ pc L stk) := by
  intro hX
  cases hF : F σ with
  | none => rw [hF] at hX; cases hX
  | some q =>
    rw [hF] at hX
    obtain ⟨r, σ'⟩ := q
    intro H locs ls hl hP hS
    exact gConI C hl hS (gRunS C (hM _ _ _ _ hF) hrm hw hR hn hl hP hS hstk hcat hdg hf) (k r σ' hX)
theorem g_callsv (C : gC p s m args meth c D cI cJ ad A cc nL own) {idx n : Nat} {y : MethodName} {yb : ByteArray} {yn : Nat} {yret : Option FieldType} {rm : Room} {As : List Value} {F : gSt → Option gSt} {K : gSt → Option ρ} {stk : List Value}
    (hM : gMv l D cI cJ ad y yb yn yret rm As F) (hrm : rm.cells = 0 ∧ rm.slots = 0) (hw : gWs own idx y yb yn yret n) (hR : rm.frames + 1 ≤ R.frames ∧ 8 + (yn + 11) + rm.locals ≤ R.locals) (hn : As.length = n) (hstk : stk = As.reverse ++ st) (hcat : (st.map fun v => v.category).sum ≤ 8) (hdg : decode cc pc = .ok (.invokestatic idx, 3)) (hf : cells ≤ R.cells ∧ slots ≤ R.slots)
    (k : ∀ σ' : gSt, gX (K σ') res (gG p l e R s m args below meth c D cI cJ ad A nL cells slots Q σ' (pc + 3) L (st))) : gX (gbv (F σ) K) res (gG p l e R s m args below meth c D cI cJ ad A nL cells slots Q σ pc L stk) := by
  intro hX
  cases hF : F σ with
  | none => rw [hF] at hX; cases hX
  | some σ' =>
    rw [hF] at hX
    intro H locs ls hl hP hS
    exact gConV C hl hS (gRunS C (hM _ _ _ hF) hrm hw hR hn hl hP hS hstk hcat hdg hf) (k σ' hX)
theorem g_callni (C : gC p s m args meth c D cI cJ ad A cc nL own) {idx n : Nat} {host : String} {y : MethodName} {yb : ByteArray} {yn : Nat} {yret : Option FieldType} {rm : Room} {As : List Value} {F : gSt → Option (Int32 × gSt)} {K : Int32 → gSt → Option ρ} {stk : List Value}
    (hM : gMi l D cI cJ ad y yb yn yret rm As F) (hrm : rm.cells = 0 ∧ rm.slots = 0) (hw : gWn own idx host y yb yn yret n) (hR : rm.frames + 1 ≤ R.frames ∧ 8 + (yn + 11) + rm.locals ≤ R.locals) (hn : As.length = n) (hstk : stk = As.reverse ++ st) (hcat : (st.map fun v => v.category).sum ≤ 8) (hdg : decode cc pc = .ok (.invokestatic idx, 3)) (hf : cells ≤ R.cells ∧ slots ≤ R.slots)
    (k : ∀ (r : Int32) (σ' : gSt), gX (K r σ') res (gG p l e R s m args below meth c D cI cJ ad A nL cells slots Q σ' (pc + 3) L (.int r :: st))) : gX (gbi (F σ) K) res (gG p l e R s m args below meth c D cI cJ ad A nL cells slots Q σ pc L stk) := by
  intro hX
  cases hF : F σ with
  | none => rw [hF] at hX; cases hX
  | some q =>
    rw [hF] at hX
    obtain ⟨r, σ'⟩ := q
    intro H locs ls hl hP hS
    exact gConI C hl hS (gRunN C (hM _ _ _ _ hF) hrm hw hR hn hl hP hS hstk hcat hdg hf) (k r σ' hX)
theorem g_callnv (C : gC p s m args meth c D cI cJ ad A cc nL own) {idx n : Nat} {host : String} {y : MethodName} {yb : ByteArray} {yn : Nat} {yret : Option FieldType} {rm : Room} {As : List Value} {F : gSt → Option gSt} {K : gSt → Option ρ} {stk : List Value}
    (hM : gMv l D cI cJ ad y yb yn yret rm As F) (hrm : rm.cells = 0 ∧ rm.slots = 0) (hw : gWn own idx host y yb yn yret n) (hR : rm.frames + 1 ≤ R.frames ∧ 8 + (yn + 11) + rm.locals ≤ R.locals) (hn : As.length = n) (hstk : stk = As.reverse ++ st) (hcat : (st.map fun v => v.category).sum ≤ 8) (hdg : decode cc pc = .ok (.invokestatic idx, 3)) (hf : cells ≤ R.cells ∧ slots ≤ R.slots)
    (k : ∀ σ' : gSt, gX (K σ') res (gG p l e R s m args below meth c D cI cJ ad A nL cells slots Q σ' (pc + 3) L (st))) : gX (gbv (F σ) K) res (gG p l e R s m args below meth c D cI cJ ad A nL cells slots Q σ pc L stk) := by
  intro hX
  cases hF : F σ with
  | none => rw [hF] at hX; cases hX
  | some σ' =>
    rw [hF] at hX
    intro H locs ls hl hP hS
    exact gConV C hl hS (gRunN C (hM _ _ _ hF) hrm hw hR hn hl hP hS hstk hcat hdg hf) (k σ' hX)
theorem g_ireti (C : gC p s m args meth c D cI cJ ad A cc nL own) {v r : Int32} {σ' : gSt} (hr : meth.sig.returnType = some .int) (hdg : decode cc pc = .ok (.ireturn, 1)) : gX (some (v, σ)) (r, σ') (gG p l e R s m args below meth c D cI cJ ad A nL 0 0 (MQ below (va_Qi (fun r1 (_ : Unit) => r1 = r) (fun _ t => va_P D vwCl (gw cI cJ ad σ') t.heap) A) args s 0 0 A) σ pc L [.int v]) := by
  intro hX H locs ls hl hP hS
  cases hX
  have hlk : meth.locks = false := C.2.2.2.2.2.2.2.2.2.2.2
  exact W.iret C.1 C.2.1 hr (fun t ht hW => ⟨⟨v, (), rfl, rfl, by show va_P D vwCl _ t.heap; rw [ht]; exact hP⟩, hS.F ht⟩) hS.2.2 hdg hlk
theorem g_iretz (C : gC p s m args meth c D cI cJ ad A cc nL own) {v r : Int32} {σ' : gSt} (hv : v = 0 ∨ v = 1) (hr : meth.sig.returnType = some .boolean) (hdg : decode cc pc = .ok (.ireturn, 1)) : gX (some (v, σ)) (r, σ') (gG p l e R s m args below meth c D cI cJ ad A nL 0 0 (MQ below (va_Qi (fun r1 (_ : Unit) => r1 = r) (fun _ t => va_P D vwCl (gw cI cJ ad σ') t.heap) A) args s 0 0 A) σ pc L [.int v]) := by
  intro hX H locs ls hl hP hS
  cases hX
  have hlk : meth.locks = false := C.2.2.2.2.2.2.2.2.2.2.2
  exact W.zret C.1 C.2.1 hr (gz_n hv) (fun t ht hW => ⟨⟨v, (), rfl, rfl, by show va_P D vwCl _ t.heap; rw [ht]; exact hP⟩, hS.F ht⟩) hS.2.2 hdg hlk
theorem g_retv (C : gC p s m args meth c D cI cJ ad A cc nL own) {σ' : gSt} (hr : meth.sig.returnType = none) (hdg : decode cc pc = .ok (.return_, 1)) : gX (some σ) σ' (gG p l e R s m args below meth c D cI cJ ad A nL 0 0 (MQ below (va_Qv (fun (_ : Unit) => True) (fun _ t => va_P D vwCl (gw cI cJ ad σ') t.heap) A) args s 0 0 A) σ pc L []) := by
  intro hX H locs ls hl hP hS
  cases hX
  have hlk : meth.locks = false := C.2.2.2.2.2.2.2.2.2.2.2
  exact W.vret C.1 C.2.1 hr (fun t ht hW => ⟨⟨(), rfl, trivial, by show va_P D vwCl _ t.heap; rw [ht]; exact hP⟩, hS.F ht⟩) hS.2.2 hdg hlk
theorem g_areto (C : gC p s m args meth c D cI cJ ad A cc nL own) {o r : Nat} {σ' : gSt} {rt : FieldType} (hr : meth.sig.returnType = some rt) (hrt : (∃ n, rt = .object n) ∨ ∃ t, rt = .array t) (hdg : decode cc pc = .ok (.areturn, 1)) : gX (some (o, σ)) (r, σ') (gG p l e R s m args below meth c D cI cJ ad A nL 0 0 (MQ below (va_Qr (fun (_ : Unit) => True) (fun _ a t => a = ad r ∧ va_P D vwCl (gw cI cJ ad σ') t.heap) A) args s 0 0 A) σ pc L [.ref (ad o)]) := by
  intro hX H locs ls hl hP hS
  cases hX
  have hlk : meth.locks = false := C.2.2.2.2.2.2.2.2.2.2.2
  exact W.aret C.1 C.2.1 hr hrt (Or.inr ⟨_, rfl⟩) (fun t ht hW => ⟨⟨(), _, rfl, trivial, rfl, by show va_P D vwCl _ t.heap; rw [ht]; exact hP⟩, hS.F ht⟩) hS.2.2 hdg hlk
theorem gStartI {y : MethodName} {yb : ByteArray} {yn : Nat} {yret : Option FieldType} {rm : Room} {av : List Value} {F : gSt → Option (Int32 × gSt)} {L0 : List (Nat × Value)} (own : String) (hy : plainName y.cls = true) (hyc : y.cls = own) (hL0 : lv_args 0 av = L0) (hlen : (lg_sl av).length ≤ yn)
    (body : ∀ (p : Program) (e : Env) (s : State) (m : MethodId) (args : Array Value) (below : List Frame) (meth : Method) (c : Code) (sz : Nat) (σ : gSt) (r : Int32) (σ' : gSt), gC p s m args meth c D cI cJ ad (gA ad sz) yb yn own → meth.sig.returnType = yret →
      gX (F σ) (r, σ') (gG p l e rm s m args below meth c D cI cJ ad (gA ad sz) yn 0 0 (MQ below (va_Qi (fun r1 (_ : Unit) => r1 = r) (fun _ t => va_P D vwCl (gw cI cJ ad σ') t.heap) (gA ad sz)) args s 0 0 (gA ad sz)) σ 0 L0 [])) : gMi l D cI cJ ad y yb yn yret rm av F := by
  intro σ r σ' sz hF
  refine Met.ofW (cc := yb) (maxL := yn) (ret := yret) hy rfl ?_
  intro p e s m args below meth c s₁ B hml hv
  obtain ⟨rfl, hsz, hP, hK, hi, hB, hZ⟩ := hv
  have hts := atoms_spec (ws := .code y yb yn yret :: gT) B.pre
  have hown : s.vm.findClass own = some m.cls := by rw [← hyc]; exact findClass_of_methodNamed B.named
  have hl := lv_entry av (n := yn) hlen
  rw [lg_entry_eq]
  rw [hL0] at hl
  subst hsz
  exact body p e s m _ below meth c s.heap.size σ r σ' ⟨B.exec, B.bytes, hml, hown, fun w hw => hts w (List.mem_cons_of_mem _ hw), hK, fun q h => Or.inr h, fun k hk => Or.inl ⟨k, hk, rfl⟩, hi, hB, hZ, B.notSynchronized⟩ B.returns hF s.heap [] _ hl hP va_S.rf
theorem gStartV {y : MethodName} {yb : ByteArray} {yn : Nat} {yret : Option FieldType} {rm : Room} {av : List Value} {F : gSt → Option gSt} {L0 : List (Nat × Value)} (own : String) (hy : plainName y.cls = true) (hyc : y.cls = own) (hL0 : lv_args 0 av = L0) (hlen : (lg_sl av).length ≤ yn)
    (body : ∀ (p : Program) (e : Env) (s : State) (m : MethodId) (args : Array Value) (below : List Frame) (meth : Method) (c : Code) (sz : Nat) (σ : gSt) (σ' : gSt), gC p s m args meth c D cI cJ ad (gA ad sz) yb yn own → meth.sig.returnType = yret →
      gX (F σ) σ' (gG p l e rm s m args below meth c D cI cJ ad (gA ad sz) yn 0 0 (MQ below (va_Qv (fun (_ : Unit) => True) (fun _ t => va_P D vwCl (gw cI cJ ad σ') t.heap) (gA ad sz)) args s 0 0 (gA ad sz)) σ 0 L0 [])) : gMv l D cI cJ ad y yb yn yret rm av F := by
  intro σ σ' sz hF
  refine Met.ofW (cc := yb) (maxL := yn) (ret := yret) hy rfl ?_
  intro p e s m args below meth c s₁ B hml hv
  obtain ⟨rfl, hsz, hP, hK, hi, hB, hZ⟩ := hv
  have hts := atoms_spec (ws := .code y yb yn yret :: gT) B.pre
  have hown : s.vm.findClass own = some m.cls := by rw [← hyc]; exact findClass_of_methodNamed B.named
  have hl := lv_entry av (n := yn) hlen
  rw [lg_entry_eq]
  rw [hL0] at hl
  subst hsz
  exact body p e s m _ below meth c s.heap.size σ σ' ⟨B.exec, B.bytes, hml, hown, fun w hw => hts w (List.mem_cons_of_mem _ hw), hK, fun q h => Or.inr h, fun k hk => Or.inl ⟨k, hk, rfl⟩, hi, hB, hZ, B.notSynchronized⟩ B.returns hF s.heap [] _ hl hP va_S.rf
theorem gStartR {y : MethodName} {yb : ByteArray} {yn : Nat} {yret : Option FieldType} {rm : Room} {av : List Value} {F : gSt → Option (Nat × gSt)} {L0 : List (Nat × Value)} (own : String) (hy : plainName y.cls = true) (hyc : y.cls = own) (hL0 : lv_args 0 av = L0) (hlen : (lg_sl av).length ≤ yn)
    (body : ∀ (p : Program) (e : Env) (s : State) (m : MethodId) (args : Array Value) (below : List Frame) (meth : Method) (c : Code) (sz : Nat) (σ : gSt) (r : Nat) (σ' : gSt), gC p s m args meth c D cI cJ ad (gA ad sz) yb yn own → meth.sig.returnType = yret →
      gX (F σ) (r, σ') (gG p l e rm s m args below meth c D cI cJ ad (gA ad sz) yn 0 0 (MQ below (va_Qr (fun (_ : Unit) => True) (fun _ a t => a = ad r ∧ va_P D vwCl (gw cI cJ ad σ') t.heap) (gA ad sz)) args s 0 0 (gA ad sz)) σ 0 L0 [])) : gMr l D cI cJ ad y yb yn yret rm av F := by
  intro σ r σ' sz hF
  refine Met.ofW (cc := yb) (maxL := yn) (ret := yret) hy rfl ?_
  intro p e s m args below meth c s₁ B hml hv
  obtain ⟨rfl, hsz, hP, hK, hi, hB, hZ⟩ := hv
  have hts := atoms_spec (ws := .code y yb yn yret :: gT) B.pre
  have hown : s.vm.findClass own = some m.cls := by rw [← hyc]; exact findClass_of_methodNamed B.named
  have hl := lv_entry av (n := yn) hlen
  rw [lg_entry_eq]
  rw [hL0] at hl
  subst hsz
  exact body p e s m _ below meth c s.heap.size σ r σ' ⟨B.exec, B.bytes, hml, hown, fun w hw => hts w (List.mem_cons_of_mem _ hw), hK, fun q h => Or.inr h, fun k hk => Or.inl ⟨k, hk, rfl⟩, hi, hB, hZ, B.notSynchronized⟩ B.returns hF s.heap [] _ hl hP va_S.rf
end GK
end
section
theorem dX0_init_0 : decode cX0_init 0 = .ok (.aload_n 0, 1) := by decide +kernel
theorem dX0_init_1 : decode cX0_init 1 = .ok (.invokespecial 3, 3) := by decide +kernel
theorem dX0_init_4 : decode cX0_init 4 = .ok (.aload_n 0, 1) := by decide +kernel
theorem dX0_init_5 : decode cX0_init 5 = .ok (.new 9, 3) := by decide +kernel
theorem dX0_init_8 : decode cX0_init 8 = .ok (.dup, 1) := by decide +kernel
theorem dX0_init_9 : decode cX0_init 9 = .ok (.invokespecial 11, 3) := by decide +kernel
theorem dX0_init_12 : decode cX0_init 12 = .ok (.putfield 12, 3) := by decide +kernel
theorem dX0_init_15 : decode cX0_init 15 = .ok (.aload_n 0, 1) := by decide +kernel
theorem dX0_init_16 : decode cX0_init 16 = .ok (.new 9, 3) := by decide +kernel
theorem dX0_init_19 : decode cX0_init 19 = .ok (.dup, 1) := by decide +kernel
theorem dX0_init_20 : decode cX0_init 20 = .ok (.invokespecial 11, 3) := by decide +kernel
theorem dX0_init_23 : decode cX0_init 23 = .ok (.putfield 18, 3) := by decide +kernel
theorem dX0_init_26 : decode cX0_init 26 = .ok (.aload_n 0, 1) := by decide +kernel
theorem dX0_init_27 : decode cX0_init 27 = .ok (.iconst (-1), 1) := by decide +kernel
theorem dX0_init_28 : decode cX0_init 28 = .ok (.putfield 21, 3) := by decide +kernel
theorem dX0_init_31 : decode cX0_init 31 = .ok (.aload_n 0, 1) := by decide +kernel
theorem dX0_init_32 : decode cX0_init 32 = .ok (.iconst (-1), 1) := by decide +kernel
theorem dX0_init_33 : decode cX0_init 33 = .ok (.putfield 25, 3) := by decide +kernel
theorem dX0_init_36 : decode cX0_init 36 = .ok (.return_, 1) := by decide +kernel
theorem dX0_sideOf_0 : decode cX0_sideOf 0 = .ok (.iload_n 1, 1) := by decide +kernel
theorem dX0_sideOf_1 : decode cX0_sideOf 1 = .ok (.iconst 1, 1) := by decide +kernel
theorem dX0_sideOf_2 : decode cX0_sideOf 2 = .ok (.if_icmp .ne 10, 3) := by decide +kernel
theorem dX0_sideOf_5 : decode cX0_sideOf 5 = .ok (.aload_n 0, 1) := by decide +kernel
theorem dX0_sideOf_6 : decode cX0_sideOf 6 = .ok (.getfield 18, 3) := by decide +kernel
theorem dX0_sideOf_9 : decode cX0_sideOf 9 = .ok (.goto 7, 3) := by decide +kernel
theorem dX0_sideOf_12 : decode cX0_sideOf 12 = .ok (.aload_n 0, 1) := by decide +kernel
theorem dX0_sideOf_13 : decode cX0_sideOf 13 = .ok (.getfield 12, 3) := by decide +kernel
theorem dX0_sideOf_16 : decode cX0_sideOf 16 = .ok (.areturn, 1) := by decide +kernel
theorem dX0_isSetOn_0 : decode cX0_isSetOn 0 = .ok (.aload_n 0, 1) := by decide +kernel
theorem dX0_isSetOn_1 : decode cX0_isSetOn 1 = .ok (.getfield 21, 3) := by decide +kernel
theorem dX0_isSetOn_4 : decode cX0_isSetOn 4 = .ok (.iconst (-1), 1) := by decide +kernel
theorem dX0_isSetOn_5 : decode cX0_isSetOn 5 = .ok (.if_icmp .eq 7, 3) := by decide +kernel
theorem dX0_isSetOn_8 : decode cX0_isSetOn 8 = .ok (.iconst 1, 1) := by decide +kernel
theorem dX0_isSetOn_9 : decode cX0_isSetOn 9 = .ok (.goto 4, 3) := by decide +kernel
theorem dX0_isSetOn_12 : decode cX0_isSetOn 12 = .ok (.iconst 0, 1) := by decide +kernel
theorem dX0_isSetOn_13 : decode cX0_isSetOn 13 = .ok (.ireturn, 1) := by decide +kernel
theorem dX0_isMatchOver_0 : decode cX0_isMatchOver 0 = .ok (.aload_n 0, 1) := by decide +kernel
theorem dX0_isMatchOver_1 : decode cX0_isMatchOver 1 = .ok (.getfield 12, 3) := by decide +kernel
theorem dX0_isMatchOver_4 : decode cX0_isMatchOver 4 = .ok (.getfield 28, 3) := by decide +kernel
theorem dX0_isMatchOver_7 : decode cX0_isMatchOver 7 = .ok (.iconst 3, 1) := by decide +kernel
theorem dX0_isMatchOver_8 : decode cX0_isMatchOver 8 = .ok (.if_icmp .eq 14, 3) := by decide +kernel
theorem dX0_isMatchOver_11 : decode cX0_isMatchOver 11 = .ok (.aload_n 0, 1) := by decide +kernel
theorem dX0_isMatchOver_12 : decode cX0_isMatchOver 12 = .ok (.getfield 18, 3) := by decide +kernel
theorem dX0_isMatchOver_15 : decode cX0_isMatchOver 15 = .ok (.getfield 28, 3) := by decide +kernel
theorem dX0_isMatchOver_18 : decode cX0_isMatchOver 18 = .ok (.iconst 3, 1) := by decide +kernel
theorem dX0_isMatchOver_19 : decode cX0_isMatchOver 19 = .ok (.if_icmp .ne 7, 3) := by decide +kernel
theorem dX0_isMatchOver_22 : decode cX0_isMatchOver 22 = .ok (.iconst 1, 1) := by decide +kernel
theorem dX0_isMatchOver_23 : decode cX0_isMatchOver 23 = .ok (.goto 4, 3) := by decide +kernel
theorem dX0_isMatchOver_26 : decode cX0_isMatchOver 26 = .ok (.iconst 0, 1) := by decide +kernel
theorem dX0_isMatchOver_27 : decode cX0_isMatchOver 27 = .ok (.ireturn, 1) := by decide +kernel
theorem dX0_setsPlayed_0 : decode cX0_setsPlayed 0 = .ok (.aload_n 0, 1) := by decide +kernel
theorem dX0_setsPlayed_1 : decode cX0_setsPlayed 1 = .ok (.getfield 12, 3) := by decide +kernel
theorem dX0_setsPlayed_4 : decode cX0_setsPlayed 4 = .ok (.getfield 28, 3) := by decide +kernel
theorem dX0_setsPlayed_7 : decode cX0_setsPlayed 7 = .ok (.aload_n 0, 1) := by decide +kernel
theorem dX0_setsPlayed_8 : decode cX0_setsPlayed 8 = .ok (.getfield 18, 3) := by decide +kernel
theorem dX0_setsPlayed_11 : decode cX0_setsPlayed 11 = .ok (.getfield 28, 3) := by decide +kernel
theorem dX0_setsPlayed_14 : decode cX0_setsPlayed 14 = .ok (.iadd, 1) := by decide +kernel
theorem dX0_setsPlayed_15 : decode cX0_setsPlayed 15 = .ok (.ireturn, 1) := by decide +kernel
theorem dX0_startSet_0 : decode cX0_startSet 0 = .ok (.aload_n 0, 1) := by decide +kernel
theorem dX0_startSet_1 : decode cX0_startSet 1 = .ok (.getfield 12, 3) := by decide +kernel
theorem dX0_startSet_4 : decode cX0_startSet 4 = .ok (.invokevirtual 31, 3) := by decide +kernel
theorem dX0_startSet_7 : decode cX0_startSet 7 = .ok (.aload_n 0, 1) := by decide +kernel
theorem dX0_startSet_8 : decode cX0_startSet 8 = .ok (.getfield 18, 3) := by decide +kernel
theorem dX0_startSet_11 : decode cX0_startSet 11 = .ok (.invokevirtual 31, 3) := by decide +kernel
theorem dX0_startSet_14 : decode cX0_startSet 14 = .ok (.aload_n 0, 1) := by decide +kernel
theorem dX0_startSet_15 : decode cX0_startSet 15 = .ok (.iload_n 1, 1) := by decide +kernel
theorem dX0_startSet_16 : decode cX0_startSet 16 = .ok (.putfield 21, 3) := by decide +kernel
theorem dX0_startSet_19 : decode cX0_startSet 19 = .ok (.aload_n 0, 1) := by decide +kernel
theorem dX0_startSet_20 : decode cX0_startSet 20 = .ok (.iconst (-1), 1) := by decide +kernel
theorem dX0_startSet_21 : decode cX0_startSet 21 = .ok (.putfield 25, 3) := by decide +kernel
theorem dX0_startSet_24 : decode cX0_startSet 24 = .ok (.return_, 1) := by decide +kernel
theorem dX0_takeService_0 : decode cX0_takeService 0 = .ok (.aload_n 0, 1) := by decide +kernel
theorem dX0_takeService_1 : decode cX0_takeService 1 = .ok (.aload_n 0, 1) := by decide +kernel
theorem dX0_takeService_2 : decode cX0_takeService 2 = .ok (.getfield 21, 3) := by decide +kernel
theorem dX0_takeService_5 : decode cX0_takeService 5 = .ok (.invokevirtual 34, 3) := by decide +kernel
theorem dX0_takeService_8 : decode cX0_takeService 8 = .ok (.astore_n 2, 1) := by decide +kernel
theorem dX0_takeService_9 : decode cX0_takeService 9 = .ok (.aload_n 2, 1) := by decide +kernel
theorem dX0_takeService_10 : decode cX0_takeService 10 = .ok (.iconst 1, 1) := by decide +kernel
theorem dX0_takeService_11 : decode cX0_takeService 11 = .ok (.invokevirtual 38, 3) := by decide +kernel
theorem dX0_takeService_14 : decode cX0_takeService 14 = .ok (.iload_n 1, 1) := by decide +kernel
theorem dX0_takeService_15 : decode cX0_takeService 15 = .ok (.if_icmp .ne 7, 3) := by decide +kernel
theorem dX0_takeService_18 : decode cX0_takeService 18 = .ok (.iconst 1, 1) := by decide +kernel
theorem dX0_takeService_19 : decode cX0_takeService 19 = .ok (.goto 4, 3) := by decide +kernel
theorem dX0_takeService_22 : decode cX0_takeService 22 = .ok (.iconst 0, 1) := by decide +kernel
theorem dX0_takeService_23 : decode cX0_takeService 23 = .ok (.istore_n 3, 1) := by decide +kernel
theorem dX0_takeService_24 : decode cX0_takeService 24 = .ok (.iload_n 3, 1) := by decide +kernel
theorem dX0_takeService_25 : decode cX0_takeService 25 = .ok (.ifCond .ne 19, 3) := by decide +kernel
theorem dX0_takeService_28 : decode cX0_takeService 28 = .ok (.aload_n 0, 1) := by decide +kernel
theorem dX0_takeService_29 : decode cX0_takeService 29 = .ok (.getfield 25, 3) := by decide +kernel
theorem dX0_takeService_32 : decode cX0_takeService 32 = .ok (.iconst (-1), 1) := by decide +kernel
theorem dX0_takeService_33 : decode cX0_takeService 33 = .ok (.if_icmp .ne 11, 3) := by decide +kernel
theorem dX0_takeService_36 : decode cX0_takeService 36 = .ok (.aload_n 0, 1) := by decide +kernel
theorem dX0_takeService_37 : decode cX0_takeService 37 = .ok (.aload_n 2, 1) := by decide +kernel
theorem dX0_takeService_38 : decode cX0_takeService 38 = .ok (.getfield 42, 3) := by decide +kernel
theorem dX0_takeService_41 : decode cX0_takeService 41 = .ok (.putfield 25, 3) := by decide +kernel
theorem dX0_takeService_44 : decode cX0_takeService 44 = .ok (.aload_n 0, 1) := by decide +kernel
theorem dX0_takeService_45 : decode cX0_takeService 45 = .ok (.getfield 12, 3) := by decide +kernel
theorem dX0_takeService_48 : decode cX0_takeService 48 = .ok (.iconst 0, 1) := by decide +kernel
theorem dX0_takeService_49 : decode cX0_takeService 49 = .ok (.putfield 45, 3) := by decide +kernel
theorem dX0_takeService_52 : decode cX0_takeService 52 = .ok (.aload_n 0, 1) := by decide +kernel
theorem dX0_takeService_53 : decode cX0_takeService 53 = .ok (.getfield 18, 3) := by decide +kernel
theorem dX0_takeService_56 : decode cX0_takeService 56 = .ok (.iconst 0, 1) := by decide +kernel
theorem dX0_takeService_57 : decode cX0_takeService 57 = .ok (.putfield 45, 3) := by decide +kernel
theorem dX0_takeService_60 : decode cX0_takeService 60 = .ok (.iload_n 3, 1) := by decide +kernel
theorem dX0_takeService_61 : decode cX0_takeService 61 = .ok (.ireturn, 1) := by decide +kernel
theorem dX0_givePoint_0 : decode cX0_givePoint 0 = .ok (.aload_n 0, 1) := by decide +kernel
theorem dX0_givePoint_1 : decode cX0_givePoint 1 = .ok (.iload_n 1, 1) := by decide +kernel
theorem dX0_givePoint_2 : decode cX0_givePoint 2 = .ok (.invokevirtual 34, 3) := by decide +kernel
theorem dX0_givePoint_5 : decode cX0_givePoint 5 = .ok (.astore_n 2, 1) := by decide +kernel
theorem dX0_givePoint_6 : decode cX0_givePoint 6 = .ok (.aload_n 2, 1) := by decide +kernel
theorem dX0_givePoint_7 : decode cX0_givePoint 7 = .ok (.dup, 1) := by decide +kernel
theorem dX0_givePoint_8 : decode cX0_givePoint 8 = .ok (.getfield 42, 3) := by decide +kernel
theorem dX0_givePoint_11 : decode cX0_givePoint 11 = .ok (.iconst 1, 1) := by decide +kernel
theorem dX0_givePoint_12 : decode cX0_givePoint 12 = .ok (.iadd, 1) := by decide +kernel
theorem dX0_givePoint_13 : decode cX0_givePoint 13 = .ok (.putfield 42, 3) := by decide +kernel
theorem dX0_givePoint_16 : decode cX0_givePoint 16 = .ok (.aload_n 0, 1) := by decide +kernel
theorem dX0_givePoint_17 : decode cX0_givePoint 17 = .ok (.getfield 21, 3) := by decide +kernel
theorem dX0_givePoint_20 : decode cX0_givePoint 20 = .ok (.iload_n 1, 1) := by decide +kernel
theorem dX0_givePoint_21 : decode cX0_givePoint 21 = .ok (.if_icmp .eq 17, 3) := by decide +kernel
theorem dX0_givePoint_24 : decode cX0_givePoint 24 = .ok (.aload_n 0, 1) := by decide +kernel
theorem dX0_givePoint_25 : decode cX0_givePoint 25 = .ok (.iload_n 1, 1) := by decide +kernel
theorem dX0_givePoint_26 : decode cX0_givePoint 26 = .ok (.putfield 21, 3) := by decide +kernel
theorem dX0_givePoint_29 : decode cX0_givePoint 29 = .ok (.aload_n 0, 1) := by decide +kernel
theorem dX0_givePoint_30 : decode cX0_givePoint 30 = .ok (.iconst (-1), 1) := by decide +kernel
theorem dX0_givePoint_31 : decode cX0_givePoint 31 = .ok (.putfield 25, 3) := by decide +kernel
theorem dX0_givePoint_34 : decode cX0_givePoint 34 = .ok (.aload_n 2, 1) := by decide +kernel
theorem dX0_givePoint_35 : decode cX0_givePoint 35 = .ok (.invokevirtual 49, 3) := by decide +kernel
theorem dX0_givePoint_38 : decode cX0_givePoint 38 = .ok (.return_, 1) := by decide +kernel
theorem dX0_takeBack_0 : decode cX0_takeBack 0 = .ok (.aload_n 0, 1) := by decide +kernel
theorem dX0_takeBack_1 : decode cX0_takeBack 1 = .ok (.aload_n 0, 1) := by decide +kernel
theorem dX0_takeBack_2 : decode cX0_takeBack 2 = .ok (.getfield 21, 3) := by decide +kernel
theorem dX0_takeBack_5 : decode cX0_takeBack 5 = .ok (.invokevirtual 34, 3) := by decide +kernel
theorem dX0_takeBack_8 : decode cX0_takeBack 8 = .ok (.astore_n 1, 1) := by decide +kernel
theorem dX0_takeBack_9 : decode cX0_takeBack 9 = .ok (.aload_n 1, 1) := by decide +kernel
theorem dX0_takeBack_10 : decode cX0_takeBack 10 = .ok (.getfield 42, 3) := by decide +kernel
theorem dX0_takeBack_13 : decode cX0_takeBack 13 = .ok (.aload_n 0, 1) := by decide +kernel
theorem dX0_takeBack_14 : decode cX0_takeBack 14 = .ok (.getfield 25, 3) := by decide +kernel
theorem dX0_takeBack_17 : decode cX0_takeBack 17 = .ok (.isub, 1) := by decide +kernel
theorem dX0_takeBack_18 : decode cX0_takeBack 18 = .ok (.istore_n 2, 1) := by decide +kernel
theorem dX0_takeBack_19 : decode cX0_takeBack 19 = .ok (.aload_n 1, 1) := by decide +kernel
theorem dX0_takeBack_20 : decode cX0_takeBack 20 = .ok (.aload_n 0, 1) := by decide +kernel
theorem dX0_takeBack_21 : decode cX0_takeBack 21 = .ok (.getfield 25, 3) := by decide +kernel
theorem dX0_takeBack_24 : decode cX0_takeBack 24 = .ok (.putfield 42, 3) := by decide +kernel
theorem dX0_takeBack_27 : decode cX0_takeBack 27 = .ok (.aload_n 0, 1) := by decide +kernel
theorem dX0_takeBack_28 : decode cX0_takeBack 28 = .ok (.iconst 1, 1) := by decide +kernel
theorem dX0_takeBack_29 : decode cX0_takeBack 29 = .ok (.aload_n 0, 1) := by decide +kernel
theorem dX0_takeBack_30 : decode cX0_takeBack 30 = .ok (.getfield 21, 3) := by decide +kernel
theorem dX0_takeBack_33 : decode cX0_takeBack 33 = .ok (.isub, 1) := by decide +kernel
theorem dX0_takeBack_34 : decode cX0_takeBack 34 = .ok (.invokevirtual 52, 3) := by decide +kernel
theorem dX0_takeBack_37 : decode cX0_takeBack 37 = .ok (.iload_n 2, 1) := by decide +kernel
theorem dX0_takeBack_38 : decode cX0_takeBack 38 = .ok (.ireturn, 1) := by decide +kernel
theorem dX0_hasWonSet_0 : decode cX0_hasWonSet 0 = .ok (.aload_n 0, 1) := by decide +kernel
theorem dX0_hasWonSet_1 : decode cX0_hasWonSet 1 = .ok (.invokevirtual 56, 3) := by decide +kernel
theorem dX0_hasWonSet_4 : decode cX0_hasWonSet 4 = .ok (.iconst 4, 1) := by decide +kernel
theorem dX0_hasWonSet_5 : decode cX0_hasWonSet 5 = .ok (.if_icmp .ne 8, 3) := by decide +kernel
theorem dX0_hasWonSet_8 : decode cX0_hasWonSet 8 = .ok (.bipush 15, 2) := by decide +kernel
theorem dX0_hasWonSet_10 : decode cX0_hasWonSet 10 = .ok (.goto 5, 3) := by decide +kernel
theorem dX0_hasWonSet_13 : decode cX0_hasWonSet 13 = .ok (.bipush 25, 2) := by decide +kernel
theorem dX0_hasWonSet_15 : decode cX0_hasWonSet 15 = .ok (.istore_n 2, 1) := by decide +kernel
theorem dX0_hasWonSet_16 : decode cX0_hasWonSet 16 = .ok (.aload_n 0, 1) := by decide +kernel
theorem dX0_hasWonSet_17 : decode cX0_hasWonSet 17 = .ok (.iload_n 1, 1) := by decide +kernel
theorem dX0_hasWonSet_18 : decode cX0_hasWonSet 18 = .ok (.invokevirtual 34, 3) := by decide +kernel
theorem dX0_hasWonSet_21 : decode cX0_hasWonSet 21 = .ok (.getfield 42, 3) := by decide +kernel
theorem dX0_hasWonSet_24 : decode cX0_hasWonSet 24 = .ok (.istore_n 3, 1) := by decide +kernel
theorem dX0_hasWonSet_25 : decode cX0_hasWonSet 25 = .ok (.iload_n 3, 1) := by decide +kernel
theorem dX0_hasWonSet_26 : decode cX0_hasWonSet 26 = .ok (.iload_n 2, 1) := by decide +kernel
theorem dX0_hasWonSet_27 : decode cX0_hasWonSet 27 = .ok (.if_icmp .lt 23, 3) := by decide +kernel
theorem dX0_hasWonSet_30 : decode cX0_hasWonSet 30 = .ok (.iload_n 3, 1) := by decide +kernel
theorem dX0_hasWonSet_31 : decode cX0_hasWonSet 31 = .ok (.aload_n 0, 1) := by decide +kernel
theorem dX0_hasWonSet_32 : decode cX0_hasWonSet 32 = .ok (.iconst 1, 1) := by decide +kernel
theorem dX0_hasWonSet_33 : decode cX0_hasWonSet 33 = .ok (.iload_n 1, 1) := by decide +kernel
theorem dX0_hasWonSet_34 : decode cX0_hasWonSet 34 = .ok (.isub, 1) := by decide +kernel
theorem dX0_hasWonSet_35 : decode cX0_hasWonSet 35 = .ok (.invokevirtual 34, 3) := by decide +kernel
theorem dX0_hasWonSet_38 : decode cX0_hasWonSet 38 = .ok (.getfield 42, 3) := by decide +kernel
theorem dX0_hasWonSet_41 : decode cX0_hasWonSet 41 = .ok (.iconst 2, 1) := by decide +kernel
theorem dX0_hasWonSet_42 : decode cX0_hasWonSet 42 = .ok (.iadd, 1) := by decide +kernel
theorem dX0_hasWonSet_43 : decode cX0_hasWonSet 43 = .ok (.if_icmp .lt 7, 3) := by decide +kernel
theorem dX0_hasWonSet_46 : decode cX0_hasWonSet 46 = .ok (.iconst 1, 1) := by decide +kernel
theorem dX0_hasWonSet_47 : decode cX0_hasWonSet 47 = .ok (.goto 4, 3) := by decide +kernel
theorem dX0_hasWonSet_50 : decode cX0_hasWonSet 50 = .ok (.iconst 0, 1) := by decide +kernel
theorem dX0_hasWonSet_51 : decode cX0_hasWonSet 51 = .ok (.ireturn, 1) := by decide +kernel
theorem dX0_endSet_0 : decode cX0_endSet 0 = .ok (.aload_n 0, 1) := by decide +kernel
theorem dX0_endSet_1 : decode cX0_endSet 1 = .ok (.iload_n 1, 1) := by decide +kernel
theorem dX0_endSet_2 : decode cX0_endSet 2 = .ok (.invokevirtual 34, 3) := by decide +kernel
theorem dX0_endSet_5 : decode cX0_endSet 5 = .ok (.dup, 1) := by decide +kernel
theorem dX0_endSet_6 : decode cX0_endSet 6 = .ok (.getfield 28, 3) := by decide +kernel
theorem dX0_endSet_9 : decode cX0_endSet 9 = .ok (.iconst 1, 1) := by decide +kernel
theorem dX0_endSet_10 : decode cX0_endSet 10 = .ok (.iadd, 1) := by decide +kernel
theorem dX0_endSet_11 : decode cX0_endSet 11 = .ok (.putfield 28, 3) := by decide +kernel
theorem dX0_endSet_14 : decode cX0_endSet 14 = .ok (.aload_n 0, 1) := by decide +kernel
theorem dX0_endSet_15 : decode cX0_endSet 15 = .ok (.getfield 12, 3) := by decide +kernel
theorem dX0_endSet_18 : decode cX0_endSet 18 = .ok (.invokevirtual 60, 3) := by decide +kernel
theorem dX0_endSet_21 : decode cX0_endSet 21 = .ok (.aload_n 0, 1) := by decide +kernel
theorem dX0_endSet_22 : decode cX0_endSet 22 = .ok (.getfield 18, 3) := by decide +kernel
theorem dX0_endSet_25 : decode cX0_endSet 25 = .ok (.invokevirtual 60, 3) := by decide +kernel
theorem dX0_endSet_28 : decode cX0_endSet 28 = .ok (.aload_n 0, 1) := by decide +kernel
theorem dX0_endSet_29 : decode cX0_endSet 29 = .ok (.iconst (-1), 1) := by decide +kernel
theorem dX0_endSet_30 : decode cX0_endSet 30 = .ok (.putfield 21, 3) := by decide +kernel
theorem dX0_endSet_33 : decode cX0_endSet 33 = .ok (.aload_n 0, 1) := by decide +kernel
theorem dX0_endSet_34 : decode cX0_endSet 34 = .ok (.iconst (-1), 1) := by decide +kernel
theorem dX0_endSet_35 : decode cX0_endSet 35 = .ok (.putfield 25, 3) := by decide +kernel
theorem dX0_endSet_38 : decode cX0_endSet 38 = .ok (.return_, 1) := by decide +kernel
theorem dX0_copyFrom_0 : decode cX0_copyFrom 0 = .ok (.aload_n 0, 1) := by decide +kernel
theorem dX0_copyFrom_1 : decode cX0_copyFrom 1 = .ok (.getfield 12, 3) := by decide +kernel
theorem dX0_copyFrom_4 : decode cX0_copyFrom 4 = .ok (.aload_n 1, 1) := by decide +kernel
theorem dX0_copyFrom_5 : decode cX0_copyFrom 5 = .ok (.getfield 12, 3) := by decide +kernel
theorem dX0_copyFrom_8 : decode cX0_copyFrom 8 = .ok (.invokevirtual 63, 3) := by decide +kernel
theorem dX0_copyFrom_11 : decode cX0_copyFrom 11 = .ok (.aload_n 0, 1) := by decide +kernel
theorem dX0_copyFrom_12 : decode cX0_copyFrom 12 = .ok (.getfield 18, 3) := by decide +kernel
theorem dX0_copyFrom_15 : decode cX0_copyFrom 15 = .ok (.aload_n 1, 1) := by decide +kernel
theorem dX0_copyFrom_16 : decode cX0_copyFrom 16 = .ok (.getfield 18, 3) := by decide +kernel
theorem dX0_copyFrom_19 : decode cX0_copyFrom 19 = .ok (.invokevirtual 63, 3) := by decide +kernel
theorem dX0_copyFrom_22 : decode cX0_copyFrom 22 = .ok (.aload_n 0, 1) := by decide +kernel
theorem dX0_copyFrom_23 : decode cX0_copyFrom 23 = .ok (.aload_n 1, 1) := by decide +kernel
theorem dX0_copyFrom_24 : decode cX0_copyFrom 24 = .ok (.getfield 21, 3) := by decide +kernel
theorem dX0_copyFrom_27 : decode cX0_copyFrom 27 = .ok (.putfield 21, 3) := by decide +kernel
theorem dX0_copyFrom_30 : decode cX0_copyFrom 30 = .ok (.aload_n 0, 1) := by decide +kernel
theorem dX0_copyFrom_31 : decode cX0_copyFrom 31 = .ok (.aload_n 1, 1) := by decide +kernel
theorem dX0_copyFrom_32 : decode cX0_copyFrom 32 = .ok (.getfield 25, 3) := by decide +kernel
theorem dX0_copyFrom_35 : decode cX0_copyFrom 35 = .ok (.putfield 25, 3) := by decide +kernel
theorem dX0_copyFrom_38 : decode cX0_copyFrom 38 = .ok (.return_, 1) := by decide +kernel
theorem dX1_init_0 : decode cX1_init 0 = .ok (.aload_n 0, 1) := by decide +kernel
theorem dX1_init_1 : decode cX1_init 1 = .ok (.invokespecial 3, 3) := by decide +kernel
theorem dX1_init_4 : decode cX1_init 4 = .ok (.return_, 1) := by decide +kernel
theorem dX1_start_0 : decode cX1_start 0 = .ok (.aload_n 0, 1) := by decide +kernel
theorem dX1_start_1 : decode cX1_start 1 = .ok (.iconst 1, 1) := by decide +kernel
theorem dX1_start_2 : decode cX1_start 2 = .ok (.putfield 9, 3) := by decide +kernel
theorem dX1_start_5 : decode cX1_start 5 = .ok (.aload_n 0, 1) := by decide +kernel
theorem dX1_start_6 : decode cX1_start 6 = .ok (.iload_n 1, 1) := by decide +kernel
theorem dX1_start_7 : decode cX1_start 7 = .ok (.putfield 15, 3) := by decide +kernel
theorem dX1_start_10 : decode cX1_start 10 = .ok (.aload_n 0, 1) := by decide +kernel
theorem dX1_start_11 : decode cX1_start 11 = .ok (.iload_n 2, 1) := by decide +kernel
theorem dX1_start_12 : decode cX1_start 12 = .ok (.putfield 19, 3) := by decide +kernel
theorem dX1_start_15 : decode cX1_start 15 = .ok (.aload_n 0, 1) := by decide +kernel
theorem dX1_start_16 : decode cX1_start 16 = .ok (.iconst (-1), 1) := by decide +kernel
theorem dX1_start_17 : decode cX1_start 17 = .ok (.putfield 22, 3) := by decide +kernel
theorem dX1_start_20 : decode cX1_start 20 = .ok (.aload_n 0, 1) := by decide +kernel
theorem dX1_start_21 : decode cX1_start 21 = .ok (.iconst 0, 1) := by decide +kernel
theorem dX1_start_22 : decode cX1_start 22 = .ok (.putfield 25, 3) := by decide +kernel
theorem dX1_start_25 : decode cX1_start 25 = .ok (.aload_n 0, 1) := by decide +kernel
theorem dX1_start_26 : decode cX1_start 26 = .ok (.iconst 0, 1) := by decide +kernel
theorem dX1_start_27 : decode cX1_start 27 = .ok (.putfield 28, 3) := by decide +kernel
theorem dX1_start_30 : decode cX1_start 30 = .ok (.aload_n 0, 1) := by decide +kernel
theorem dX1_start_31 : decode cX1_start 31 = .ok (.iconst 0, 1) := by decide +kernel
theorem dX1_start_32 : decode cX1_start 32 = .ok (.putfield 31, 3) := by decide +kernel
theorem dX1_start_35 : decode cX1_start 35 = .ok (.return_, 1) := by decide +kernel
theorem dX1_faultOf_0 : decode cX1_faultOf 0 = .ok (.aload_n 0, 1) := by decide +kernel
theorem dX1_faultOf_1 : decode cX1_faultOf 1 = .ok (.getfield 15, 3) := by decide +kernel
theorem dX1_faultOf_4 : decode cX1_faultOf 4 = .ok (.iload_n 1, 1) := by decide +kernel
theorem dX1_faultOf_5 : decode cX1_faultOf 5 = .ok (.if_icmp .eq 5, 3) := by decide +kernel
theorem dX1_faultOf_8 : decode cX1_faultOf 8 = .ok (.iconst 0, 1) := by decide +kernel
theorem dX1_faultOf_9 : decode cX1_faultOf 9 = .ok (.ireturn, 1) := by decide +kernel
theorem dX1_faultOf_10 : decode cX1_faultOf 10 = .ok (.aload_n 0, 1) := by decide +kernel
theorem dX1_faultOf_11 : decode cX1_faultOf 11 = .ok (.getfield 22, 3) := by decide +kernel
theorem dX1_faultOf_14 : decode cX1_faultOf 14 = .ok (.iconst (-1), 1) := by decide +kernel
theorem dX1_faultOf_15 : decode cX1_faultOf 15 = .ok (.if_icmp .ne 5, 3) := by decide +kernel
theorem dX1_faultOf_18 : decode cX1_faultOf 18 = .ok (.iconst 1, 1) := by decide +kernel
theorem dX1_faultOf_19 : decode cX1_faultOf 19 = .ok (.ireturn, 1) := by decide +kernel
theorem dX1_faultOf_20 : decode cX1_faultOf 20 = .ok (.aload_n 0, 1) := by decide +kernel
theorem dX1_faultOf_21 : decode cX1_faultOf 21 = .ok (.getfield 19, 3) := by decide +kernel
theorem dX1_faultOf_24 : decode cX1_faultOf 24 = .ok (.iload_n 2, 1) := by decide +kernel
theorem dX1_faultOf_25 : decode cX1_faultOf 25 = .ok (.if_icmp .ne 13, 3) := by decide +kernel
theorem dX1_faultOf_28 : decode cX1_faultOf 28 = .ok (.aload_n 0, 1) := by decide +kernel
theorem dX1_faultOf_29 : decode cX1_faultOf 29 = .ok (.getfield 22, 3) := by decide +kernel
theorem dX1_faultOf_32 : decode cX1_faultOf 32 = .ok (.iconst 2, 1) := by decide +kernel
theorem dX1_faultOf_33 : decode cX1_faultOf 33 = .ok (.if_icmp .eq 5, 3) := by decide +kernel
theorem dX1_faultOf_36 : decode cX1_faultOf 36 = .ok (.iconst 2, 1) := by decide +kernel
theorem dX1_faultOf_37 : decode cX1_faultOf 37 = .ok (.ireturn, 1) := by decide +kernel
theorem dX1_faultOf_38 : decode cX1_faultOf 38 = .ok (.aload_n 0, 1) := by decide +kernel
theorem dX1_faultOf_39 : decode cX1_faultOf 39 = .ok (.getfield 25, 3) := by decide +kernel
theorem dX1_faultOf_42 : decode cX1_faultOf 42 = .ok (.iconst 3, 1) := by decide +kernel
theorem dX1_faultOf_43 : decode cX1_faultOf 43 = .ok (.if_icmp .ne 12, 3) := by decide +kernel
theorem dX1_faultOf_46 : decode cX1_faultOf 46 = .ok (.iload_n 3, 1) := by decide +kernel
theorem dX1_faultOf_47 : decode cX1_faultOf 47 = .ok (.iconst 2, 1) := by decide +kernel
theorem dX1_faultOf_48 : decode cX1_faultOf 48 = .ok (.if_icmp .eq 7, 3) := by decide +kernel
theorem dX1_faultOf_51 : decode cX1_faultOf 51 = .ok (.iconst 3, 1) := by decide +kernel
theorem dX1_faultOf_52 : decode cX1_faultOf 52 = .ok (.goto 4, 3) := by decide +kernel
theorem dX1_faultOf_55 : decode cX1_faultOf 55 = .ok (.iconst 0, 1) := by decide +kernel
theorem dX1_faultOf_56 : decode cX1_faultOf 56 = .ok (.ireturn, 1) := by decide +kernel
theorem dX1_note_0 : decode cX1_note 0 = .ok (.aload_n 0, 1) := by decide +kernel
theorem dX1_note_1 : decode cX1_note 1 = .ok (.getfield 15, 3) := by decide +kernel
theorem dX1_note_4 : decode cX1_note 4 = .ok (.iload_n 1, 1) := by decide +kernel
theorem dX1_note_5 : decode cX1_note 5 = .ok (.if_icmp .ne 10, 3) := by decide +kernel
theorem dX1_note_8 : decode cX1_note 8 = .ok (.aload_n 0, 1) := by decide +kernel
theorem dX1_note_9 : decode cX1_note 9 = .ok (.getfield 25, 3) := by decide +kernel
theorem dX1_note_12 : decode cX1_note 12 = .ok (.goto 4, 3) := by decide +kernel
theorem dX1_note_15 : decode cX1_note 15 = .ok (.iconst 0, 1) := by decide +kernel
theorem dX1_note_16 : decode cX1_note 16 = .ok (.istore 4, 2) := by decide +kernel
theorem dX1_note_18 : decode cX1_note 18 = .ok (.aload_n 0, 1) := by decide +kernel
theorem dX1_note_19 : decode cX1_note 19 = .ok (.iload_n 3, 1) := by decide +kernel
theorem dX1_note_20 : decode cX1_note 20 = .ok (.iconst 2, 1) := by decide +kernel
theorem dX1_note_21 : decode cX1_note 21 = .ok (.if_icmp .ne 7, 3) := by decide +kernel
theorem dX1_note_24 : decode cX1_note 24 = .ok (.iconst 0, 1) := by decide +kernel
theorem dX1_note_25 : decode cX1_note 25 = .ok (.goto 7, 3) := by decide +kernel
theorem dX1_note_28 : decode cX1_note 28 = .ok (.iload 4, 2) := by decide +kernel
theorem dX1_note_30 : decode cX1_note 30 = .ok (.iconst 1, 1) := by decide +kernel
theorem dX1_note_31 : decode cX1_note 31 = .ok (.iadd, 1) := by decide +kernel
theorem dX1_note_32 : decode cX1_note 32 = .ok (.putfield 25, 3) := by decide +kernel
theorem dX1_note_35 : decode cX1_note 35 = .ok (.aload_n 0, 1) := by decide +kernel
theorem dX1_note_36 : decode cX1_note 36 = .ok (.iload_n 1, 1) := by decide +kernel
theorem dX1_note_37 : decode cX1_note 37 = .ok (.putfield 15, 3) := by decide +kernel
theorem dX1_note_40 : decode cX1_note 40 = .ok (.aload_n 0, 1) := by decide +kernel
theorem dX1_note_41 : decode cX1_note 41 = .ok (.iload_n 2, 1) := by decide +kernel
theorem dX1_note_42 : decode cX1_note 42 = .ok (.putfield 19, 3) := by decide +kernel
theorem dX1_note_45 : decode cX1_note 45 = .ok (.aload_n 0, 1) := by decide +kernel
theorem dX1_note_46 : decode cX1_note 46 = .ok (.iload_n 3, 1) := by decide +kernel
theorem dX1_note_47 : decode cX1_note 47 = .ok (.putfield 22, 3) := by decide +kernel
theorem dX1_note_50 : decode cX1_note 50 = .ok (.return_, 1) := by decide +kernel
theorem dX1_noteNet_0 : decode cX1_noteNet 0 = .ok (.iload_n 1, 1) := by decide +kernel
theorem dX1_noteNet_1 : decode cX1_noteNet 1 = .ok (.iconst 1, 1) := by decide +kernel
theorem dX1_noteNet_2 : decode cX1_noteNet 2 = .ok (.if_icmp .ne 11, 3) := by decide +kernel
theorem dX1_noteNet_5 : decode cX1_noteNet 5 = .ok (.aload_n 0, 1) := by decide +kernel
theorem dX1_noteNet_6 : decode cX1_noteNet 6 = .ok (.iconst 1, 1) := by decide +kernel
theorem dX1_noteNet_7 : decode cX1_noteNet 7 = .ok (.putfield 31, 3) := by decide +kernel
theorem dX1_noteNet_10 : decode cX1_noteNet 10 = .ok (.goto 8, 3) := by decide +kernel
theorem dX1_noteNet_13 : decode cX1_noteNet 13 = .ok (.aload_n 0, 1) := by decide +kernel
theorem dX1_noteNet_14 : decode cX1_noteNet 14 = .ok (.iconst 1, 1) := by decide +kernel
theorem dX1_noteNet_15 : decode cX1_noteNet 15 = .ok (.putfield 28, 3) := by decide +kernel
theorem dX1_noteNet_18 : decode cX1_noteNet 18 = .ok (.return_, 1) := by decide +kernel
theorem dX1_isNetNotedOf_0 : decode cX1_isNetNotedOf 0 = .ok (.iload_n 1, 1) := by decide +kernel
theorem dX1_isNetNotedOf_1 : decode cX1_isNetNotedOf 1 = .ok (.iconst 1, 1) := by decide +kernel
theorem dX1_isNetNotedOf_2 : decode cX1_isNetNotedOf 2 = .ok (.if_icmp .ne 10, 3) := by decide +kernel
theorem dX1_isNetNotedOf_5 : decode cX1_isNetNotedOf 5 = .ok (.aload_n 0, 1) := by decide +kernel
theorem dX1_isNetNotedOf_6 : decode cX1_isNetNotedOf 6 = .ok (.getfield 31, 3) := by decide +kernel
theorem dX1_isNetNotedOf_9 : decode cX1_isNetNotedOf 9 = .ok (.goto 7, 3) := by decide +kernel
theorem dX1_isNetNotedOf_12 : decode cX1_isNetNotedOf 12 = .ok (.aload_n 0, 1) := by decide +kernel
theorem dX1_isNetNotedOf_13 : decode cX1_isNetNotedOf 13 = .ok (.getfield 28, 3) := by decide +kernel
theorem dX1_isNetNotedOf_16 : decode cX1_isNetNotedOf 16 = .ok (.ireturn, 1) := by decide +kernel
theorem dX2_init_0 : decode cX2_init 0 = .ok (.aload_n 0, 1) := by decide +kernel
theorem dX2_init_1 : decode cX2_init 1 = .ok (.invokespecial 3, 3) := by decide +kernel
theorem dX2_init_4 : decode cX2_init 4 = .ok (.aload_n 0, 1) := by decide +kernel
theorem dX2_init_5 : decode cX2_init 5 = .ok (.new 9, 3) := by decide +kernel
theorem dX2_init_8 : decode cX2_init 8 = .ok (.dup, 1) := by decide +kernel
theorem dX2_init_9 : decode cX2_init 9 = .ok (.invokespecial 11, 3) := by decide +kernel
theorem dX2_init_12 : decode cX2_init 12 = .ok (.putfield 12, 3) := by decide +kernel
theorem dX2_init_15 : decode cX2_init 15 = .ok (.aload_n 0, 1) := by decide +kernel
theorem dX2_init_16 : decode cX2_init 16 = .ok (.bipush 6, 2) := by decide +kernel
theorem dX2_init_18 : decode cX2_init 18 = .ok (.newarray .int, 2) := by decide +kernel
theorem dX2_init_20 : decode cX2_init 20 = .ok (.putfield 18, 3) := by decide +kernel
theorem dX2_init_23 : decode cX2_init 23 = .ok (.aload_n 0, 1) := by decide +kernel
theorem dX2_init_24 : decode cX2_init 24 = .ok (.bipush 6, 2) := by decide +kernel
theorem dX2_init_26 : decode cX2_init 26 = .ok (.newarray .int, 2) := by decide +kernel
theorem dX2_init_28 : decode cX2_init 28 = .ok (.putfield 22, 3) := by decide +kernel
theorem dX2_init_31 : decode cX2_init 31 = .ok (.return_, 1) := by decide +kernel
theorem dX2_read_0 : decode cX2_read 0 = .ok (.aload_n 0, 1) := by decide +kernel
theorem dX2_read_1 : decode cX2_read 1 = .ok (.invokevirtual 25, 3) := by decide +kernel
theorem dX2_read_4 : decode cX2_read 4 = .ok (.iconst 0, 1) := by decide +kernel
theorem dX2_read_5 : decode cX2_read 5 = .ok (.istore_n 2, 1) := by decide +kernel
theorem dX2_read_6 : decode cX2_read 6 = .ok (.iload_n 2, 1) := by decide +kernel
theorem dX2_read_7 : decode cX2_read 7 = .ok (.aload_n 1, 1) := by decide +kernel
theorem dX2_read_8 : decode cX2_read 8 = .ok (.getfield 28, 3) := by decide +kernel
theorem dX2_read_11 : decode cX2_read 11 = .ok (.if_icmp .ge 35, 3) := by decide +kernel
theorem dX2_read_14 : decode cX2_read 14 = .ok (.aload_n 1, 1) := by decide +kernel
theorem dX2_read_15 : decode cX2_read 15 = .ok (.iload_n 2, 1) := by decide +kernel
theorem dX2_read_16 : decode cX2_read 16 = .ok (.invokevirtual 34, 3) := by decide +kernel
theorem dX2_read_19 : decode cX2_read 19 = .ok (.istore_n 3, 1) := by decide +kernel
theorem dX2_read_20 : decode cX2_read 20 = .ok (.aload_n 0, 1) := by decide +kernel
theorem dX2_read_21 : decode cX2_read 21 = .ok (.iload_n 3, 1) := by decide +kernel
theorem dX2_read_22 : decode cX2_read 22 = .ok (.invokestatic 38, 3) := by decide +kernel
theorem dX2_read_25 : decode cX2_read 25 = .ok (.iload_n 3, 1) := by decide +kernel
theorem dX2_read_26 : decode cX2_read 26 = .ok (.invokestatic 41, 3) := by decide +kernel
theorem dX2_read_29 : decode cX2_read 29 = .ok (.iload_n 3, 1) := by decide +kernel
theorem dX2_read_30 : decode cX2_read 30 = .ok (.invokestatic 44, 3) := by decide +kernel
theorem dX2_read_33 : decode cX2_read 33 = .ok (.iload_n 3, 1) := by decide +kernel
theorem dX2_read_34 : decode cX2_read 34 = .ok (.invokestatic 47, 3) := by decide +kernel
theorem dX2_read_37 : decode cX2_read 37 = .ok (.invokevirtual 50, 3) := by decide +kernel
theorem dX2_read_40 : decode cX2_read 40 = .ok (.iinc 2 1, 3) := by decide +kernel
theorem dX2_read_43 : decode cX2_read 43 = .ok (.goto (-37), 3) := by decide +kernel
theorem dX2_read_46 : decode cX2_read 46 = .ok (.return_, 1) := by decide +kernel
theorem dX2_lostBy_0 : decode cX2_lostBy 0 = .ok (.aload_n 0, 1) := by decide +kernel
theorem dX2_lostBy_1 : decode cX2_lostBy 1 = .ok (.iload_n 1, 1) := by decide +kernel
theorem dX2_lostBy_2 : decode cX2_lostBy 2 = .ok (.invokevirtual 54, 3) := by decide +kernel
theorem dX2_lostBy_5 : decode cX2_lostBy 5 = .ok (.iload_n 2, 1) := by decide +kernel
theorem dX2_lostBy_6 : decode cX2_lostBy 6 = .ok (.invokestatic 58, 3) := by decide +kernel
theorem dX2_lostBy_9 : decode cX2_lostBy 9 = .ok (.ireturn, 1) := by decide +kernel
theorem dX2_rowOf_0 : decode cX2_rowOf 0 = .ok (.iload_n 1, 1) := by decide +kernel
theorem dX2_rowOf_1 : decode cX2_rowOf 1 = .ok (.iconst 1, 1) := by decide +kernel
theorem dX2_rowOf_2 : decode cX2_rowOf 2 = .ok (.if_icmp .ne 10, 3) := by decide +kernel
theorem dX2_rowOf_5 : decode cX2_rowOf 5 = .ok (.aload_n 0, 1) := by decide +kernel
theorem dX2_rowOf_6 : decode cX2_rowOf 6 = .ok (.getfield 22, 3) := by decide +kernel
theorem dX2_rowOf_9 : decode cX2_rowOf 9 = .ok (.goto 7, 3) := by decide +kernel
theorem dX2_rowOf_12 : decode cX2_rowOf 12 = .ok (.aload_n 0, 1) := by decide +kernel
theorem dX2_rowOf_13 : decode cX2_rowOf 13 = .ok (.getfield 18, 3) := by decide +kernel
theorem dX2_rowOf_16 : decode cX2_rowOf 16 = .ok (.areturn, 1) := by decide +kernel
theorem dX2_clear_0 : decode cX2_clear 0 = .ok (.aload_n 0, 1) := by decide +kernel
theorem dX2_clear_1 : decode cX2_clear 1 = .ok (.getfield 12, 3) := by decide +kernel
theorem dX2_clear_4 : decode cX2_clear 4 = .ok (.getfield 62, 3) := by decide +kernel
theorem dX2_clear_7 : decode cX2_clear 7 = .ok (.invokevirtual 66, 3) := by decide +kernel
theorem dX2_clear_10 : decode cX2_clear 10 = .ok (.aload_n 0, 1) := by decide +kernel
theorem dX2_clear_11 : decode cX2_clear 11 = .ok (.getfield 12, 3) := by decide +kernel
theorem dX2_clear_14 : decode cX2_clear 14 = .ok (.getfield 71, 3) := by decide +kernel
theorem dX2_clear_17 : decode cX2_clear 17 = .ok (.invokevirtual 66, 3) := by decide +kernel
theorem dX2_clear_20 : decode cX2_clear 20 = .ok (.iconst 0, 1) := by decide +kernel
theorem dX2_clear_21 : decode cX2_clear 21 = .ok (.istore_n 1, 1) := by decide +kernel
theorem dX2_clear_22 : decode cX2_clear 22 = .ok (.iload_n 1, 1) := by decide +kernel
theorem dX2_clear_23 : decode cX2_clear 23 = .ok (.bipush 6, 2) := by decide +kernel
theorem dX2_clear_25 : decode cX2_clear 25 = .ok (.if_icmp .ge 27, 3) := by decide +kernel
theorem dX2_clear_28 : decode cX2_clear 28 = .ok (.aload_n 0, 1) := by decide +kernel
theorem dX2_clear_29 : decode cX2_clear 29 = .ok (.getfield 18, 3) := by decide +kernel
theorem dX2_clear_32 : decode cX2_clear 32 = .ok (.iload_n 1, 1) := by decide +kernel
theorem dX2_clear_33 : decode cX2_clear 33 = .ok (.iconst 0, 1) := by decide +kernel
theorem dX2_clear_34 : decode cX2_clear 34 = .ok (.invokestatic 74, 3) := by decide +kernel
theorem dX2_clear_37 : decode cX2_clear 37 = .ok (.aload_n 0, 1) := by decide +kernel
theorem dX2_clear_38 : decode cX2_clear 38 = .ok (.getfield 22, 3) := by decide +kernel
theorem dX2_clear_41 : decode cX2_clear 41 = .ok (.iload_n 1, 1) := by decide +kernel
theorem dX2_clear_42 : decode cX2_clear 42 = .ok (.iconst 0, 1) := by decide +kernel
theorem dX2_clear_43 : decode cX2_clear 43 = .ok (.invokestatic 74, 3) := by decide +kernel
theorem dX2_clear_46 : decode cX2_clear 46 = .ok (.iinc 1 1, 3) := by decide +kernel
theorem dX2_clear_49 : decode cX2_clear 49 = .ok (.goto (-27), 3) := by decide +kernel
theorem dX2_clear_52 : decode cX2_clear 52 = .ok (.return_, 1) := by decide +kernel
theorem dX2_follow_0 : decode cX2_follow 0 = .ok (.aload_n 0, 1) := by decide +kernel
theorem dX2_follow_1 : decode cX2_follow 1 = .ok (.getfield 12, 3) := by decide +kernel
theorem dX2_follow_4 : decode cX2_follow 4 = .ok (.iload_n 2, 1) := by decide +kernel
theorem dX2_follow_5 : decode cX2_follow 5 = .ok (.invokevirtual 78, 3) := by decide +kernel
theorem dX2_follow_8 : decode cX2_follow 8 = .ok (.astore 5, 2) := by decide +kernel
theorem dX2_follow_10 : decode cX2_follow 10 = .ok (.iload_n 1, 1) := by decide +kernel
theorem dX2_follow_11 : decode cX2_follow 11 = .ok (.tableswitch 137 0 7 #[45, 56, 65, 76, 88, 106, 117, 126], 45) := by decide +kernel
theorem dX2_follow_56 : decode cX2_follow 56 = .ok (.aload 5, 2) := by decide +kernel
theorem dX2_follow_58 : decode cX2_follow 58 = .ok (.iload_n 3, 1) := by decide +kernel
theorem dX2_follow_59 : decode cX2_follow 59 = .ok (.iload 4, 2) := by decide +kernel
theorem dX2_follow_61 : decode cX2_follow 61 = .ok (.invokevirtual 82, 3) := by decide +kernel
theorem dX2_follow_64 : decode cX2_follow 64 = .ok (.goto 84, 3) := by decide +kernel
theorem dX2_follow_67 : decode cX2_follow 67 = .ok (.aload 5, 2) := by decide +kernel
theorem dX2_follow_69 : decode cX2_follow 69 = .ok (.iload_n 3, 1) := by decide +kernel
theorem dX2_follow_70 : decode cX2_follow 70 = .ok (.putfield 86, 3) := by decide +kernel
theorem dX2_follow_73 : decode cX2_follow 73 = .ok (.goto 75, 3) := by decide +kernel
theorem dX2_follow_76 : decode cX2_follow 76 = .ok (.aload_n 0, 1) := by decide +kernel
theorem dX2_follow_77 : decode cX2_follow 77 = .ok (.getfield 12, 3) := by decide +kernel
theorem dX2_follow_80 : decode cX2_follow 80 = .ok (.iload_n 2, 1) := by decide +kernel
theorem dX2_follow_81 : decode cX2_follow 81 = .ok (.invokevirtual 89, 3) := by decide +kernel
theorem dX2_follow_84 : decode cX2_follow 84 = .ok (.goto 64, 3) := by decide +kernel
theorem dX2_follow_87 : decode cX2_follow 87 = .ok (.aload_n 0, 1) := by decide +kernel
theorem dX2_follow_88 : decode cX2_follow 88 = .ok (.getfield 12, 3) := by decide +kernel
theorem dX2_follow_91 : decode cX2_follow 91 = .ok (.iload_n 3, 1) := by decide +kernel
theorem dX2_follow_92 : decode cX2_follow 92 = .ok (.invokevirtual 93, 3) := by decide +kernel
theorem dX2_follow_95 : decode cX2_follow 95 = .ok (.pop, 1) := by decide +kernel
theorem dX2_follow_96 : decode cX2_follow 96 = .ok (.goto 52, 3) := by decide +kernel
theorem dX2_follow_99 : decode cX2_follow 99 = .ok (.aload_n 0, 1) := by decide +kernel
theorem dX2_follow_100 : decode cX2_follow 100 = .ok (.iconst 1, 1) := by decide +kernel
theorem dX2_follow_101 : decode cX2_follow 101 = .ok (.iload_n 2, 1) := by decide +kernel
theorem dX2_follow_102 : decode cX2_follow 102 = .ok (.isub, 1) := by decide +kernel
theorem dX2_follow_103 : decode cX2_follow 103 = .ok (.invokevirtual 97, 3) := by decide +kernel
theorem dX2_follow_106 : decode cX2_follow 106 = .ok (.aload_n 0, 1) := by decide +kernel
theorem dX2_follow_107 : decode cX2_follow 107 = .ok (.getfield 12, 3) := by decide +kernel
theorem dX2_follow_110 : decode cX2_follow 110 = .ok (.iload_n 2, 1) := by decide +kernel
theorem dX2_follow_111 : decode cX2_follow 111 = .ok (.invokevirtual 100, 3) := by decide +kernel
theorem dX2_follow_114 : decode cX2_follow 114 = .ok (.goto 34, 3) := by decide +kernel
theorem dX2_follow_117 : decode cX2_follow 117 = .ok (.aload_n 0, 1) := by decide +kernel
theorem dX2_follow_118 : decode cX2_follow 118 = .ok (.getfield 12, 3) := by decide +kernel
theorem dX2_follow_121 : decode cX2_follow 121 = .ok (.invokevirtual 103, 3) := by decide +kernel
theorem dX2_follow_124 : decode cX2_follow 124 = .ok (.pop, 1) := by decide +kernel
theorem dX2_follow_125 : decode cX2_follow 125 = .ok (.goto 23, 3) := by decide +kernel
theorem dX2_follow_128 : decode cX2_follow 128 = .ok (.aload 5, 2) := by decide +kernel
theorem dX2_follow_130 : decode cX2_follow 130 = .ok (.iload_n 3, 1) := by decide +kernel
theorem dX2_follow_131 : decode cX2_follow 131 = .ok (.invokevirtual 107, 3) := by decide +kernel
theorem dX2_follow_134 : decode cX2_follow 134 = .ok (.goto 14, 3) := by decide +kernel
theorem dX2_follow_137 : decode cX2_follow 137 = .ok (.aload 5, 2) := by decide +kernel
theorem dX2_follow_139 : decode cX2_follow 139 = .ok (.iload_n 3, 1) := by decide +kernel
theorem dX2_follow_140 : decode cX2_follow 140 = .ok (.iload 4, 2) := by decide +kernel
theorem dX2_follow_142 : decode cX2_follow 142 = .ok (.invokevirtual 110, 3) := by decide +kernel
theorem dX2_follow_145 : decode cX2_follow 145 = .ok (.goto 3, 3) := by decide +kernel
theorem dX2_follow_148 : decode cX2_follow 148 = .ok (.return_, 1) := by decide +kernel
theorem dX2_countLost_0 : decode cX2_countLost 0 = .ok (.aload_n 0, 1) := by decide +kernel
theorem dX2_countLost_1 : decode cX2_countLost 1 = .ok (.getfield 12, 3) := by decide +kernel
theorem dX2_countLost_4 : decode cX2_countLost 4 = .ok (.iload_n 1, 1) := by decide +kernel
theorem dX2_countLost_5 : decode cX2_countLost 5 = .ok (.invokevirtual 78, 3) := by decide +kernel
theorem dX2_countLost_8 : decode cX2_countLost 8 = .ok (.getfield 113, 3) := by decide +kernel
theorem dX2_countLost_11 : decode cX2_countLost 11 = .ok (.bipush 6, 2) := by decide +kernel
theorem dX2_countLost_13 : decode cX2_countLost 13 = .ok (.irem, 1) := by decide +kernel
theorem dX2_countLost_14 : decode cX2_countLost 14 = .ok (.istore_n 2, 1) := by decide +kernel
theorem dX2_countLost_15 : decode cX2_countLost 15 = .ok (.aload_n 0, 1) := by decide +kernel
theorem dX2_countLost_16 : decode cX2_countLost 16 = .ok (.iload_n 1, 1) := by decide +kernel
theorem dX2_countLost_17 : decode cX2_countLost 17 = .ok (.invokevirtual 54, 3) := by decide +kernel
theorem dX2_countLost_20 : decode cX2_countLost 20 = .ok (.iload_n 2, 1) := by decide +kernel
theorem dX2_countLost_21 : decode cX2_countLost 21 = .ok (.aload_n 0, 1) := by decide +kernel
theorem dX2_countLost_22 : decode cX2_countLost 22 = .ok (.iload_n 1, 1) := by decide +kernel
theorem dX2_countLost_23 : decode cX2_countLost 23 = .ok (.iload_n 2, 1) := by decide +kernel
theorem dX2_countLost_24 : decode cX2_countLost 24 = .ok (.invokevirtual 116, 3) := by decide +kernel
theorem dX2_countLost_27 : decode cX2_countLost 27 = .ok (.iconst 1, 1) := by decide +kernel
theorem dX2_countLost_28 : decode cX2_countLost 28 = .ok (.iadd, 1) := by decide +kernel
theorem dX2_countLost_29 : decode cX2_countLost 29 = .ok (.invokestatic 74, 3) := by decide +kernel
theorem dX2_countLost_32 : decode cX2_countLost 32 = .ok (.return_, 1) := by decide +kernel
theorem dX3_init_0 : decode cX3_init 0 = .ok (.aload_n 0, 1) := by decide +kernel
theorem dX3_init_1 : decode cX3_init 1 = .ok (.invokespecial 1, 3) := by decide +kernel
theorem dX3_init_4 : decode cX3_init 4 = .ok (.aload_n 0, 1) := by decide +kernel
theorem dX3_init_5 : decode cX3_init 5 = .ok (.sipush 640, 3) := by decide +kernel
theorem dX3_init_8 : decode cX3_init 8 = .ok (.newarray .int, 2) := by decide +kernel
theorem dX3_init_10 : decode cX3_init 10 = .ok (.putfield 9, 3) := by decide +kernel
theorem dX3_init_13 : decode cX3_init 13 = .ok (.return_, 1) := by decide +kernel
theorem dX3_write_0 : decode cX3_write 0 = .ok (.aload_n 0, 1) := by decide +kernel
theorem dX3_write_1 : decode cX3_write 1 = .ok (.getfield 13, 3) := by decide +kernel
theorem dX3_write_4 : decode cX3_write 4 = .ok (.sipush 640, 3) := by decide +kernel
theorem dX3_write_7 : decode cX3_write 7 = .ok (.if_icmp .ge 40, 3) := by decide +kernel
theorem dX3_write_10 : decode cX3_write 10 = .ok (.aload_n 0, 1) := by decide +kernel
theorem dX3_write_11 : decode cX3_write 11 = .ok (.getfield 9, 3) := by decide +kernel
theorem dX3_write_14 : decode cX3_write 14 = .ok (.aload_n 0, 1) := by decide +kernel
theorem dX3_write_15 : decode cX3_write 15 = .ok (.getfield 13, 3) := by decide +kernel
theorem dX3_write_18 : decode cX3_write 18 = .ok (.iload_n 1, 1) := by decide +kernel
theorem dX3_write_19 : decode cX3_write 19 = .ok (.bipush 11, 2) := by decide +kernel
theorem dX3_write_21 : decode cX3_write 21 = .ok (.ishl, 1) := by decide +kernel
theorem dX3_write_22 : decode cX3_write 22 = .ok (.iload_n 2, 1) := by decide +kernel
theorem dX3_write_23 : decode cX3_write 23 = .ok (.bipush 10, 2) := by decide +kernel
theorem dX3_write_25 : decode cX3_write 25 = .ok (.ishl, 1) := by decide +kernel
theorem dX3_write_26 : decode cX3_write 26 = .ok (.ior, 1) := by decide +kernel
theorem dX3_write_27 : decode cX3_write 27 = .ok (.iload_n 3, 1) := by decide +kernel
theorem dX3_write_28 : decode cX3_write 28 = .ok (.iconst 5, 1) := by decide +kernel
theorem dX3_write_29 : decode cX3_write 29 = .ok (.ishl, 1) := by decide +kernel
theorem dX3_write_30 : decode cX3_write 30 = .ok (.ior, 1) := by decide +kernel
theorem dX3_write_31 : decode cX3_write 31 = .ok (.iload 4, 2) := by decide +kernel
theorem dX3_write_33 : decode cX3_write 33 = .ok (.ior, 1) := by decide +kernel
theorem dX3_write_34 : decode cX3_write 34 = .ok (.invokestatic 17, 3) := by decide +kernel
theorem dX3_write_37 : decode cX3_write 37 = .ok (.aload_n 0, 1) := by decide +kernel
theorem dX3_write_38 : decode cX3_write 38 = .ok (.dup, 1) := by decide +kernel
theorem dX3_write_39 : decode cX3_write 39 = .ok (.getfield 13, 3) := by decide +kernel
theorem dX3_write_42 : decode cX3_write 42 = .ok (.iconst 1, 1) := by decide +kernel
theorem dX3_write_43 : decode cX3_write 43 = .ok (.iadd, 1) := by decide +kernel
theorem dX3_write_44 : decode cX3_write 44 = .ok (.putfield 13, 3) := by decide +kernel
theorem dX3_write_47 : decode cX3_write 47 = .ok (.return_, 1) := by decide +kernel
theorem dX3_cutTo_0 : decode cX3_cutTo 0 = .ok (.aload_n 0, 1) := by decide +kernel
theorem dX3_cutTo_1 : decode cX3_cutTo 1 = .ok (.iload_n 1, 1) := by decide +kernel
theorem dX3_cutTo_2 : decode cX3_cutTo 2 = .ok (.putfield 13, 3) := by decide +kernel
theorem dX3_cutTo_5 : decode cX3_cutTo 5 = .ok (.return_, 1) := by decide +kernel
theorem dX3_signAt_0 : decode cX3_signAt 0 = .ok (.aload_n 0, 1) := by decide +kernel
theorem dX3_signAt_1 : decode cX3_signAt 1 = .ok (.getfield 9, 3) := by decide +kernel
theorem dX3_signAt_4 : decode cX3_signAt 4 = .ok (.iload_n 1, 1) := by decide +kernel
theorem dX3_signAt_5 : decode cX3_signAt 5 = .ok (.invokestatic 23, 3) := by decide +kernel
theorem dX3_signAt_8 : decode cX3_signAt 8 = .ok (.ireturn, 1) := by decide +kernel
theorem dX3_kindOf_0 : decode cX3_kindOf 0 = .ok (.iload_n 0, 1) := by decide +kernel
theorem dX3_kindOf_1 : decode cX3_kindOf 1 = .ok (.bipush 11, 2) := by decide +kernel
theorem dX3_kindOf_3 : decode cX3_kindOf 3 = .ok (.ishr, 1) := by decide +kernel
theorem dX3_kindOf_4 : decode cX3_kindOf 4 = .ok (.ireturn, 1) := by decide +kernel
theorem dX3_teamOf_0 : decode cX3_teamOf 0 = .ok (.iload_n 0, 1) := by decide +kernel
theorem dX3_teamOf_1 : decode cX3_teamOf 1 = .ok (.bipush 10, 2) := by decide +kernel
theorem dX3_teamOf_3 : decode cX3_teamOf 3 = .ok (.ishr, 1) := by decide +kernel
theorem dX3_teamOf_4 : decode cX3_teamOf 4 = .ok (.iconst 1, 1) := by decide +kernel
theorem dX3_teamOf_5 : decode cX3_teamOf 5 = .ok (.iand, 1) := by decide +kernel
theorem dX3_teamOf_6 : decode cX3_teamOf 6 = .ok (.ireturn, 1) := by decide +kernel
theorem dX3_oneOf_0 : decode cX3_oneOf 0 = .ok (.iload_n 0, 1) := by decide +kernel
theorem dX3_oneOf_1 : decode cX3_oneOf 1 = .ok (.iconst 5, 1) := by decide +kernel
theorem dX3_oneOf_2 : decode cX3_oneOf 2 = .ok (.ishr, 1) := by decide +kernel
theorem dX3_oneOf_3 : decode cX3_oneOf 3 = .ok (.bipush 31, 2) := by decide +kernel
theorem dX3_oneOf_5 : decode cX3_oneOf 5 = .ok (.iand, 1) := by decide +kernel
theorem dX3_oneOf_6 : decode cX3_oneOf 6 = .ok (.ireturn, 1) := by decide +kernel
theorem dX3_twoOf_0 : decode cX3_twoOf 0 = .ok (.iload_n 0, 1) := by decide +kernel
theorem dX3_twoOf_1 : decode cX3_twoOf 1 = .ok (.bipush 31, 2) := by decide +kernel
theorem dX3_twoOf_3 : decode cX3_twoOf 3 = .ok (.iand, 1) := by decide +kernel
theorem dX3_twoOf_4 : decode cX3_twoOf 4 = .ok (.ireturn, 1) := by decide +kernel
theorem dX4_init_0 : decode cX4_init 0 = .ok (.aload_n 0, 1) := by decide +kernel
theorem dX4_init_1 : decode cX4_init 1 = .ok (.invokespecial 3, 3) := by decide +kernel
theorem dX4_init_4 : decode cX4_init 4 = .ok (.aload_n 0, 1) := by decide +kernel
theorem dX4_init_5 : decode cX4_init 5 = .ok (.bipush 7, 2) := by decide +kernel
theorem dX4_init_7 : decode cX4_init 7 = .ok (.newarray .int, 2) := by decide +kernel
theorem dX4_init_9 : decode cX4_init 9 = .ok (.putfield 9, 3) := by decide +kernel
theorem dX4_init_12 : decode cX4_init 12 = .ok (.aload_n 0, 1) := by decide +kernel
theorem dX4_init_13 : decode cX4_init 13 = .ok (.bipush 21, 2) := by decide +kernel
theorem dX4_init_15 : decode cX4_init 15 = .ok (.newarray .int, 2) := by decide +kernel
theorem dX4_init_17 : decode cX4_init 17 = .ok (.putfield 15, 3) := by decide +kernel
theorem dX4_init_20 : decode cX4_init 20 = .ok (.aload_n 0, 1) := by decide +kernel
theorem dX4_init_21 : decode cX4_init 21 = .ok (.iconst (-1), 1) := by decide +kernel
theorem dX4_init_22 : decode cX4_init 22 = .ok (.putfield 18, 3) := by decide +kernel
theorem dX4_init_25 : decode cX4_init 25 = .ok (.aload_n 0, 1) := by decide +kernel
theorem dX4_init_26 : decode cX4_init 26 = .ok (.iconst (-1), 1) := by decide +kernel
theorem dX4_init_27 : decode cX4_init 27 = .ok (.putfield 22, 3) := by decide +kernel
theorem dX4_init_30 : decode cX4_init 30 = .ok (.aload_n 0, 1) := by decide +kernel
theorem dX4_init_31 : decode cX4_init 31 = .ok (.iconst 2, 1) := by decide +kernel
theorem dX4_init_32 : decode cX4_init 32 = .ok (.putfield 25, 3) := by decide +kernel
theorem dX4_init_35 : decode cX4_init 35 = .ok (.iconst 1, 1) := by decide +kernel
theorem dX4_init_36 : decode cX4_init 36 = .ok (.istore_n 1, 1) := by decide +kernel
theorem dX4_init_37 : decode cX4_init 37 = .ok (.iload_n 1, 1) := by decide +kernel
theorem dX4_init_38 : decode cX4_init 38 = .ok (.bipush 6, 2) := by decide +kernel
theorem dX4_init_40 : decode cX4_init 40 = .ok (.if_icmp .gt 18, 3) := by decide +kernel
theorem dX4_init_43 : decode cX4_init 43 = .ok (.aload_n 0, 1) := by decide +kernel
theorem dX4_init_44 : decode cX4_init 44 = .ok (.getfield 9, 3) := by decide +kernel
theorem dX4_init_47 : decode cX4_init 47 = .ok (.iload_n 1, 1) := by decide +kernel
theorem dX4_init_48 : decode cX4_init 48 = .ok (.iconst (-1), 1) := by decide +kernel
theorem dX4_init_49 : decode cX4_init 49 = .ok (.invokestatic 28, 3) := by decide +kernel
theorem dX4_init_52 : decode cX4_init 52 = .ok (.iinc 1 1, 3) := by decide +kernel
theorem dX4_init_55 : decode cX4_init 55 = .ok (.goto (-18), 3) := by decide +kernel
theorem dX4_init_58 : decode cX4_init 58 = .ok (.return_, 1) := by decide +kernel
theorem dX4_shirtIn_0 : decode cX4_shirtIn 0 = .ok (.aload_n 0, 1) := by decide +kernel
theorem dX4_shirtIn_1 : decode cX4_shirtIn 1 = .ok (.getfield 9, 3) := by decide +kernel
theorem dX4_shirtIn_4 : decode cX4_shirtIn 4 = .ok (.iload_n 1, 1) := by decide +kernel
theorem dX4_shirtIn_5 : decode cX4_shirtIn 5 = .ok (.invokestatic 32, 3) := by decide +kernel
theorem dX4_shirtIn_8 : decode cX4_shirtIn 8 = .ok (.ireturn, 1) := by decide +kernel
theorem dX4_put_0 : decode cX4_put 0 = .ok (.aload_n 0, 1) := by decide +kernel
theorem dX4_put_1 : decode cX4_put 1 = .ok (.getfield 9, 3) := by decide +kernel
theorem dX4_put_4 : decode cX4_put 4 = .ok (.iload_n 1, 1) := by decide +kernel
theorem dX4_put_5 : decode cX4_put 5 = .ok (.iload_n 2, 1) := by decide +kernel
theorem dX4_put_6 : decode cX4_put 6 = .ok (.invokestatic 28, 3) := by decide +kernel
theorem dX4_put_9 : decode cX4_put 9 = .ok (.return_, 1) := by decide +kernel
theorem dX4_placeOf_0 : decode cX4_placeOf 0 = .ok (.iconst 1, 1) := by decide +kernel
theorem dX4_placeOf_1 : decode cX4_placeOf 1 = .ok (.istore_n 2, 1) := by decide +kernel
theorem dX4_placeOf_2 : decode cX4_placeOf 2 = .ok (.iload_n 2, 1) := by decide +kernel
theorem dX4_placeOf_3 : decode cX4_placeOf 3 = .ok (.bipush 6, 2) := by decide +kernel
theorem dX4_placeOf_5 : decode cX4_placeOf 5 = .ok (.if_icmp .gt 20, 3) := by decide +kernel
theorem dX4_placeOf_8 : decode cX4_placeOf 8 = .ok (.aload_n 0, 1) := by decide +kernel
theorem dX4_placeOf_9 : decode cX4_placeOf 9 = .ok (.iload_n 2, 1) := by decide +kernel
theorem dX4_placeOf_10 : decode cX4_placeOf 10 = .ok (.invokevirtual 36, 3) := by decide +kernel
theorem dX4_placeOf_13 : decode cX4_placeOf 13 = .ok (.iload_n 1, 1) := by decide +kernel
theorem dX4_placeOf_14 : decode cX4_placeOf 14 = .ok (.if_icmp .ne 5, 3) := by decide +kernel
theorem dX4_placeOf_17 : decode cX4_placeOf 17 = .ok (.iload_n 2, 1) := by decide +kernel
theorem dX4_placeOf_18 : decode cX4_placeOf 18 = .ok (.ireturn, 1) := by decide +kernel
theorem dX4_placeOf_19 : decode cX4_placeOf 19 = .ok (.iinc 2 1, 3) := by decide +kernel
theorem dX4_placeOf_22 : decode cX4_placeOf 22 = .ok (.goto (-20), 3) := by decide +kernel
theorem dX4_placeOf_25 : decode cX4_placeOf 25 = .ok (.iconst (-1), 1) := by decide +kernel
theorem dX4_placeOf_26 : decode cX4_placeOf 26 = .ok (.ireturn, 1) := by decide +kernel
theorem dX4_isBehind_0 : decode cX4_isBehind 0 = .ok (.aload_n 0, 1) := by decide +kernel
theorem dX4_isBehind_1 : decode cX4_isBehind 1 = .ok (.iload_n 1, 1) := by decide +kernel
theorem dX4_isBehind_2 : decode cX4_isBehind 2 = .ok (.invokevirtual 40, 3) := by decide +kernel
theorem dX4_isBehind_5 : decode cX4_isBehind 5 = .ok (.istore_n 2, 1) := by decide +kernel
theorem dX4_isBehind_6 : decode cX4_isBehind 6 = .ok (.iload_n 2, 1) := by decide +kernel
theorem dX4_isBehind_7 : decode cX4_isBehind 7 = .ok (.iconst 1, 1) := by decide +kernel
theorem dX4_isBehind_8 : decode cX4_isBehind 8 = .ok (.if_icmp .eq 8, 3) := by decide +kernel
theorem dX4_isBehind_11 : decode cX4_isBehind 11 = .ok (.iload_n 2, 1) := by decide +kernel
theorem dX4_isBehind_12 : decode cX4_isBehind 12 = .ok (.iconst 4, 1) := by decide +kernel
theorem dX4_isBehind_13 : decode cX4_isBehind 13 = .ok (.if_icmp .le 7, 3) := by decide +kernel
theorem dX4_isBehind_16 : decode cX4_isBehind 16 = .ok (.iconst 1, 1) := by decide +kernel
theorem dX4_isBehind_17 : decode cX4_isBehind 17 = .ok (.goto 4, 3) := by decide +kernel
theorem dX4_isBehind_20 : decode cX4_isBehind 20 = .ok (.iconst 0, 1) := by decide +kernel
theorem dX4_isBehind_21 : decode cX4_isBehind 21 = .ok (.ireturn, 1) := by decide +kernel
theorem dX4_isLiberoIn_0 : decode cX4_isLiberoIn 0 = .ok (.aload_n 0, 1) := by decide +kernel
theorem dX4_isLiberoIn_1 : decode cX4_isLiberoIn 1 = .ok (.getfield 22, 3) := by decide +kernel
theorem dX4_isLiberoIn_4 : decode cX4_isLiberoIn 4 = .ok (.iconst (-1), 1) := by decide +kernel
theorem dX4_isLiberoIn_5 : decode cX4_isLiberoIn 5 = .ok (.if_icmp .eq 7, 3) := by decide +kernel
theorem dX4_isLiberoIn_8 : decode cX4_isLiberoIn 8 = .ok (.iconst 1, 1) := by decide +kernel
theorem dX4_isLiberoIn_9 : decode cX4_isLiberoIn 9 = .ok (.goto 4, 3) := by decide +kernel
theorem dX4_isLiberoIn_12 : decode cX4_isLiberoIn 12 = .ok (.iconst 0, 1) := by decide +kernel
theorem dX4_isLiberoIn_13 : decode cX4_isLiberoIn 13 = .ok (.ireturn, 1) := by decide +kernel
theorem dX4_isReady_0 : decode cX4_isReady 0 = .ok (.iconst 1, 1) := by decide +kernel
theorem dX4_isReady_1 : decode cX4_isReady 1 = .ok (.istore_n 1, 1) := by decide +kernel
theorem dX4_isReady_2 : decode cX4_isReady 2 = .ok (.iload_n 1, 1) := by decide +kernel
theorem dX4_isReady_3 : decode cX4_isReady 3 = .ok (.bipush 6, 2) := by decide +kernel
theorem dX4_isReady_5 : decode cX4_isReady 5 = .ok (.if_icmp .gt 39, 3) := by decide +kernel
theorem dX4_isReady_8 : decode cX4_isReady 8 = .ok (.aload_n 0, 1) := by decide +kernel
theorem dX4_isReady_9 : decode cX4_isReady 9 = .ok (.iload_n 1, 1) := by decide +kernel
theorem dX4_isReady_10 : decode cX4_isReady 10 = .ok (.invokevirtual 36, 3) := by decide +kernel
theorem dX4_isReady_13 : decode cX4_isReady 13 = .ok (.istore_n 2, 1) := by decide +kernel
theorem dX4_isReady_14 : decode cX4_isReady 14 = .ok (.iload_n 2, 1) := by decide +kernel
theorem dX4_isReady_15 : decode cX4_isReady 15 = .ok (.iconst (-1), 1) := by decide +kernel
theorem dX4_isReady_16 : decode cX4_isReady 16 = .ok (.if_icmp .eq 20, 3) := by decide +kernel
theorem dX4_isReady_19 : decode cX4_isReady 19 = .ok (.iload_n 2, 1) := by decide +kernel
theorem dX4_isReady_20 : decode cX4_isReady 20 = .ok (.aload_n 0, 1) := by decide +kernel
theorem dX4_isReady_21 : decode cX4_isReady 21 = .ok (.getfield 18, 3) := by decide +kernel
theorem dX4_isReady_24 : decode cX4_isReady 24 = .ok (.if_icmp .eq 12, 3) := by decide +kernel
theorem dX4_isReady_27 : decode cX4_isReady 27 = .ok (.aload_n 0, 1) := by decide +kernel
theorem dX4_isReady_28 : decode cX4_isReady 28 = .ok (.iload_n 2, 1) := by decide +kernel
theorem dX4_isReady_29 : decode cX4_isReady 29 = .ok (.invokevirtual 40, 3) := by decide +kernel
theorem dX4_isReady_32 : decode cX4_isReady 32 = .ok (.iload_n 1, 1) := by decide +kernel
theorem dX4_isReady_33 : decode cX4_isReady 33 = .ok (.if_icmp .eq 5, 3) := by decide +kernel
theorem dX4_isReady_36 : decode cX4_isReady 36 = .ok (.iconst 0, 1) := by decide +kernel
theorem dX4_isReady_37 : decode cX4_isReady 37 = .ok (.ireturn, 1) := by decide +kernel
theorem dX4_isReady_38 : decode cX4_isReady 38 = .ok (.iinc 1 1, 3) := by decide +kernel
theorem dX4_isReady_41 : decode cX4_isReady 41 = .ok (.goto (-39), 3) := by decide +kernel
theorem dX4_isReady_44 : decode cX4_isReady 44 = .ok (.iconst 1, 1) := by decide +kernel
theorem dX4_isReady_45 : decode cX4_isReady 45 = .ok (.ireturn, 1) := by decide +kernel
theorem dX4_startSet_0 : decode cX4_startSet 0 = .ok (.aload_n 0, 1) := by decide +kernel
theorem dX4_startSet_1 : decode cX4_startSet 1 = .ok (.iconst 0, 1) := by decide +kernel
theorem dX4_startSet_2 : decode cX4_startSet 2 = .ok (.putfield 43, 3) := by decide +kernel
theorem dX4_startSet_5 : decode cX4_startSet 5 = .ok (.aload_n 0, 1) := by decide +kernel
theorem dX4_startSet_6 : decode cX4_startSet 6 = .ok (.iconst 0, 1) := by decide +kernel
theorem dX4_startSet_7 : decode cX4_startSet 7 = .ok (.putfield 46, 3) := by decide +kernel
theorem dX4_startSet_10 : decode cX4_startSet 10 = .ok (.aload_n 0, 1) := by decide +kernel
theorem dX4_startSet_11 : decode cX4_startSet 11 = .ok (.iconst 0, 1) := by decide +kernel
theorem dX4_startSet_12 : decode cX4_startSet 12 = .ok (.putfield 49, 3) := by decide +kernel
theorem dX4_startSet_15 : decode cX4_startSet 15 = .ok (.aload_n 0, 1) := by decide +kernel
theorem dX4_startSet_16 : decode cX4_startSet 16 = .ok (.iconst 2, 1) := by decide +kernel
theorem dX4_startSet_17 : decode cX4_startSet 17 = .ok (.putfield 25, 3) := by decide +kernel
theorem dX4_startSet_20 : decode cX4_startSet 20 = .ok (.aload_n 0, 1) := by decide +kernel
theorem dX4_startSet_21 : decode cX4_startSet 21 = .ok (.iconst 0, 1) := by decide +kernel
theorem dX4_startSet_22 : decode cX4_startSet 22 = .ok (.putfield 52, 3) := by decide +kernel
theorem dX4_startSet_25 : decode cX4_startSet 25 = .ok (.iconst 1, 1) := by decide +kernel
theorem dX4_startSet_26 : decode cX4_startSet 26 = .ok (.istore_n 1, 1) := by decide +kernel
theorem dX4_startSet_27 : decode cX4_startSet 27 = .ok (.iload_n 1, 1) := by decide +kernel
theorem dX4_startSet_28 : decode cX4_startSet 28 = .ok (.bipush 20, 2) := by decide +kernel
theorem dX4_startSet_30 : decode cX4_startSet 30 = .ok (.if_icmp .gt 18, 3) := by decide +kernel
theorem dX4_startSet_33 : decode cX4_startSet 33 = .ok (.aload_n 0, 1) := by decide +kernel
theorem dX4_startSet_34 : decode cX4_startSet 34 = .ok (.getfield 15, 3) := by decide +kernel
theorem dX4_startSet_37 : decode cX4_startSet 37 = .ok (.iload_n 1, 1) := by decide +kernel
theorem dX4_startSet_38 : decode cX4_startSet 38 = .ok (.iconst 0, 1) := by decide +kernel
theorem dX4_startSet_39 : decode cX4_startSet 39 = .ok (.invokestatic 28, 3) := by decide +kernel
theorem dX4_startSet_42 : decode cX4_startSet 42 = .ok (.iinc 1 1, 3) := by decide +kernel
theorem dX4_startSet_45 : decode cX4_startSet 45 = .ok (.goto (-18), 3) := by decide +kernel
theorem dX4_startSet_48 : decode cX4_startSet 48 = .ok (.return_, 1) := by decide +kernel
theorem dX4_clearOrder_0 : decode cX4_clearOrder 0 = .ok (.iconst 1, 1) := by decide +kernel
theorem dX4_clearOrder_1 : decode cX4_clearOrder 1 = .ok (.istore_n 1, 1) := by decide +kernel
theorem dX4_clearOrder_2 : decode cX4_clearOrder 2 = .ok (.iload_n 1, 1) := by decide +kernel
theorem dX4_clearOrder_3 : decode cX4_clearOrder 3 = .ok (.bipush 6, 2) := by decide +kernel
theorem dX4_clearOrder_5 : decode cX4_clearOrder 5 = .ok (.if_icmp .gt 15, 3) := by decide +kernel
theorem dX4_clearOrder_8 : decode cX4_clearOrder 8 = .ok (.aload_n 0, 1) := by decide +kernel
theorem dX4_clearOrder_9 : decode cX4_clearOrder 9 = .ok (.iload_n 1, 1) := by decide +kernel
theorem dX4_clearOrder_10 : decode cX4_clearOrder 10 = .ok (.iconst (-1), 1) := by decide +kernel
theorem dX4_clearOrder_11 : decode cX4_clearOrder 11 = .ok (.invokevirtual 56, 3) := by decide +kernel
theorem dX4_clearOrder_14 : decode cX4_clearOrder 14 = .ok (.iinc 1 1, 3) := by decide +kernel
theorem dX4_clearOrder_17 : decode cX4_clearOrder 17 = .ok (.goto (-15), 3) := by decide +kernel
theorem dX4_clearOrder_20 : decode cX4_clearOrder 20 = .ok (.aload_n 0, 1) := by decide +kernel
theorem dX4_clearOrder_21 : decode cX4_clearOrder 21 = .ok (.iconst (-1), 1) := by decide +kernel
theorem dX4_clearOrder_22 : decode cX4_clearOrder 22 = .ok (.putfield 18, 3) := by decide +kernel
theorem dX4_clearOrder_25 : decode cX4_clearOrder 25 = .ok (.aload_n 0, 1) := by decide +kernel
theorem dX4_clearOrder_26 : decode cX4_clearOrder 26 = .ok (.iconst (-1), 1) := by decide +kernel
theorem dX4_clearOrder_27 : decode cX4_clearOrder 27 = .ok (.putfield 22, 3) := by decide +kernel
theorem dX4_clearOrder_30 : decode cX4_clearOrder 30 = .ok (.return_, 1) := by decide +kernel
theorem dX4_rotate_0 : decode cX4_rotate 0 = .ok (.aload_n 0, 1) := by decide +kernel
theorem dX4_rotate_1 : decode cX4_rotate 1 = .ok (.iconst 1, 1) := by decide +kernel
theorem dX4_rotate_2 : decode cX4_rotate 2 = .ok (.invokevirtual 36, 3) := by decide +kernel
theorem dX4_rotate_5 : decode cX4_rotate 5 = .ok (.istore_n 1, 1) := by decide +kernel
theorem dX4_rotate_6 : decode cX4_rotate 6 = .ok (.iconst 1, 1) := by decide +kernel
theorem dX4_rotate_7 : decode cX4_rotate 7 = .ok (.istore_n 2, 1) := by decide +kernel
theorem dX4_rotate_8 : decode cX4_rotate 8 = .ok (.iload_n 2, 1) := by decide +kernel
theorem dX4_rotate_9 : decode cX4_rotate 9 = .ok (.bipush 6, 2) := by decide +kernel
theorem dX4_rotate_11 : decode cX4_rotate 11 = .ok (.if_icmp .ge 21, 3) := by decide +kernel
theorem dX4_rotate_14 : decode cX4_rotate 14 = .ok (.aload_n 0, 1) := by decide +kernel
theorem dX4_rotate_15 : decode cX4_rotate 15 = .ok (.iload_n 2, 1) := by decide +kernel
theorem dX4_rotate_16 : decode cX4_rotate 16 = .ok (.aload_n 0, 1) := by decide +kernel
theorem dX4_rotate_17 : decode cX4_rotate 17 = .ok (.iload_n 2, 1) := by decide +kernel
theorem dX4_rotate_18 : decode cX4_rotate 18 = .ok (.iconst 1, 1) := by decide +kernel
theorem dX4_rotate_19 : decode cX4_rotate 19 = .ok (.iadd, 1) := by decide +kernel
theorem dX4_rotate_20 : decode cX4_rotate 20 = .ok (.invokevirtual 36, 3) := by decide +kernel
theorem dX4_rotate_23 : decode cX4_rotate 23 = .ok (.invokevirtual 56, 3) := by decide +kernel
theorem dX4_rotate_26 : decode cX4_rotate 26 = .ok (.iinc 2 1, 3) := by decide +kernel
theorem dX4_rotate_29 : decode cX4_rotate 29 = .ok (.goto (-21), 3) := by decide +kernel
theorem dX4_rotate_32 : decode cX4_rotate 32 = .ok (.aload_n 0, 1) := by decide +kernel
theorem dX4_rotate_33 : decode cX4_rotate 33 = .ok (.bipush 6, 2) := by decide +kernel
theorem dX4_rotate_35 : decode cX4_rotate 35 = .ok (.iload_n 1, 1) := by decide +kernel
theorem dX4_rotate_36 : decode cX4_rotate 36 = .ok (.invokevirtual 56, 3) := by decide +kernel
theorem dX4_rotate_39 : decode cX4_rotate 39 = .ok (.aload_n 0, 1) := by decide +kernel
theorem dX4_rotate_40 : decode cX4_rotate 40 = .ok (.dup, 1) := by decide +kernel
theorem dX4_rotate_41 : decode cX4_rotate 41 = .ok (.getfield 46, 3) := by decide +kernel
theorem dX4_rotate_44 : decode cX4_rotate 44 = .ok (.iconst 1, 1) := by decide +kernel
theorem dX4_rotate_45 : decode cX4_rotate 45 = .ok (.iadd, 1) := by decide +kernel
theorem dX4_rotate_46 : decode cX4_rotate 46 = .ok (.putfield 46, 3) := by decide +kernel
theorem dX4_rotate_49 : decode cX4_rotate 49 = .ok (.aload_n 0, 1) := by decide +kernel
theorem dX4_rotate_50 : decode cX4_rotate 50 = .ok (.invokevirtual 60, 3) := by decide +kernel
theorem dX4_rotate_53 : decode cX4_rotate 53 = .ok (.ifCond .eq 29, 3) := by decide +kernel
theorem dX4_rotate_56 : decode cX4_rotate 56 = .ok (.aload_n 0, 1) := by decide +kernel
theorem dX4_rotate_57 : decode cX4_rotate 57 = .ok (.iconst 4, 1) := by decide +kernel
theorem dX4_rotate_58 : decode cX4_rotate 58 = .ok (.invokevirtual 36, 3) := by decide +kernel
theorem dX4_rotate_61 : decode cX4_rotate 61 = .ok (.aload_n 0, 1) := by decide +kernel
theorem dX4_rotate_62 : decode cX4_rotate 62 = .ok (.getfield 18, 3) := by decide +kernel
theorem dX4_rotate_65 : decode cX4_rotate 65 = .ok (.if_icmp .ne 17, 3) := by decide +kernel
theorem dX4_rotate_68 : decode cX4_rotate 68 = .ok (.aload_n 0, 1) := by decide +kernel
theorem dX4_rotate_69 : decode cX4_rotate 69 = .ok (.iconst 4, 1) := by decide +kernel
theorem dX4_rotate_70 : decode cX4_rotate 70 = .ok (.aload_n 0, 1) := by decide +kernel
theorem dX4_rotate_71 : decode cX4_rotate 71 = .ok (.getfield 22, 3) := by decide +kernel
theorem dX4_rotate_74 : decode cX4_rotate 74 = .ok (.invokevirtual 56, 3) := by decide +kernel
theorem dX4_rotate_77 : decode cX4_rotate 77 = .ok (.aload_n 0, 1) := by decide +kernel
theorem dX4_rotate_78 : decode cX4_rotate 78 = .ok (.iconst (-1), 1) := by decide +kernel
theorem dX4_rotate_79 : decode cX4_rotate 79 = .ok (.putfield 22, 3) := by decide +kernel
theorem dX4_rotate_82 : decode cX4_rotate 82 = .ok (.return_, 1) := by decide +kernel
theorem dX4_faultOf_0 : decode cX4_faultOf 0 = .ok (.iload_n 2, 1) := by decide +kernel
theorem dX4_faultOf_1 : decode cX4_faultOf 1 = .ok (.iconst 2, 1) := by decide +kernel
theorem dX4_faultOf_2 : decode cX4_faultOf 2 = .ok (.if_icmp .eq 12, 3) := by decide +kernel
theorem dX4_faultOf_5 : decode cX4_faultOf 5 = .ok (.iload_n 2, 1) := by decide +kernel
theorem dX4_faultOf_6 : decode cX4_faultOf 6 = .ok (.iconst 1, 1) := by decide +kernel
theorem dX4_faultOf_7 : decode cX4_faultOf 7 = .ok (.if_icmp .ne 11, 3) := by decide +kernel
theorem dX4_faultOf_10 : decode cX4_faultOf 10 = .ok (.iload_n 3, 1) := by decide +kernel
theorem dX4_faultOf_11 : decode cX4_faultOf 11 = .ok (.ifCond .eq 7, 3) := by decide +kernel
theorem dX4_faultOf_14 : decode cX4_faultOf 14 = .ok (.iconst 1, 1) := by decide +kernel
theorem dX4_faultOf_15 : decode cX4_faultOf 15 = .ok (.goto 4, 3) := by decide +kernel
theorem dX4_faultOf_18 : decode cX4_faultOf 18 = .ok (.iconst 0, 1) := by decide +kernel
theorem dX4_faultOf_19 : decode cX4_faultOf 19 = .ok (.istore 4, 2) := by decide +kernel
theorem dX4_faultOf_21 : decode cX4_faultOf 21 = .ok (.iload 4, 2) := by decide +kernel
theorem dX4_faultOf_23 : decode cX4_faultOf 23 = .ok (.ifCond .eq 13, 3) := by decide +kernel
theorem dX4_faultOf_26 : decode cX4_faultOf 26 = .ok (.aload_n 0, 1) := by decide +kernel
theorem dX4_faultOf_27 : decode cX4_faultOf 27 = .ok (.iload_n 1, 1) := by decide +kernel
theorem dX4_faultOf_28 : decode cX4_faultOf 28 = .ok (.invokevirtual 64, 3) := by decide +kernel
theorem dX4_faultOf_31 : decode cX4_faultOf 31 = .ok (.ifCond .eq 5, 3) := by decide +kernel
theorem dX4_faultOf_34 : decode cX4_faultOf 34 = .ok (.iconst 4, 1) := by decide +kernel
theorem dX4_faultOf_35 : decode cX4_faultOf 35 = .ok (.ireturn, 1) := by decide +kernel
theorem dX4_faultOf_36 : decode cX4_faultOf 36 = .ok (.iload_n 2, 1) := by decide +kernel
theorem dX4_faultOf_37 : decode cX4_faultOf 37 = .ok (.iconst 1, 1) := by decide +kernel
theorem dX4_faultOf_38 : decode cX4_faultOf 38 = .ok (.if_icmp .ne 15, 3) := by decide +kernel
theorem dX4_faultOf_41 : decode cX4_faultOf 41 = .ok (.iload_n 1, 1) := by decide +kernel
theorem dX4_faultOf_42 : decode cX4_faultOf 42 = .ok (.aload_n 0, 1) := by decide +kernel
theorem dX4_faultOf_43 : decode cX4_faultOf 43 = .ok (.getfield 18, 3) := by decide +kernel
theorem dX4_faultOf_46 : decode cX4_faultOf 46 = .ok (.if_icmp .ne 7, 3) := by decide +kernel
theorem dX4_faultOf_49 : decode cX4_faultOf 49 = .ok (.iconst 5, 1) := by decide +kernel
theorem dX4_faultOf_50 : decode cX4_faultOf 50 = .ok (.goto 4, 3) := by decide +kernel
theorem dX4_faultOf_53 : decode cX4_faultOf 53 = .ok (.iconst 0, 1) := by decide +kernel
theorem dX4_faultOf_54 : decode cX4_faultOf 54 = .ok (.ireturn, 1) := by decide +kernel
theorem dX4_canExchange_0 : decode cX4_canExchange 0 = .ok (.aload_n 0, 1) := by decide +kernel
theorem dX4_canExchange_1 : decode cX4_canExchange 1 = .ok (.getfield 18, 3) := by decide +kernel
theorem dX4_canExchange_4 : decode cX4_canExchange 4 = .ok (.iconst (-1), 1) := by decide +kernel
theorem dX4_canExchange_5 : decode cX4_canExchange 5 = .ok (.if_icmp .eq 10, 3) := by decide +kernel
theorem dX4_canExchange_8 : decode cX4_canExchange 8 = .ok (.aload_n 0, 1) := by decide +kernel
theorem dX4_canExchange_9 : decode cX4_canExchange 9 = .ok (.getfield 52, 3) := by decide +kernel
theorem dX4_canExchange_12 : decode cX4_canExchange 12 = .ok (.ifCond .eq 5, 3) := by decide +kernel
theorem dX4_canExchange_15 : decode cX4_canExchange 15 = .ok (.iconst 0, 1) := by decide +kernel
theorem dX4_canExchange_16 : decode cX4_canExchange 16 = .ok (.ireturn, 1) := by decide +kernel
theorem dX4_canExchange_17 : decode cX4_canExchange 17 = .ok (.aload_n 0, 1) := by decide +kernel
theorem dX4_canExchange_18 : decode cX4_canExchange 18 = .ok (.invokevirtual 60, 3) := by decide +kernel
theorem dX4_canExchange_21 : decode cX4_canExchange 21 = .ok (.ifCond .eq 19, 3) := by decide +kernel
theorem dX4_canExchange_24 : decode cX4_canExchange 24 = .ok (.iload_n 1, 1) := by decide +kernel
theorem dX4_canExchange_25 : decode cX4_canExchange 25 = .ok (.aload_n 0, 1) := by decide +kernel
theorem dX4_canExchange_26 : decode cX4_canExchange 26 = .ok (.getfield 22, 3) := by decide +kernel
theorem dX4_canExchange_29 : decode cX4_canExchange 29 = .ok (.if_icmp .ne 7, 3) := by decide +kernel
theorem dX4_canExchange_32 : decode cX4_canExchange 32 = .ok (.iconst 1, 1) := by decide +kernel
theorem dX4_canExchange_33 : decode cX4_canExchange 33 = .ok (.goto 12, 3) := by decide +kernel
theorem dX4_canExchange_36 : decode cX4_canExchange 36 = .ok (.iconst 0, 1) := by decide +kernel
theorem dX4_canExchange_37 : decode cX4_canExchange 37 = .ok (.goto 8, 3) := by decide +kernel
theorem dX4_canExchange_40 : decode cX4_canExchange 40 = .ok (.aload_n 0, 1) := by decide +kernel
theorem dX4_canExchange_41 : decode cX4_canExchange 41 = .ok (.iload_n 1, 1) := by decide +kernel
theorem dX4_canExchange_42 : decode cX4_canExchange 42 = .ok (.invokevirtual 64, 3) := by decide +kernel
theorem dX4_canExchange_45 : decode cX4_canExchange 45 = .ok (.ireturn, 1) := by decide +kernel
theorem dX4_swapLibero_0 : decode cX4_swapLibero 0 = .ok (.aload_n 0, 1) := by decide +kernel
theorem dX4_swapLibero_1 : decode cX4_swapLibero 1 = .ok (.invokevirtual 60, 3) := by decide +kernel
theorem dX4_swapLibero_4 : decode cX4_swapLibero 4 = .ok (.ifCond .eq 24, 3) := by decide +kernel
theorem dX4_swapLibero_7 : decode cX4_swapLibero 7 = .ok (.aload_n 0, 1) := by decide +kernel
theorem dX4_swapLibero_8 : decode cX4_swapLibero 8 = .ok (.aload_n 0, 1) := by decide +kernel
theorem dX4_swapLibero_9 : decode cX4_swapLibero 9 = .ok (.aload_n 0, 1) := by decide +kernel
theorem dX4_swapLibero_10 : decode cX4_swapLibero 10 = .ok (.getfield 18, 3) := by decide +kernel
theorem dX4_swapLibero_13 : decode cX4_swapLibero 13 = .ok (.invokevirtual 40, 3) := by decide +kernel
theorem dX4_swapLibero_16 : decode cX4_swapLibero 16 = .ok (.iload_n 1, 1) := by decide +kernel
theorem dX4_swapLibero_17 : decode cX4_swapLibero 17 = .ok (.invokevirtual 56, 3) := by decide +kernel
theorem dX4_swapLibero_20 : decode cX4_swapLibero 20 = .ok (.aload_n 0, 1) := by decide +kernel
theorem dX4_swapLibero_21 : decode cX4_swapLibero 21 = .ok (.iconst (-1), 1) := by decide +kernel
theorem dX4_swapLibero_22 : decode cX4_swapLibero 22 = .ok (.putfield 22, 3) := by decide +kernel
theorem dX4_swapLibero_25 : decode cX4_swapLibero 25 = .ok (.goto 21, 3) := by decide +kernel
theorem dX4_swapLibero_28 : decode cX4_swapLibero 28 = .ok (.aload_n 0, 1) := by decide +kernel
theorem dX4_swapLibero_29 : decode cX4_swapLibero 29 = .ok (.aload_n 0, 1) := by decide +kernel
theorem dX4_swapLibero_30 : decode cX4_swapLibero 30 = .ok (.iload_n 1, 1) := by decide +kernel
theorem dX4_swapLibero_31 : decode cX4_swapLibero 31 = .ok (.invokevirtual 40, 3) := by decide +kernel
theorem dX4_swapLibero_34 : decode cX4_swapLibero 34 = .ok (.aload_n 0, 1) := by decide +kernel
theorem dX4_swapLibero_35 : decode cX4_swapLibero 35 = .ok (.getfield 18, 3) := by decide +kernel
theorem dX4_swapLibero_38 : decode cX4_swapLibero 38 = .ok (.invokevirtual 56, 3) := by decide +kernel
theorem dX4_swapLibero_41 : decode cX4_swapLibero 41 = .ok (.aload_n 0, 1) := by decide +kernel
theorem dX4_swapLibero_42 : decode cX4_swapLibero 42 = .ok (.iload_n 1, 1) := by decide +kernel
theorem dX4_swapLibero_43 : decode cX4_swapLibero 43 = .ok (.putfield 22, 3) := by decide +kernel
theorem dX4_swapLibero_46 : decode cX4_swapLibero 46 = .ok (.aload_n 0, 1) := by decide +kernel
theorem dX4_swapLibero_47 : decode cX4_swapLibero 47 = .ok (.iconst 1, 1) := by decide +kernel
theorem dX4_swapLibero_48 : decode cX4_swapLibero 48 = .ok (.putfield 52, 3) := by decide +kernel
theorem dX4_swapLibero_51 : decode cX4_swapLibero 51 = .ok (.return_, 1) := by decide +kernel
theorem dX4_canSubstitute_0 : decode cX4_canSubstitute 0 = .ok (.aload_n 0, 1) := by decide +kernel
theorem dX4_canSubstitute_1 : decode cX4_canSubstitute 1 = .ok (.getfield 49, 3) := by decide +kernel
theorem dX4_canSubstitute_4 : decode cX4_canSubstitute 4 = .ok (.bipush 6, 2) := by decide +kernel
theorem dX4_canSubstitute_6 : decode cX4_canSubstitute 6 = .ok (.if_icmp .ge 27, 3) := by decide +kernel
theorem dX4_canSubstitute_9 : decode cX4_canSubstitute 9 = .ok (.iload_n 1, 1) := by decide +kernel
theorem dX4_canSubstitute_10 : decode cX4_canSubstitute 10 = .ok (.aload_n 0, 1) := by decide +kernel
theorem dX4_canSubstitute_11 : decode cX4_canSubstitute 11 = .ok (.getfield 18, 3) := by decide +kernel
theorem dX4_canSubstitute_14 : decode cX4_canSubstitute 14 = .ok (.if_icmp .eq 19, 3) := by decide +kernel
theorem dX4_canSubstitute_17 : decode cX4_canSubstitute 17 = .ok (.iload_n 2, 1) := by decide +kernel
theorem dX4_canSubstitute_18 : decode cX4_canSubstitute 18 = .ok (.aload_n 0, 1) := by decide +kernel
theorem dX4_canSubstitute_19 : decode cX4_canSubstitute 19 = .ok (.getfield 18, 3) := by decide +kernel
theorem dX4_canSubstitute_22 : decode cX4_canSubstitute 22 = .ok (.if_icmp .eq 11, 3) := by decide +kernel
theorem dX4_canSubstitute_25 : decode cX4_canSubstitute 25 = .ok (.iload_n 2, 1) := by decide +kernel
theorem dX4_canSubstitute_26 : decode cX4_canSubstitute 26 = .ok (.aload_n 0, 1) := by decide +kernel
theorem dX4_canSubstitute_27 : decode cX4_canSubstitute 27 = .ok (.getfield 22, 3) := by decide +kernel
theorem dX4_canSubstitute_30 : decode cX4_canSubstitute 30 = .ok (.if_icmp .ne 5, 3) := by decide +kernel
theorem dX4_canSubstitute_33 : decode cX4_canSubstitute 33 = .ok (.iconst 0, 1) := by decide +kernel
theorem dX4_canSubstitute_34 : decode cX4_canSubstitute 34 = .ok (.ireturn, 1) := by decide +kernel
theorem dX4_canSubstitute_35 : decode cX4_canSubstitute 35 = .ok (.aload_n 0, 1) := by decide +kernel
theorem dX4_canSubstitute_36 : decode cX4_canSubstitute 36 = .ok (.iload_n 1, 1) := by decide +kernel
theorem dX4_canSubstitute_37 : decode cX4_canSubstitute 37 = .ok (.invokevirtual 40, 3) := by decide +kernel
theorem dX4_canSubstitute_40 : decode cX4_canSubstitute 40 = .ok (.iconst (-1), 1) := by decide +kernel
theorem dX4_canSubstitute_41 : decode cX4_canSubstitute 41 = .ok (.if_icmp .eq 12, 3) := by decide +kernel
theorem dX4_canSubstitute_44 : decode cX4_canSubstitute 44 = .ok (.aload_n 0, 1) := by decide +kernel
theorem dX4_canSubstitute_45 : decode cX4_canSubstitute 45 = .ok (.iload_n 2, 1) := by decide +kernel
theorem dX4_canSubstitute_46 : decode cX4_canSubstitute 46 = .ok (.invokevirtual 40, 3) := by decide +kernel
theorem dX4_canSubstitute_49 : decode cX4_canSubstitute 49 = .ok (.iconst (-1), 1) := by decide +kernel
theorem dX4_canSubstitute_50 : decode cX4_canSubstitute 50 = .ok (.if_icmp .eq 5, 3) := by decide +kernel
theorem dX4_canSubstitute_53 : decode cX4_canSubstitute 53 = .ok (.iconst 0, 1) := by decide +kernel
theorem dX4_canSubstitute_54 : decode cX4_canSubstitute 54 = .ok (.ireturn, 1) := by decide +kernel
theorem dX4_canSubstitute_55 : decode cX4_canSubstitute 55 = .ok (.aload_n 0, 1) := by decide +kernel
theorem dX4_canSubstitute_56 : decode cX4_canSubstitute 56 = .ok (.getfield 15, 3) := by decide +kernel
theorem dX4_canSubstitute_59 : decode cX4_canSubstitute 59 = .ok (.iload_n 1, 1) := by decide +kernel
theorem dX4_canSubstitute_60 : decode cX4_canSubstitute 60 = .ok (.invokestatic 32, 3) := by decide +kernel
theorem dX4_canSubstitute_63 : decode cX4_canSubstitute 63 = .ok (.ifCond .ne 18, 3) := by decide +kernel
theorem dX4_canSubstitute_66 : decode cX4_canSubstitute 66 = .ok (.aload_n 0, 1) := by decide +kernel
theorem dX4_canSubstitute_67 : decode cX4_canSubstitute 67 = .ok (.getfield 15, 3) := by decide +kernel
theorem dX4_canSubstitute_70 : decode cX4_canSubstitute 70 = .ok (.iload_n 2, 1) := by decide +kernel
theorem dX4_canSubstitute_71 : decode cX4_canSubstitute 71 = .ok (.invokestatic 32, 3) := by decide +kernel
theorem dX4_canSubstitute_74 : decode cX4_canSubstitute 74 = .ok (.ifCond .ne 7, 3) := by decide +kernel
theorem dX4_canSubstitute_77 : decode cX4_canSubstitute 77 = .ok (.iconst 1, 1) := by decide +kernel
theorem dX4_canSubstitute_78 : decode cX4_canSubstitute 78 = .ok (.goto 4, 3) := by decide +kernel
theorem dX4_canSubstitute_81 : decode cX4_canSubstitute 81 = .ok (.iconst 0, 1) := by decide +kernel
theorem dX4_canSubstitute_82 : decode cX4_canSubstitute 82 = .ok (.istore_n 3, 1) := by decide +kernel
theorem dX4_canSubstitute_83 : decode cX4_canSubstitute 83 = .ok (.iload_n 3, 1) := by decide +kernel
theorem dX4_canSubstitute_84 : decode cX4_canSubstitute 84 = .ok (.ifCond .ne 15, 3) := by decide +kernel
theorem dX4_canSubstitute_87 : decode cX4_canSubstitute 87 = .ok (.aload_n 0, 1) := by decide +kernel
theorem dX4_canSubstitute_88 : decode cX4_canSubstitute 88 = .ok (.getfield 15, 3) := by decide +kernel
theorem dX4_canSubstitute_91 : decode cX4_canSubstitute 91 = .ok (.iload_n 1, 1) := by decide +kernel
theorem dX4_canSubstitute_92 : decode cX4_canSubstitute 92 = .ok (.invokestatic 32, 3) := by decide +kernel
theorem dX4_canSubstitute_95 : decode cX4_canSubstitute 95 = .ok (.iload_n 2, 1) := by decide +kernel
theorem dX4_canSubstitute_96 : decode cX4_canSubstitute 96 = .ok (.if_icmp .ne 7, 3) := by decide +kernel
theorem dX4_canSubstitute_99 : decode cX4_canSubstitute 99 = .ok (.iconst 1, 1) := by decide +kernel
theorem dX4_canSubstitute_100 : decode cX4_canSubstitute 100 = .ok (.goto 4, 3) := by decide +kernel
theorem dX4_canSubstitute_103 : decode cX4_canSubstitute 103 = .ok (.iconst 0, 1) := by decide +kernel
theorem dX4_canSubstitute_104 : decode cX4_canSubstitute 104 = .ok (.ireturn, 1) := by decide +kernel
theorem dX4_swapByPair_0 : decode cX4_swapByPair 0 = .ok (.aload_n 0, 1) := by decide +kernel
theorem dX4_swapByPair_1 : decode cX4_swapByPair 1 = .ok (.getfield 15, 3) := by decide +kernel
theorem dX4_swapByPair_4 : decode cX4_swapByPair 4 = .ok (.iload_n 1, 1) := by decide +kernel
theorem dX4_swapByPair_5 : decode cX4_swapByPair 5 = .ok (.invokestatic 32, 3) := by decide +kernel
theorem dX4_swapByPair_8 : decode cX4_swapByPair 8 = .ok (.iload_n 2, 1) := by decide +kernel
theorem dX4_swapByPair_9 : decode cX4_swapByPair 9 = .ok (.if_icmp .ne 7, 3) := by decide +kernel
theorem dX4_swapByPair_12 : decode cX4_swapByPair 12 = .ok (.iconst 1, 1) := by decide +kernel
theorem dX4_swapByPair_13 : decode cX4_swapByPair 13 = .ok (.goto 4, 3) := by decide +kernel
theorem dX4_swapByPair_16 : decode cX4_swapByPair 16 = .ok (.iconst 0, 1) := by decide +kernel
theorem dX4_swapByPair_17 : decode cX4_swapByPair 17 = .ok (.istore_n 3, 1) := by decide +kernel
theorem dX4_swapByPair_18 : decode cX4_swapByPair 18 = .ok (.aload_n 0, 1) := by decide +kernel
theorem dX4_swapByPair_19 : decode cX4_swapByPair 19 = .ok (.getfield 15, 3) := by decide +kernel
theorem dX4_swapByPair_22 : decode cX4_swapByPair 22 = .ok (.iload_n 1, 1) := by decide +kernel
theorem dX4_swapByPair_23 : decode cX4_swapByPair 23 = .ok (.iconst (-1), 1) := by decide +kernel
theorem dX4_swapByPair_24 : decode cX4_swapByPair 24 = .ok (.invokestatic 28, 3) := by decide +kernel
theorem dX4_swapByPair_27 : decode cX4_swapByPair 27 = .ok (.aload_n 0, 1) := by decide +kernel
theorem dX4_swapByPair_28 : decode cX4_swapByPair 28 = .ok (.getfield 15, 3) := by decide +kernel
theorem dX4_swapByPair_31 : decode cX4_swapByPair 31 = .ok (.iload_n 2, 1) := by decide +kernel
theorem dX4_swapByPair_32 : decode cX4_swapByPair 32 = .ok (.iload_n 3, 1) := by decide +kernel
theorem dX4_swapByPair_33 : decode cX4_swapByPair 33 = .ok (.ifCond .eq 7, 3) := by decide +kernel
theorem dX4_swapByPair_36 : decode cX4_swapByPair 36 = .ok (.iconst (-1), 1) := by decide +kernel
theorem dX4_swapByPair_37 : decode cX4_swapByPair 37 = .ok (.goto 4, 3) := by decide +kernel
theorem dX4_swapByPair_40 : decode cX4_swapByPair 40 = .ok (.iload_n 1, 1) := by decide +kernel
theorem dX4_swapByPair_41 : decode cX4_swapByPair 41 = .ok (.invokestatic 28, 3) := by decide +kernel
theorem dX4_swapByPair_44 : decode cX4_swapByPair 44 = .ok (.aload_n 0, 1) := by decide +kernel
theorem dX4_swapByPair_45 : decode cX4_swapByPair 45 = .ok (.aload_n 0, 1) := by decide +kernel
theorem dX4_swapByPair_46 : decode cX4_swapByPair 46 = .ok (.iload_n 1, 1) := by decide +kernel
theorem dX4_swapByPair_47 : decode cX4_swapByPair 47 = .ok (.invokevirtual 40, 3) := by decide +kernel
theorem dX4_swapByPair_50 : decode cX4_swapByPair 50 = .ok (.iload_n 2, 1) := by decide +kernel
theorem dX4_swapByPair_51 : decode cX4_swapByPair 51 = .ok (.invokevirtual 56, 3) := by decide +kernel
theorem dX4_swapByPair_54 : decode cX4_swapByPair 54 = .ok (.aload_n 0, 1) := by decide +kernel
theorem dX4_swapByPair_55 : decode cX4_swapByPair 55 = .ok (.dup, 1) := by decide +kernel
theorem dX4_swapByPair_56 : decode cX4_swapByPair 56 = .ok (.getfield 49, 3) := by decide +kernel
theorem dX4_swapByPair_59 : decode cX4_swapByPair 59 = .ok (.iconst 1, 1) := by decide +kernel
theorem dX4_swapByPair_60 : decode cX4_swapByPair 60 = .ok (.iadd, 1) := by decide +kernel
theorem dX4_swapByPair_61 : decode cX4_swapByPair 61 = .ok (.putfield 49, 3) := by decide +kernel
theorem dX4_swapByPair_64 : decode cX4_swapByPair 64 = .ok (.return_, 1) := by decide +kernel
theorem dX4_copyFrom_0 : decode cX4_copyFrom 0 = .ok (.iconst 1, 1) := by decide +kernel
theorem dX4_copyFrom_1 : decode cX4_copyFrom 1 = .ok (.istore_n 2, 1) := by decide +kernel
theorem dX4_copyFrom_2 : decode cX4_copyFrom 2 = .ok (.iload_n 2, 1) := by decide +kernel
theorem dX4_copyFrom_3 : decode cX4_copyFrom 3 = .ok (.bipush 6, 2) := by decide +kernel
theorem dX4_copyFrom_5 : decode cX4_copyFrom 5 = .ok (.if_icmp .gt 19, 3) := by decide +kernel
theorem dX4_copyFrom_8 : decode cX4_copyFrom 8 = .ok (.aload_n 0, 1) := by decide +kernel
theorem dX4_copyFrom_9 : decode cX4_copyFrom 9 = .ok (.iload_n 2, 1) := by decide +kernel
theorem dX4_copyFrom_10 : decode cX4_copyFrom 10 = .ok (.aload_n 1, 1) := by decide +kernel
theorem dX4_copyFrom_11 : decode cX4_copyFrom 11 = .ok (.iload_n 2, 1) := by decide +kernel
theorem dX4_copyFrom_12 : decode cX4_copyFrom 12 = .ok (.invokevirtual 36, 3) := by decide +kernel
theorem dX4_copyFrom_15 : decode cX4_copyFrom 15 = .ok (.invokevirtual 56, 3) := by decide +kernel
theorem dX4_copyFrom_18 : decode cX4_copyFrom 18 = .ok (.iinc 2 1, 3) := by decide +kernel
theorem dX4_copyFrom_21 : decode cX4_copyFrom 21 = .ok (.goto (-19), 3) := by decide +kernel
theorem dX4_copyFrom_24 : decode cX4_copyFrom 24 = .ok (.iconst 1, 1) := by decide +kernel
theorem dX4_copyFrom_25 : decode cX4_copyFrom 25 = .ok (.istore_n 2, 1) := by decide +kernel
theorem dX4_copyFrom_26 : decode cX4_copyFrom 26 = .ok (.iload_n 2, 1) := by decide +kernel
theorem dX4_copyFrom_27 : decode cX4_copyFrom 27 = .ok (.bipush 20, 2) := by decide +kernel
theorem dX4_copyFrom_29 : decode cX4_copyFrom 29 = .ok (.if_icmp .gt 25, 3) := by decide +kernel
theorem dX4_copyFrom_32 : decode cX4_copyFrom 32 = .ok (.aload_n 0, 1) := by decide +kernel
theorem dX4_copyFrom_33 : decode cX4_copyFrom 33 = .ok (.getfield 15, 3) := by decide +kernel
theorem dX4_copyFrom_36 : decode cX4_copyFrom 36 = .ok (.iload_n 2, 1) := by decide +kernel
theorem dX4_copyFrom_37 : decode cX4_copyFrom 37 = .ok (.aload_n 1, 1) := by decide +kernel
theorem dX4_copyFrom_38 : decode cX4_copyFrom 38 = .ok (.getfield 15, 3) := by decide +kernel
theorem dX4_copyFrom_41 : decode cX4_copyFrom 41 = .ok (.iload_n 2, 1) := by decide +kernel
theorem dX4_copyFrom_42 : decode cX4_copyFrom 42 = .ok (.invokestatic 32, 3) := by decide +kernel
theorem dX4_copyFrom_45 : decode cX4_copyFrom 45 = .ok (.invokestatic 28, 3) := by decide +kernel
theorem dX4_copyFrom_48 : decode cX4_copyFrom 48 = .ok (.iinc 2 1, 3) := by decide +kernel
theorem dX4_copyFrom_51 : decode cX4_copyFrom 51 = .ok (.goto (-25), 3) := by decide +kernel
theorem dX4_copyFrom_54 : decode cX4_copyFrom 54 = .ok (.aload_n 0, 1) := by decide +kernel
theorem dX4_copyFrom_55 : decode cX4_copyFrom 55 = .ok (.aload_n 1, 1) := by decide +kernel
theorem dX4_copyFrom_56 : decode cX4_copyFrom 56 = .ok (.getfield 18, 3) := by decide +kernel
theorem dX4_copyFrom_59 : decode cX4_copyFrom 59 = .ok (.putfield 18, 3) := by decide +kernel
theorem dX4_copyFrom_62 : decode cX4_copyFrom 62 = .ok (.aload_n 0, 1) := by decide +kernel
theorem dX4_copyFrom_63 : decode cX4_copyFrom 63 = .ok (.aload_n 1, 1) := by decide +kernel
theorem dX4_copyFrom_64 : decode cX4_copyFrom 64 = .ok (.getfield 22, 3) := by decide +kernel
theorem dX4_copyFrom_67 : decode cX4_copyFrom 67 = .ok (.putfield 22, 3) := by decide +kernel
theorem dX4_copyFrom_70 : decode cX4_copyFrom 70 = .ok (.aload_n 0, 1) := by decide +kernel
theorem dX4_copyFrom_71 : decode cX4_copyFrom 71 = .ok (.aload_n 1, 1) := by decide +kernel
theorem dX4_copyFrom_72 : decode cX4_copyFrom 72 = .ok (.getfield 43, 3) := by decide +kernel
theorem dX4_copyFrom_75 : decode cX4_copyFrom 75 = .ok (.putfield 43, 3) := by decide +kernel
theorem dX4_copyFrom_78 : decode cX4_copyFrom 78 = .ok (.aload_n 0, 1) := by decide +kernel
theorem dX4_copyFrom_79 : decode cX4_copyFrom 79 = .ok (.aload_n 1, 1) := by decide +kernel
theorem dX4_copyFrom_80 : decode cX4_copyFrom 80 = .ok (.getfield 68, 3) := by decide +kernel
theorem dX4_copyFrom_83 : decode cX4_copyFrom 83 = .ok (.putfield 68, 3) := by decide +kernel
theorem dX4_copyFrom_86 : decode cX4_copyFrom 86 = .ok (.aload_n 0, 1) := by decide +kernel
theorem dX4_copyFrom_87 : decode cX4_copyFrom 87 = .ok (.aload_n 1, 1) := by decide +kernel
theorem dX4_copyFrom_88 : decode cX4_copyFrom 88 = .ok (.getfield 46, 3) := by decide +kernel
theorem dX4_copyFrom_91 : decode cX4_copyFrom 91 = .ok (.putfield 46, 3) := by decide +kernel
theorem dX4_copyFrom_94 : decode cX4_copyFrom 94 = .ok (.aload_n 0, 1) := by decide +kernel
theorem dX4_copyFrom_95 : decode cX4_copyFrom 95 = .ok (.aload_n 1, 1) := by decide +kernel
theorem dX4_copyFrom_96 : decode cX4_copyFrom 96 = .ok (.getfield 49, 3) := by decide +kernel
theorem dX4_copyFrom_99 : decode cX4_copyFrom 99 = .ok (.putfield 49, 3) := by decide +kernel
theorem dX4_copyFrom_102 : decode cX4_copyFrom 102 = .ok (.aload_n 0, 1) := by decide +kernel
theorem dX4_copyFrom_103 : decode cX4_copyFrom 103 = .ok (.aload_n 1, 1) := by decide +kernel
theorem dX4_copyFrom_104 : decode cX4_copyFrom 104 = .ok (.getfield 25, 3) := by decide +kernel
theorem dX4_copyFrom_107 : decode cX4_copyFrom 107 = .ok (.putfield 25, 3) := by decide +kernel
theorem dX4_copyFrom_110 : decode cX4_copyFrom 110 = .ok (.aload_n 0, 1) := by decide +kernel
theorem dX4_copyFrom_111 : decode cX4_copyFrom 111 = .ok (.aload_n 1, 1) := by decide +kernel
theorem dX4_copyFrom_112 : decode cX4_copyFrom 112 = .ok (.getfield 52, 3) := by decide +kernel
theorem dX4_copyFrom_115 : decode cX4_copyFrom 115 = .ok (.putfield 52, 3) := by decide +kernel
theorem dX4_copyFrom_118 : decode cX4_copyFrom 118 = .ok (.return_, 1) := by decide +kernel
theorem dX5_init_0 : decode cX5_init 0 = .ok (.aload_n 0, 1) := by decide +kernel
theorem dX5_init_1 : decode cX5_init 1 = .ok (.invokespecial 1, 3) := by decide +kernel
theorem dX5_init_4 : decode cX5_init 4 = .ok (.aload_n 0, 1) := by decide +kernel
theorem dX5_init_5 : decode cX5_init 5 = .ok (.new 7, 3) := by decide +kernel
theorem dX5_init_8 : decode cX5_init 8 = .ok (.dup, 1) := by decide +kernel
theorem dX5_init_9 : decode cX5_init 9 = .ok (.invokespecial 9, 3) := by decide +kernel
theorem dX5_init_12 : decode cX5_init 12 = .ok (.putfield 10, 3) := by decide +kernel
theorem dX5_init_15 : decode cX5_init 15 = .ok (.aload_n 0, 1) := by decide +kernel
theorem dX5_init_16 : decode cX5_init 16 = .ok (.new 7, 3) := by decide +kernel
theorem dX5_init_19 : decode cX5_init 19 = .ok (.dup, 1) := by decide +kernel
theorem dX5_init_20 : decode cX5_init 20 = .ok (.invokespecial 9, 3) := by decide +kernel
theorem dX5_init_23 : decode cX5_init 23 = .ok (.putfield 16, 3) := by decide +kernel
theorem dX5_init_26 : decode cX5_init 26 = .ok (.aload_n 0, 1) := by decide +kernel
theorem dX5_init_27 : decode cX5_init 27 = .ok (.new 19, 3) := by decide +kernel
theorem dX5_init_30 : decode cX5_init 30 = .ok (.dup, 1) := by decide +kernel
theorem dX5_init_31 : decode cX5_init 31 = .ok (.invokespecial 21, 3) := by decide +kernel
theorem dX5_init_34 : decode cX5_init 34 = .ok (.putfield 22, 3) := by decide +kernel
theorem dX5_init_37 : decode cX5_init 37 = .ok (.aload_n 0, 1) := by decide +kernel
theorem dX5_init_38 : decode cX5_init 38 = .ok (.new 26, 3) := by decide +kernel
theorem dX5_init_41 : decode cX5_init 41 = .ok (.dup, 1) := by decide +kernel
theorem dX5_init_42 : decode cX5_init 42 = .ok (.invokespecial 28, 3) := by decide +kernel
theorem dX5_init_45 : decode cX5_init 45 = .ok (.putfield 29, 3) := by decide +kernel
theorem dX5_init_48 : decode cX5_init 48 = .ok (.aload_n 0, 1) := by decide +kernel
theorem dX5_init_49 : decode cX5_init 49 = .ok (.new 33, 3) := by decide +kernel
theorem dX5_init_52 : decode cX5_init 52 = .ok (.dup, 1) := by decide +kernel
theorem dX5_init_53 : decode cX5_init 53 = .ok (.invokespecial 35, 3) := by decide +kernel
theorem dX5_init_56 : decode cX5_init 56 = .ok (.putfield 36, 3) := by decide +kernel
theorem dX5_init_59 : decode cX5_init 59 = .ok (.aload_n 0, 1) := by decide +kernel
theorem dX5_init_60 : decode cX5_init 60 = .ok (.iconst (-1), 1) := by decide +kernel
theorem dX5_init_61 : decode cX5_init 61 = .ok (.putfield 40, 3) := by decide +kernel
theorem dX5_init_64 : decode cX5_init 64 = .ok (.return_, 1) := by decide +kernel
theorem dX5_line_0 : decode cX5_line 0 = .ok (.iload_n 1, 1) := by decide +kernel
theorem dX5_line_1 : decode cX5_line 1 = .ok (.invokestatic 44, 3) := by decide +kernel
theorem dX5_line_4 : decode cX5_line 4 = .ok (.iload_n 2, 1) := by decide +kernel
theorem dX5_line_5 : decode cX5_line 5 = .ok (.invokestatic 48, 3) := by decide +kernel
theorem dX5_line_8 : decode cX5_line 8 = .ok (.iload_n 3, 1) := by decide +kernel
theorem dX5_line_9 : decode cX5_line 9 = .ok (.invokestatic 51, 3) := by decide +kernel
theorem dX5_line_12 : decode cX5_line 12 = .ok (.aload_n 0, 1) := by decide +kernel
theorem dX5_line_13 : decode cX5_line 13 = .ok (.invokevirtual 54, 3) := by decide +kernel
theorem dX5_line_16 : decode cX5_line 16 = .ok (.aload_n 0, 1) := by decide +kernel
theorem dX5_line_17 : decode cX5_line 17 = .ok (.getfield 10, 3) := by decide +kernel
theorem dX5_line_20 : decode cX5_line 20 = .ok (.iload_n 1, 1) := by decide +kernel
theorem dX5_line_21 : decode cX5_line 21 = .ok (.invokevirtual 57, 3) := by decide +kernel
theorem dX5_line_24 : decode cX5_line 24 = .ok (.astore 4, 2) := by decide +kernel
theorem dX5_line_26 : decode cX5_line 26 = .ok (.aload 4, 2) := by decide +kernel
theorem dX5_line_28 : decode cX5_line 28 = .ok (.iload_n 2, 1) := by decide +kernel
theorem dX5_line_29 : decode cX5_line 29 = .ok (.invokevirtual 61, 3) := by decide +kernel
theorem dX5_line_32 : decode cX5_line 32 = .ok (.istore 5, 2) := by decide +kernel
theorem dX5_line_34 : decode cX5_line 34 = .ok (.aload 4, 2) := by decide +kernel
theorem dX5_line_36 : decode cX5_line 36 = .ok (.iload_n 2, 1) := by decide +kernel
theorem dX5_line_37 : decode cX5_line 37 = .ok (.iload_n 3, 1) := by decide +kernel
theorem dX5_line_38 : decode cX5_line 38 = .ok (.invokevirtual 67, 3) := by decide +kernel
theorem dX5_line_41 : decode cX5_line 41 = .ok (.aload_n 0, 1) := by decide +kernel
theorem dX5_line_42 : decode cX5_line 42 = .ok (.iconst (-1), 1) := by decide +kernel
theorem dX5_line_43 : decode cX5_line 43 = .ok (.putfield 40, 3) := by decide +kernel
theorem dX5_line_46 : decode cX5_line 46 = .ok (.iload 5, 2) := by decide +kernel
theorem dX5_line_48 : decode cX5_line 48 = .ok (.ireturn, 1) := by decide +kernel
theorem dX5_libero_0 : decode cX5_libero 0 = .ok (.iload_n 1, 1) := by decide +kernel
theorem dX5_libero_1 : decode cX5_libero 1 = .ok (.invokestatic 44, 3) := by decide +kernel
theorem dX5_libero_4 : decode cX5_libero 4 = .ok (.iload_n 2, 1) := by decide +kernel
theorem dX5_libero_5 : decode cX5_libero 5 = .ok (.invokestatic 51, 3) := by decide +kernel
theorem dX5_libero_8 : decode cX5_libero 8 = .ok (.aload_n 0, 1) := by decide +kernel
theorem dX5_libero_9 : decode cX5_libero 9 = .ok (.invokevirtual 54, 3) := by decide +kernel
theorem dX5_libero_12 : decode cX5_libero 12 = .ok (.aload_n 0, 1) := by decide +kernel
theorem dX5_libero_13 : decode cX5_libero 13 = .ok (.getfield 10, 3) := by decide +kernel
theorem dX5_libero_16 : decode cX5_libero 16 = .ok (.iload_n 1, 1) := by decide +kernel
theorem dX5_libero_17 : decode cX5_libero 17 = .ok (.invokevirtual 57, 3) := by decide +kernel
theorem dX5_libero_20 : decode cX5_libero 20 = .ok (.astore_n 3, 1) := by decide +kernel
theorem dX5_libero_21 : decode cX5_libero 21 = .ok (.aload_n 3, 1) := by decide +kernel
theorem dX5_libero_22 : decode cX5_libero 22 = .ok (.getfield 71, 3) := by decide +kernel
theorem dX5_libero_25 : decode cX5_libero 25 = .ok (.istore 4, 2) := by decide +kernel
theorem dX5_libero_27 : decode cX5_libero 27 = .ok (.aload_n 3, 1) := by decide +kernel
theorem dX5_libero_28 : decode cX5_libero 28 = .ok (.iload_n 2, 1) := by decide +kernel
theorem dX5_libero_29 : decode cX5_libero 29 = .ok (.putfield 71, 3) := by decide +kernel
theorem dX5_libero_32 : decode cX5_libero 32 = .ok (.aload_n 0, 1) := by decide +kernel
theorem dX5_libero_33 : decode cX5_libero 33 = .ok (.iconst (-1), 1) := by decide +kernel
theorem dX5_libero_34 : decode cX5_libero 34 = .ok (.putfield 40, 3) := by decide +kernel
theorem dX5_libero_37 : decode cX5_libero 37 = .ok (.iload 4, 2) := by decide +kernel
theorem dX5_libero_39 : decode cX5_libero 39 = .ok (.ireturn, 1) := by decide +kernel
theorem dX5_begin_0 : decode cX5_begin 0 = .ok (.iload_n 1, 1) := by decide +kernel
theorem dX5_begin_1 : decode cX5_begin 1 = .ok (.invokestatic 44, 3) := by decide +kernel
theorem dX5_begin_4 : decode cX5_begin 4 = .ok (.aload_n 0, 1) := by decide +kernel
theorem dX5_begin_5 : decode cX5_begin 5 = .ok (.invokevirtual 54, 3) := by decide +kernel
theorem dX5_begin_8 : decode cX5_begin 8 = .ok (.aload_n 0, 1) := by decide +kernel
theorem dX5_begin_9 : decode cX5_begin 9 = .ok (.getfield 10, 3) := by decide +kernel
theorem dX5_begin_12 : decode cX5_begin 12 = .ok (.getfield 74, 3) := by decide +kernel
theorem dX5_begin_15 : decode cX5_begin 15 = .ok (.invokevirtual 78, 3) := by decide +kernel
theorem dX5_begin_18 : decode cX5_begin 18 = .ok (.ifCond .eq 16, 3) := by decide +kernel
theorem dX5_begin_21 : decode cX5_begin 21 = .ok (.aload_n 0, 1) := by decide +kernel
theorem dX5_begin_22 : decode cX5_begin 22 = .ok (.getfield 10, 3) := by decide +kernel
theorem dX5_begin_25 : decode cX5_begin 25 = .ok (.getfield 82, 3) := by decide +kernel
theorem dX5_begin_28 : decode cX5_begin 28 = .ok (.invokevirtual 78, 3) := by decide +kernel
theorem dX5_begin_31 : decode cX5_begin 31 = .ok (.ifCond .ne 13, 3) := by decide +kernel
theorem dX5_begin_34 : decode cX5_begin 34 = .ok (.new 85, 3) := by decide +kernel
theorem dX5_begin_37 : decode cX5_begin 37 = .ok (.dup, 1) := by decide +kernel
theorem dX5_begin_38 : decode cX5_begin 38 = .ok (.ldc 87, 2) := by decide +kernel
theorem dX5_begin_40 : decode cX5_begin 40 = .ok (.invokespecial 89, 3) := by decide +kernel
theorem dX5_begin_43 : decode cX5_begin 43 = .ok (.athrow, 1) := by decide +kernel
theorem dX5_begin_44 : decode cX5_begin 44 = .ok (.aload_n 0, 1) := by decide +kernel
theorem dX5_begin_45 : decode cX5_begin 45 = .ok (.getfield 10, 3) := by decide +kernel
theorem dX5_begin_48 : decode cX5_begin 48 = .ok (.iload_n 1, 1) := by decide +kernel
theorem dX5_begin_49 : decode cX5_begin 49 = .ok (.invokevirtual 92, 3) := by decide +kernel
theorem dX5_begin_52 : decode cX5_begin 52 = .ok (.aload_n 0, 1) := by decide +kernel
theorem dX5_begin_53 : decode cX5_begin 53 = .ok (.getfield 29, 3) := by decide +kernel
theorem dX5_begin_56 : decode cX5_begin 56 = .ok (.iconst 0, 1) := by decide +kernel
theorem dX5_begin_57 : decode cX5_begin 57 = .ok (.invokevirtual 95, 3) := by decide +kernel
theorem dX5_begin_60 : decode cX5_begin 60 = .ok (.aload_n 0, 1) := by decide +kernel
theorem dX5_begin_61 : decode cX5_begin 61 = .ok (.iconst 0, 1) := by decide +kernel
theorem dX5_begin_62 : decode cX5_begin 62 = .ok (.invokevirtual 98, 3) := by decide +kernel
theorem dX5_begin_65 : decode cX5_begin 65 = .ok (.aload_n 0, 1) := by decide +kernel
theorem dX5_begin_66 : decode cX5_begin 66 = .ok (.iconst 1, 1) := by decide +kernel
theorem dX5_begin_67 : decode cX5_begin 67 = .ok (.invokevirtual 98, 3) := by decide +kernel
theorem dX5_begin_70 : decode cX5_begin 70 = .ok (.aload_n 0, 1) := by decide +kernel
theorem dX5_begin_71 : decode cX5_begin 71 = .ok (.getfield 29, 3) := by decide +kernel
theorem dX5_begin_74 : decode cX5_begin 74 = .ok (.iconst 2, 1) := by decide +kernel
theorem dX5_begin_75 : decode cX5_begin 75 = .ok (.iload_n 1, 1) := by decide +kernel
theorem dX5_begin_76 : decode cX5_begin 76 = .ok (.iconst 0, 1) := by decide +kernel
theorem dX5_begin_77 : decode cX5_begin 77 = .ok (.iconst 0, 1) := by decide +kernel
theorem dX5_begin_78 : decode cX5_begin 78 = .ok (.invokevirtual 101, 3) := by decide +kernel
theorem dX5_begin_81 : decode cX5_begin 81 = .ok (.aload_n 0, 1) := by decide +kernel
theorem dX5_begin_82 : decode cX5_begin 82 = .ok (.iconst (-1), 1) := by decide +kernel
theorem dX5_begin_83 : decode cX5_begin 83 = .ok (.putfield 40, 3) := by decide +kernel
theorem dX5_begin_86 : decode cX5_begin 86 = .ok (.aload_n 0, 1) := by decide +kernel
theorem dX5_begin_87 : decode cX5_begin 87 = .ok (.iconst 0, 1) := by decide +kernel
theorem dX5_begin_88 : decode cX5_begin 88 = .ok (.putfield 105, 3) := by decide +kernel
theorem dX5_begin_91 : decode cX5_begin 91 = .ok (.aload_n 0, 1) := by decide +kernel
theorem dX5_begin_92 : decode cX5_begin 92 = .ok (.getfield 10, 3) := by decide +kernel
theorem dX5_begin_95 : decode cX5_begin 95 = .ok (.invokevirtual 108, 3) := by decide +kernel
theorem dX5_begin_98 : decode cX5_begin 98 = .ok (.iconst 1, 1) := by decide +kernel
theorem dX5_begin_99 : decode cX5_begin 99 = .ok (.iadd, 1) := by decide +kernel
theorem dX5_begin_100 : decode cX5_begin 100 = .ok (.ireturn, 1) := by decide +kernel
theorem dX5_serve_0 : decode cX5_serve 0 = .ok (.iload_n 1, 1) := by decide +kernel
theorem dX5_serve_1 : decode cX5_serve 1 = .ok (.invokestatic 51, 3) := by decide +kernel
theorem dX5_serve_4 : decode cX5_serve 4 = .ok (.aload_n 0, 1) := by decide +kernel
theorem dX5_serve_5 : decode cX5_serve 5 = .ok (.invokevirtual 112, 3) := by decide +kernel
theorem dX5_serve_8 : decode cX5_serve 8 = .ok (.aload_n 0, 1) := by decide +kernel
theorem dX5_serve_9 : decode cX5_serve 9 = .ok (.getfield 10, 3) := by decide +kernel
theorem dX5_serve_12 : decode cX5_serve 12 = .ok (.getfield 115, 3) := by decide +kernel
theorem dX5_serve_15 : decode cX5_serve 15 = .ok (.istore_n 2, 1) := by decide +kernel
theorem dX5_serve_16 : decode cX5_serve 16 = .ok (.aload_n 0, 1) := by decide +kernel
theorem dX5_serve_17 : decode cX5_serve 17 = .ok (.getfield 10, 3) := by decide +kernel
theorem dX5_serve_20 : decode cX5_serve 20 = .ok (.iload_n 2, 1) := by decide +kernel
theorem dX5_serve_21 : decode cX5_serve 21 = .ok (.invokevirtual 57, 3) := by decide +kernel
theorem dX5_serve_24 : decode cX5_serve 24 = .ok (.iload_n 1, 1) := by decide +kernel
theorem dX5_serve_25 : decode cX5_serve 25 = .ok (.invokevirtual 118, 3) := by decide +kernel
theorem dX5_serve_28 : decode cX5_serve 28 = .ok (.iconst (-1), 1) := by decide +kernel
theorem dX5_serve_29 : decode cX5_serve 29 = .ok (.if_icmp .ne 13, 3) := by decide +kernel
theorem dX5_serve_32 : decode cX5_serve 32 = .ok (.new 85, 3) := by decide +kernel
theorem dX5_serve_35 : decode cX5_serve 35 = .ok (.dup, 1) := by decide +kernel
theorem dX5_serve_36 : decode cX5_serve 36 = .ok (.ldc 121, 2) := by decide +kernel
theorem dX5_serve_38 : decode cX5_serve 38 = .ok (.invokespecial 89, 3) := by decide +kernel
theorem dX5_serve_41 : decode cX5_serve 41 = .ok (.athrow, 1) := by decide +kernel
theorem dX5_serve_42 : decode cX5_serve 42 = .ok (.aload_n 0, 1) := by decide +kernel
theorem dX5_serve_43 : decode cX5_serve 43 = .ok (.getfield 29, 3) := by decide +kernel
theorem dX5_serve_46 : decode cX5_serve 46 = .ok (.iconst 3, 1) := by decide +kernel
theorem dX5_serve_47 : decode cX5_serve 47 = .ok (.iload_n 2, 1) := by decide +kernel
theorem dX5_serve_48 : decode cX5_serve 48 = .ok (.iload_n 1, 1) := by decide +kernel
theorem dX5_serve_49 : decode cX5_serve 49 = .ok (.iconst 0, 1) := by decide +kernel
theorem dX5_serve_50 : decode cX5_serve 50 = .ok (.invokevirtual 101, 3) := by decide +kernel
theorem dX5_serve_53 : decode cX5_serve 53 = .ok (.aload_n 0, 1) := by decide +kernel
theorem dX5_serve_54 : decode cX5_serve 54 = .ok (.getfield 22, 3) := by decide +kernel
theorem dX5_serve_57 : decode cX5_serve 57 = .ok (.iload_n 2, 1) := by decide +kernel
theorem dX5_serve_58 : decode cX5_serve 58 = .ok (.iload_n 1, 1) := by decide +kernel
theorem dX5_serve_59 : decode cX5_serve 59 = .ok (.invokevirtual 123, 3) := by decide +kernel
theorem dX5_serve_62 : decode cX5_serve 62 = .ok (.aload_n 0, 1) := by decide +kernel
theorem dX5_serve_63 : decode cX5_serve 63 = .ok (.iconst (-1), 1) := by decide +kernel
theorem dX5_serve_64 : decode cX5_serve 64 = .ok (.putfield 40, 3) := by decide +kernel
theorem dX5_serve_67 : decode cX5_serve 67 = .ok (.aload_n 0, 1) := by decide +kernel
theorem dX5_serve_68 : decode cX5_serve 68 = .ok (.getfield 10, 3) := by decide +kernel
theorem dX5_serve_71 : decode cX5_serve 71 = .ok (.iload_n 1, 1) := by decide +kernel
theorem dX5_serve_72 : decode cX5_serve 72 = .ok (.invokevirtual 126, 3) := by decide +kernel
theorem dX5_serve_75 : decode cX5_serve 75 = .ok (.ireturn, 1) := by decide +kernel
theorem dX5_touch_0 : decode cX5_touch 0 = .ok (.iload_n 1, 1) := by decide +kernel
theorem dX5_touch_1 : decode cX5_touch 1 = .ok (.invokestatic 44, 3) := by decide +kernel
theorem dX5_touch_4 : decode cX5_touch 4 = .ok (.iload_n 2, 1) := by decide +kernel
theorem dX5_touch_5 : decode cX5_touch 5 = .ok (.invokestatic 51, 3) := by decide +kernel
theorem dX5_touch_8 : decode cX5_touch 8 = .ok (.iload_n 3, 1) := by decide +kernel
theorem dX5_touch_9 : decode cX5_touch 9 = .ok (.ifCond .lt 8, 3) := by decide +kernel
theorem dX5_touch_12 : decode cX5_touch 12 = .ok (.iload_n 3, 1) := by decide +kernel
theorem dX5_touch_13 : decode cX5_touch 13 = .ok (.iconst 2, 1) := by decide +kernel
theorem dX5_touch_14 : decode cX5_touch 14 = .ok (.if_icmp .le 13, 3) := by decide +kernel
theorem dX5_touch_17 : decode cX5_touch 17 = .ok (.new 130, 3) := by decide +kernel
theorem dX5_touch_20 : decode cX5_touch 20 = .ok (.dup, 1) := by decide +kernel
theorem dX5_touch_21 : decode cX5_touch 21 = .ok (.ldc 132, 2) := by decide +kernel
theorem dX5_touch_23 : decode cX5_touch 23 = .ok (.invokespecial 134, 3) := by decide +kernel
theorem dX5_touch_26 : decode cX5_touch 26 = .ok (.athrow, 1) := by decide +kernel
theorem dX5_touch_27 : decode cX5_touch 27 = .ok (.aload_n 0, 1) := by decide +kernel
theorem dX5_touch_28 : decode cX5_touch 28 = .ok (.invokevirtual 135, 3) := by decide +kernel
theorem dX5_touch_31 : decode cX5_touch 31 = .ok (.aload_n 0, 1) := by decide +kernel
theorem dX5_touch_32 : decode cX5_touch 32 = .ok (.getfield 10, 3) := by decide +kernel
theorem dX5_touch_35 : decode cX5_touch 35 = .ok (.iload_n 1, 1) := by decide +kernel
theorem dX5_touch_36 : decode cX5_touch 36 = .ok (.invokevirtual 57, 3) := by decide +kernel
theorem dX5_touch_39 : decode cX5_touch 39 = .ok (.astore 5, 2) := by decide +kernel
theorem dX5_touch_41 : decode cX5_touch 41 = .ok (.aload 5, 2) := by decide +kernel
theorem dX5_touch_43 : decode cX5_touch 43 = .ok (.iload_n 2, 1) := by decide +kernel
theorem dX5_touch_44 : decode cX5_touch 44 = .ok (.invokevirtual 118, 3) := by decide +kernel
theorem dX5_touch_47 : decode cX5_touch 47 = .ok (.iconst (-1), 1) := by decide +kernel
theorem dX5_touch_48 : decode cX5_touch 48 = .ok (.if_icmp .ne 13, 3) := by decide +kernel
theorem dX5_touch_51 : decode cX5_touch 51 = .ok (.new 85, 3) := by decide +kernel
theorem dX5_touch_54 : decode cX5_touch 54 = .ok (.dup, 1) := by decide +kernel
theorem dX5_touch_55 : decode cX5_touch 55 = .ok (.ldc 121, 2) := by decide +kernel
theorem dX5_touch_57 : decode cX5_touch 57 = .ok (.invokespecial 89, 3) := by decide +kernel
theorem dX5_touch_60 : decode cX5_touch 60 = .ok (.athrow, 1) := by decide +kernel
theorem dX5_touch_61 : decode cX5_touch 61 = .ok (.aload_n 0, 1) := by decide +kernel
theorem dX5_touch_62 : decode cX5_touch 62 = .ok (.getfield 22, 3) := by decide +kernel
theorem dX5_touch_65 : decode cX5_touch 65 = .ok (.iload_n 1, 1) := by decide +kernel
theorem dX5_touch_66 : decode cX5_touch 66 = .ok (.iload_n 2, 1) := by decide +kernel
theorem dX5_touch_67 : decode cX5_touch 67 = .ok (.iload_n 3, 1) := by decide +kernel
theorem dX5_touch_68 : decode cX5_touch 68 = .ok (.invokevirtual 138, 3) := by decide +kernel
theorem dX5_touch_71 : decode cX5_touch 71 = .ok (.istore 6, 2) := by decide +kernel
theorem dX5_touch_73 : decode cX5_touch 73 = .ok (.iload 6, 2) := by decide +kernel
theorem dX5_touch_75 : decode cX5_touch 75 = .ok (.ifCond .ne 14, 3) := by decide +kernel
theorem dX5_touch_78 : decode cX5_touch 78 = .ok (.aload 5, 2) := by decide +kernel
theorem dX5_touch_80 : decode cX5_touch 80 = .ok (.iload_n 2, 1) := by decide +kernel
theorem dX5_touch_81 : decode cX5_touch 81 = .ok (.iload_n 3, 1) := by decide +kernel
theorem dX5_touch_82 : decode cX5_touch 82 = .ok (.iload 4, 2) := by decide +kernel
theorem dX5_touch_84 : decode cX5_touch 84 = .ok (.invokevirtual 142, 3) := by decide +kernel
theorem dX5_touch_87 : decode cX5_touch 87 = .ok (.istore 6, 2) := by decide +kernel
theorem dX5_touch_89 : decode cX5_touch 89 = .ok (.iload 6, 2) := by decide +kernel
theorem dX5_touch_91 : decode cX5_touch 91 = .ok (.ifCond .ne 16, 3) := by decide +kernel
theorem dX5_touch_94 : decode cX5_touch 94 = .ok (.aload_n 0, 1) := by decide +kernel
theorem dX5_touch_95 : decode cX5_touch 95 = .ok (.getfield 22, 3) := by decide +kernel
theorem dX5_touch_98 : decode cX5_touch 98 = .ok (.iload_n 1, 1) := by decide +kernel
theorem dX5_touch_99 : decode cX5_touch 99 = .ok (.iload_n 2, 1) := by decide +kernel
theorem dX5_touch_100 : decode cX5_touch 100 = .ok (.iload_n 3, 1) := by decide +kernel
theorem dX5_touch_101 : decode cX5_touch 101 = .ok (.invokevirtual 145, 3) := by decide +kernel
theorem dX5_touch_104 : decode cX5_touch 104 = .ok (.goto 12, 3) := by decide +kernel
theorem dX5_touch_107 : decode cX5_touch 107 = .ok (.aload_n 0, 1) := by decide +kernel
theorem dX5_touch_108 : decode cX5_touch 108 = .ok (.iconst 1, 1) := by decide +kernel
theorem dX5_touch_109 : decode cX5_touch 109 = .ok (.iload_n 1, 1) := by decide +kernel
theorem dX5_touch_110 : decode cX5_touch 110 = .ok (.isub, 1) := by decide +kernel
theorem dX5_touch_111 : decode cX5_touch 111 = .ok (.iload 6, 2) := by decide +kernel
theorem dX5_touch_113 : decode cX5_touch 113 = .ok (.invokevirtual 149, 3) := by decide +kernel
theorem dX5_touch_116 : decode cX5_touch 116 = .ok (.iload 6, 2) := by decide +kernel
theorem dX5_touch_118 : decode cX5_touch 118 = .ok (.ireturn, 1) := by decide +kernel
theorem dX5_fall_0 : decode cX5_fall 0 = .ok (.iload_n 1, 1) := by decide +kernel
theorem dX5_fall_1 : decode cX5_fall 1 = .ok (.iconst (-1), 1) := by decide +kernel
theorem dX5_fall_2 : decode cX5_fall 2 = .ok (.if_icmp .eq 7, 3) := by decide +kernel
theorem dX5_fall_5 : decode cX5_fall 5 = .ok (.iload_n 1, 1) := by decide +kernel
theorem dX5_fall_6 : decode cX5_fall 6 = .ok (.invokestatic 44, 3) := by decide +kernel
theorem dX5_fall_9 : decode cX5_fall 9 = .ok (.aload_n 0, 1) := by decide +kernel
theorem dX5_fall_10 : decode cX5_fall 10 = .ok (.invokevirtual 135, 3) := by decide +kernel
theorem dX5_fall_13 : decode cX5_fall 13 = .ok (.iload_n 1, 1) := by decide +kernel
theorem dX5_fall_14 : decode cX5_fall 14 = .ok (.iconst (-1), 1) := by decide +kernel
theorem dX5_fall_15 : decode cX5_fall 15 = .ok (.if_icmp .ne 13, 3) := by decide +kernel
theorem dX5_fall_18 : decode cX5_fall 18 = .ok (.aload_n 0, 1) := by decide +kernel
theorem dX5_fall_19 : decode cX5_fall 19 = .ok (.getfield 22, 3) := by decide +kernel
theorem dX5_fall_22 : decode cX5_fall 22 = .ok (.getfield 152, 3) := by decide +kernel
theorem dX5_fall_25 : decode cX5_fall 25 = .ok (.goto 4, 3) := by decide +kernel
theorem dX5_fall_28 : decode cX5_fall 28 = .ok (.iload_n 1, 1) := by decide +kernel
theorem dX5_fall_29 : decode cX5_fall 29 = .ok (.istore_n 2, 1) := by decide +kernel
theorem dX5_fall_30 : decode cX5_fall 30 = .ok (.aload_n 0, 1) := by decide +kernel
theorem dX5_fall_31 : decode cX5_fall 31 = .ok (.iconst 1, 1) := by decide +kernel
theorem dX5_fall_32 : decode cX5_fall 32 = .ok (.iload_n 2, 1) := by decide +kernel
theorem dX5_fall_33 : decode cX5_fall 33 = .ok (.isub, 1) := by decide +kernel
theorem dX5_fall_34 : decode cX5_fall 34 = .ok (.iload_n 1, 1) := by decide +kernel
theorem dX5_fall_35 : decode cX5_fall 35 = .ok (.iconst (-1), 1) := by decide +kernel
theorem dX5_fall_36 : decode cX5_fall 36 = .ok (.if_icmp .ne 8, 3) := by decide +kernel
theorem dX5_fall_39 : decode cX5_fall 39 = .ok (.bipush 7, 2) := by decide +kernel
theorem dX5_fall_41 : decode cX5_fall 41 = .ok (.goto 5, 3) := by decide +kernel
theorem dX5_fall_44 : decode cX5_fall 44 = .ok (.bipush 6, 2) := by decide +kernel
theorem dX5_fall_46 : decode cX5_fall 46 = .ok (.invokevirtual 149, 3) := by decide +kernel
theorem dX5_fall_49 : decode cX5_fall 49 = .ok (.iconst 1, 1) := by decide +kernel
theorem dX5_fall_50 : decode cX5_fall 50 = .ok (.iload_n 2, 1) := by decide +kernel
theorem dX5_fall_51 : decode cX5_fall 51 = .ok (.isub, 1) := by decide +kernel
theorem dX5_fall_52 : decode cX5_fall 52 = .ok (.ireturn, 1) := by decide +kernel
theorem dX5_net_0 : decode cX5_net 0 = .ok (.iload_n 1, 1) := by decide +kernel
theorem dX5_net_1 : decode cX5_net 1 = .ok (.invokestatic 44, 3) := by decide +kernel
theorem dX5_net_4 : decode cX5_net 4 = .ok (.aload_n 0, 1) := by decide +kernel
theorem dX5_net_5 : decode cX5_net 5 = .ok (.invokevirtual 135, 3) := by decide +kernel
theorem dX5_net_8 : decode cX5_net 8 = .ok (.iload_n 2, 1) := by decide +kernel
theorem dX5_net_9 : decode cX5_net 9 = .ok (.ifCond .eq 15, 3) := by decide +kernel
theorem dX5_net_12 : decode cX5_net 12 = .ok (.aload_n 0, 1) := by decide +kernel
theorem dX5_net_13 : decode cX5_net 13 = .ok (.iconst 1, 1) := by decide +kernel
theorem dX5_net_14 : decode cX5_net 14 = .ok (.iload_n 1, 1) := by decide +kernel
theorem dX5_net_15 : decode cX5_net 15 = .ok (.isub, 1) := by decide +kernel
theorem dX5_net_16 : decode cX5_net 16 = .ok (.bipush 8, 2) := by decide +kernel
theorem dX5_net_18 : decode cX5_net 18 = .ok (.invokevirtual 149, 3) := by decide +kernel
theorem dX5_net_21 : decode cX5_net 21 = .ok (.goto 11, 3) := by decide +kernel
theorem dX5_net_24 : decode cX5_net 24 = .ok (.aload_n 0, 1) := by decide +kernel
theorem dX5_net_25 : decode cX5_net 25 = .ok (.getfield 22, 3) := by decide +kernel
theorem dX5_net_28 : decode cX5_net 28 = .ok (.iload_n 1, 1) := by decide +kernel
theorem dX5_net_29 : decode cX5_net 29 = .ok (.invokevirtual 155, 3) := by decide +kernel
theorem dX5_net_32 : decode cX5_net 32 = .ok (.iload_n 2, 1) := by decide +kernel
theorem dX5_net_33 : decode cX5_net 33 = .ok (.ireturn, 1) := by decide +kernel
theorem dX5_find_0 : decode cX5_find 0 = .ok (.aload_n 0, 1) := by decide +kernel
theorem dX5_find_1 : decode cX5_find 1 = .ok (.getfield 22, 3) := by decide +kernel
theorem dX5_find_4 : decode cX5_find 4 = .ok (.getfield 158, 3) := by decide +kernel
theorem dX5_find_7 : decode cX5_find 7 = .ok (.ifCond .ne 14, 3) := by decide +kernel
theorem dX5_find_10 : decode cX5_find 10 = .ok (.aload_n 0, 1) := by decide +kernel
theorem dX5_find_11 : decode cX5_find 11 = .ok (.getfield 10, 3) := by decide +kernel
theorem dX5_find_14 : decode cX5_find 14 = .ok (.getfield 162, 3) := by decide +kernel
theorem dX5_find_17 : decode cX5_find 17 = .ok (.iconst (-1), 1) := by decide +kernel
theorem dX5_find_18 : decode cX5_find 18 = .ok (.if_icmp .ne 13, 3) := by decide +kernel
theorem dX5_find_21 : decode cX5_find 21 = .ok (.new 85, 3) := by decide +kernel
theorem dX5_find_24 : decode cX5_find 24 = .ok (.dup, 1) := by decide +kernel
theorem dX5_find_25 : decode cX5_find 25 = .ok (.ldc 165, 2) := by decide +kernel
theorem dX5_find_27 : decode cX5_find 27 = .ok (.invokespecial 89, 3) := by decide +kernel
theorem dX5_find_30 : decode cX5_find 30 = .ok (.athrow, 1) := by decide +kernel
theorem dX5_find_31 : decode cX5_find 31 = .ok (.aload_n 0, 1) := by decide +kernel
theorem dX5_find_32 : decode cX5_find 32 = .ok (.getfield 29, 3) := by decide +kernel
theorem dX5_find_35 : decode cX5_find 35 = .ok (.iconst 5, 1) := by decide +kernel
theorem dX5_find_36 : decode cX5_find 36 = .ok (.aload_n 0, 1) := by decide +kernel
theorem dX5_find_37 : decode cX5_find 37 = .ok (.getfield 10, 3) := by decide +kernel
theorem dX5_find_40 : decode cX5_find 40 = .ok (.getfield 115, 3) := by decide +kernel
theorem dX5_find_43 : decode cX5_find 43 = .ok (.iconst 0, 1) := by decide +kernel
theorem dX5_find_44 : decode cX5_find 44 = .ok (.iconst 0, 1) := by decide +kernel
theorem dX5_find_45 : decode cX5_find 45 = .ok (.invokevirtual 101, 3) := by decide +kernel
theorem dX5_find_48 : decode cX5_find 48 = .ok (.aload_n 0, 1) := by decide +kernel
theorem dX5_find_49 : decode cX5_find 49 = .ok (.getfield 10, 3) := by decide +kernel
theorem dX5_find_52 : decode cX5_find 52 = .ok (.invokevirtual 167, 3) := by decide +kernel
theorem dX5_find_55 : decode cX5_find 55 = .ok (.istore_n 1, 1) := by decide +kernel
theorem dX5_find_56 : decode cX5_find 56 = .ok (.aload_n 0, 1) := by decide +kernel
theorem dX5_find_57 : decode cX5_find 57 = .ok (.aload_n 0, 1) := by decide +kernel
theorem dX5_find_58 : decode cX5_find 58 = .ok (.getfield 10, 3) := by decide +kernel
theorem dX5_find_61 : decode cX5_find 61 = .ok (.getfield 115, 3) := by decide +kernel
theorem dX5_find_64 : decode cX5_find 64 = .ok (.invokevirtual 170, 3) := by decide +kernel
theorem dX5_find_67 : decode cX5_find 67 = .ok (.aload_n 0, 1) := by decide +kernel
theorem dX5_find_68 : decode cX5_find 68 = .ok (.iconst (-1), 1) := by decide +kernel
theorem dX5_find_69 : decode cX5_find 69 = .ok (.putfield 40, 3) := by decide +kernel
theorem dX5_find_72 : decode cX5_find 72 = .ok (.aload_n 0, 1) := by decide +kernel
theorem dX5_find_73 : decode cX5_find 73 = .ok (.bipush 9, 2) := by decide +kernel
theorem dX5_find_75 : decode cX5_find 75 = .ok (.putfield 105, 3) := by decide +kernel
theorem dX5_find_78 : decode cX5_find 78 = .ok (.iload_n 1, 1) := by decide +kernel
theorem dX5_find_79 : decode cX5_find 79 = .ok (.ireturn, 1) := by decide +kernel
theorem dX5_exchange_0 : decode cX5_exchange 0 = .ok (.iload_n 1, 1) := by decide +kernel
theorem dX5_exchange_1 : decode cX5_exchange 1 = .ok (.invokestatic 44, 3) := by decide +kernel
theorem dX5_exchange_4 : decode cX5_exchange 4 = .ok (.iload_n 2, 1) := by decide +kernel
theorem dX5_exchange_5 : decode cX5_exchange 5 = .ok (.invokestatic 51, 3) := by decide +kernel
theorem dX5_exchange_8 : decode cX5_exchange 8 = .ok (.aload_n 0, 1) := by decide +kernel
theorem dX5_exchange_9 : decode cX5_exchange 9 = .ok (.invokevirtual 112, 3) := by decide +kernel
theorem dX5_exchange_12 : decode cX5_exchange 12 = .ok (.aload_n 0, 1) := by decide +kernel
theorem dX5_exchange_13 : decode cX5_exchange 13 = .ok (.getfield 10, 3) := by decide +kernel
theorem dX5_exchange_16 : decode cX5_exchange 16 = .ok (.iload_n 1, 1) := by decide +kernel
theorem dX5_exchange_17 : decode cX5_exchange 17 = .ok (.invokevirtual 57, 3) := by decide +kernel
theorem dX5_exchange_20 : decode cX5_exchange 20 = .ok (.astore_n 3, 1) := by decide +kernel
theorem dX5_exchange_21 : decode cX5_exchange 21 = .ok (.aload_n 3, 1) := by decide +kernel
theorem dX5_exchange_22 : decode cX5_exchange 22 = .ok (.iload_n 2, 1) := by decide +kernel
theorem dX5_exchange_23 : decode cX5_exchange 23 = .ok (.invokevirtual 173, 3) := by decide +kernel
theorem dX5_exchange_26 : decode cX5_exchange 26 = .ok (.ifCond .ne 13, 3) := by decide +kernel
theorem dX5_exchange_29 : decode cX5_exchange 29 = .ok (.new 85, 3) := by decide +kernel
theorem dX5_exchange_32 : decode cX5_exchange 32 = .ok (.dup, 1) := by decide +kernel
theorem dX5_exchange_33 : decode cX5_exchange 33 = .ok (.ldc 176, 2) := by decide +kernel
theorem dX5_exchange_35 : decode cX5_exchange 35 = .ok (.invokespecial 89, 3) := by decide +kernel
theorem dX5_exchange_38 : decode cX5_exchange 38 = .ok (.athrow, 1) := by decide +kernel
theorem dX5_exchange_39 : decode cX5_exchange 39 = .ok (.aload_n 0, 1) := by decide +kernel
theorem dX5_exchange_40 : decode cX5_exchange 40 = .ok (.getfield 29, 3) := by decide +kernel
theorem dX5_exchange_43 : decode cX5_exchange 43 = .ok (.bipush 6, 2) := by decide +kernel
theorem dX5_exchange_45 : decode cX5_exchange 45 = .ok (.iload_n 1, 1) := by decide +kernel
theorem dX5_exchange_46 : decode cX5_exchange 46 = .ok (.iload_n 2, 1) := by decide +kernel
theorem dX5_exchange_47 : decode cX5_exchange 47 = .ok (.iconst 0, 1) := by decide +kernel
theorem dX5_exchange_48 : decode cX5_exchange 48 = .ok (.invokevirtual 101, 3) := by decide +kernel
theorem dX5_exchange_51 : decode cX5_exchange 51 = .ok (.aload_n 3, 1) := by decide +kernel
theorem dX5_exchange_52 : decode cX5_exchange 52 = .ok (.iload_n 2, 1) := by decide +kernel
theorem dX5_exchange_53 : decode cX5_exchange 53 = .ok (.invokevirtual 178, 3) := by decide +kernel
theorem dX5_exchange_56 : decode cX5_exchange 56 = .ok (.aload_n 0, 1) := by decide +kernel
theorem dX5_exchange_57 : decode cX5_exchange 57 = .ok (.iconst (-1), 1) := by decide +kernel
theorem dX5_exchange_58 : decode cX5_exchange 58 = .ok (.putfield 40, 3) := by decide +kernel
theorem dX5_exchange_61 : decode cX5_exchange 61 = .ok (.aload_n 3, 1) := by decide +kernel
theorem dX5_exchange_62 : decode cX5_exchange 62 = .ok (.invokevirtual 181, 3) := by decide +kernel
theorem dX5_exchange_65 : decode cX5_exchange 65 = .ok (.ireturn, 1) := by decide +kernel
theorem dX5_substitute_0 : decode cX5_substitute 0 = .ok (.iload_n 1, 1) := by decide +kernel
theorem dX5_substitute_1 : decode cX5_substitute 1 = .ok (.invokestatic 44, 3) := by decide +kernel
theorem dX5_substitute_4 : decode cX5_substitute 4 = .ok (.iload_n 2, 1) := by decide +kernel
theorem dX5_substitute_5 : decode cX5_substitute 5 = .ok (.invokestatic 51, 3) := by decide +kernel
theorem dX5_substitute_8 : decode cX5_substitute 8 = .ok (.iload_n 3, 1) := by decide +kernel
theorem dX5_substitute_9 : decode cX5_substitute 9 = .ok (.invokestatic 51, 3) := by decide +kernel
theorem dX5_substitute_12 : decode cX5_substitute 12 = .ok (.aload_n 0, 1) := by decide +kernel
theorem dX5_substitute_13 : decode cX5_substitute 13 = .ok (.invokevirtual 112, 3) := by decide +kernel
theorem dX5_substitute_16 : decode cX5_substitute 16 = .ok (.aload_n 0, 1) := by decide +kernel
theorem dX5_substitute_17 : decode cX5_substitute 17 = .ok (.getfield 10, 3) := by decide +kernel
theorem dX5_substitute_20 : decode cX5_substitute 20 = .ok (.iload_n 1, 1) := by decide +kernel
theorem dX5_substitute_21 : decode cX5_substitute 21 = .ok (.invokevirtual 57, 3) := by decide +kernel
theorem dX5_substitute_24 : decode cX5_substitute 24 = .ok (.astore 4, 2) := by decide +kernel
theorem dX5_substitute_26 : decode cX5_substitute 26 = .ok (.aload 4, 2) := by decide +kernel
theorem dX5_substitute_28 : decode cX5_substitute 28 = .ok (.iload_n 2, 1) := by decide +kernel
theorem dX5_substitute_29 : decode cX5_substitute 29 = .ok (.iload_n 3, 1) := by decide +kernel
theorem dX5_substitute_30 : decode cX5_substitute 30 = .ok (.invokevirtual 184, 3) := by decide +kernel
theorem dX5_substitute_33 : decode cX5_substitute 33 = .ok (.ifCond .ne 13, 3) := by decide +kernel
theorem dX5_substitute_36 : decode cX5_substitute 36 = .ok (.new 85, 3) := by decide +kernel
theorem dX5_substitute_39 : decode cX5_substitute 39 = .ok (.dup, 1) := by decide +kernel
theorem dX5_substitute_40 : decode cX5_substitute 40 = .ok (.ldc 188, 2) := by decide +kernel
theorem dX5_substitute_42 : decode cX5_substitute 42 = .ok (.invokespecial 89, 3) := by decide +kernel
theorem dX5_substitute_45 : decode cX5_substitute 45 = .ok (.athrow, 1) := by decide +kernel
theorem dX5_substitute_46 : decode cX5_substitute 46 = .ok (.aload_n 0, 1) := by decide +kernel
theorem dX5_substitute_47 : decode cX5_substitute 47 = .ok (.getfield 29, 3) := by decide +kernel
theorem dX5_substitute_50 : decode cX5_substitute 50 = .ok (.bipush 7, 2) := by decide +kernel
theorem dX5_substitute_52 : decode cX5_substitute 52 = .ok (.iload_n 1, 1) := by decide +kernel
theorem dX5_substitute_53 : decode cX5_substitute 53 = .ok (.iload_n 2, 1) := by decide +kernel
theorem dX5_substitute_54 : decode cX5_substitute 54 = .ok (.iload_n 3, 1) := by decide +kernel
theorem dX5_substitute_55 : decode cX5_substitute 55 = .ok (.invokevirtual 101, 3) := by decide +kernel
theorem dX5_substitute_58 : decode cX5_substitute 58 = .ok (.aload 4, 2) := by decide +kernel
theorem dX5_substitute_60 : decode cX5_substitute 60 = .ok (.iload_n 2, 1) := by decide +kernel
theorem dX5_substitute_61 : decode cX5_substitute 61 = .ok (.iload_n 3, 1) := by decide +kernel
theorem dX5_substitute_62 : decode cX5_substitute 62 = .ok (.invokevirtual 190, 3) := by decide +kernel
theorem dX5_substitute_65 : decode cX5_substitute 65 = .ok (.aload_n 0, 1) := by decide +kernel
theorem dX5_substitute_66 : decode cX5_substitute 66 = .ok (.iconst (-1), 1) := by decide +kernel
theorem dX5_substitute_67 : decode cX5_substitute 67 = .ok (.putfield 40, 3) := by decide +kernel
theorem dX5_substitute_70 : decode cX5_substitute 70 = .ok (.aload 4, 2) := by decide +kernel
theorem dX5_substitute_72 : decode cX5_substitute 72 = .ok (.getfield 193, 3) := by decide +kernel
theorem dX5_substitute_75 : decode cX5_substitute 75 = .ok (.ireturn, 1) := by decide +kernel
theorem dX5_challenge_0 : decode cX5_challenge 0 = .ok (.iload_n 1, 1) := by decide +kernel
theorem dX5_challenge_1 : decode cX5_challenge 1 = .ok (.invokestatic 44, 3) := by decide +kernel
theorem dX5_challenge_4 : decode cX5_challenge 4 = .ok (.aload_n 0, 1) := by decide +kernel
theorem dX5_challenge_5 : decode cX5_challenge 5 = .ok (.getfield 10, 3) := by decide +kernel
theorem dX5_challenge_8 : decode cX5_challenge 8 = .ok (.iload_n 1, 1) := by decide +kernel
theorem dX5_challenge_9 : decode cX5_challenge 9 = .ok (.invokevirtual 57, 3) := by decide +kernel
theorem dX5_challenge_12 : decode cX5_challenge 12 = .ok (.astore_n 2, 1) := by decide +kernel
theorem dX5_challenge_13 : decode cX5_challenge 13 = .ok (.aload_n 0, 1) := by decide +kernel
theorem dX5_challenge_14 : decode cX5_challenge 14 = .ok (.getfield 40, 3) := by decide +kernel
theorem dX5_challenge_17 : decode cX5_challenge 17 = .ok (.iload_n 1, 1) := by decide +kernel
theorem dX5_challenge_18 : decode cX5_challenge 18 = .ok (.if_icmp .ne 10, 3) := by decide +kernel
theorem dX5_challenge_21 : decode cX5_challenge 21 = .ok (.aload_n 2, 1) := by decide +kernel
theorem dX5_challenge_22 : decode cX5_challenge 22 = .ok (.getfield 196, 3) := by decide +kernel
theorem dX5_challenge_25 : decode cX5_challenge 25 = .ok (.ifCond .ne 13, 3) := by decide +kernel
theorem dX5_challenge_28 : decode cX5_challenge 28 = .ok (.new 85, 3) := by decide +kernel
theorem dX5_challenge_31 : decode cX5_challenge 31 = .ok (.dup, 1) := by decide +kernel
theorem dX5_challenge_32 : decode cX5_challenge 32 = .ok (.ldc 199, 2) := by decide +kernel
theorem dX5_challenge_34 : decode cX5_challenge 34 = .ok (.invokespecial 89, 3) := by decide +kernel
theorem dX5_challenge_37 : decode cX5_challenge 37 = .ok (.athrow, 1) := by decide +kernel
theorem dX5_challenge_38 : decode cX5_challenge 38 = .ok (.aload_n 0, 1) := by decide +kernel
theorem dX5_challenge_39 : decode cX5_challenge 39 = .ok (.getfield 22, 3) := by decide +kernel
theorem dX5_challenge_42 : decode cX5_challenge 42 = .ok (.iconst 1, 1) := by decide +kernel
theorem dX5_challenge_43 : decode cX5_challenge 43 = .ok (.iload_n 1, 1) := by decide +kernel
theorem dX5_challenge_44 : decode cX5_challenge 44 = .ok (.isub, 1) := by decide +kernel
theorem dX5_challenge_45 : decode cX5_challenge 45 = .ok (.invokevirtual 201, 3) := by decide +kernel
theorem dX5_challenge_48 : decode cX5_challenge 48 = .ok (.istore_n 3, 1) := by decide +kernel
theorem dX5_challenge_49 : decode cX5_challenge 49 = .ok (.iload_n 3, 1) := by decide +kernel
theorem dX5_challenge_50 : decode cX5_challenge 50 = .ok (.ifCond .eq 35, 3) := by decide +kernel
theorem dX5_challenge_53 : decode cX5_challenge 53 = .ok (.aload_n 0, 1) := by decide +kernel
theorem dX5_challenge_54 : decode cX5_challenge 54 = .ok (.getfield 10, 3) := by decide +kernel
theorem dX5_challenge_57 : decode cX5_challenge 57 = .ok (.aload_n 0, 1) := by decide +kernel
theorem dX5_challenge_58 : decode cX5_challenge 58 = .ok (.getfield 16, 3) := by decide +kernel
theorem dX5_challenge_61 : decode cX5_challenge 61 = .ok (.invokevirtual 204, 3) := by decide +kernel
theorem dX5_challenge_64 : decode cX5_challenge 64 = .ok (.aload_n 0, 1) := by decide +kernel
theorem dX5_challenge_65 : decode cX5_challenge 65 = .ok (.getfield 29, 3) := by decide +kernel
theorem dX5_challenge_68 : decode cX5_challenge 68 = .ok (.aload_n 0, 1) := by decide +kernel
theorem dX5_challenge_69 : decode cX5_challenge 69 = .ok (.getfield 208, 3) := by decide +kernel
theorem dX5_challenge_72 : decode cX5_challenge 72 = .ok (.invokevirtual 95, 3) := by decide +kernel
theorem dX5_challenge_75 : decode cX5_challenge 75 = .ok (.aload_n 0, 1) := by decide +kernel
theorem dX5_challenge_76 : decode cX5_challenge 76 = .ok (.iload_n 1, 1) := by decide +kernel
theorem dX5_challenge_77 : decode cX5_challenge 77 = .ok (.bipush 8, 2) := by decide +kernel
theorem dX5_challenge_79 : decode cX5_challenge 79 = .ok (.invokevirtual 149, 3) := by decide +kernel
theorem dX5_challenge_82 : decode cX5_challenge 82 = .ok (.goto 13, 3) := by decide +kernel
theorem dX5_challenge_85 : decode cX5_challenge 85 = .ok (.aload_n 2, 1) := by decide +kernel
theorem dX5_challenge_86 : decode cX5_challenge 86 = .ok (.dup, 1) := by decide +kernel
theorem dX5_challenge_87 : decode cX5_challenge 87 = .ok (.getfield 196, 3) := by decide +kernel
theorem dX5_challenge_90 : decode cX5_challenge 90 = .ok (.iconst 1, 1) := by decide +kernel
theorem dX5_challenge_91 : decode cX5_challenge 91 = .ok (.isub, 1) := by decide +kernel
theorem dX5_challenge_92 : decode cX5_challenge 92 = .ok (.putfield 196, 3) := by decide +kernel
theorem dX5_challenge_95 : decode cX5_challenge 95 = .ok (.aload_n 0, 1) := by decide +kernel
theorem dX5_challenge_96 : decode cX5_challenge 96 = .ok (.iconst (-1), 1) := by decide +kernel
theorem dX5_challenge_97 : decode cX5_challenge 97 = .ok (.putfield 40, 3) := by decide +kernel
theorem dX5_challenge_100 : decode cX5_challenge 100 = .ok (.iload_n 3, 1) := by decide +kernel
theorem dX5_challenge_101 : decode cX5_challenge 101 = .ok (.ireturn, 1) := by decide +kernel
theorem dX5_points_0 : decode cX5_points 0 = .ok (.iload_n 1, 1) := by decide +kernel
theorem dX5_points_1 : decode cX5_points 1 = .ok (.invokestatic 44, 3) := by decide +kernel
theorem dX5_points_4 : decode cX5_points 4 = .ok (.aload_n 0, 1) := by decide +kernel
theorem dX5_points_5 : decode cX5_points 5 = .ok (.getfield 10, 3) := by decide +kernel
theorem dX5_points_8 : decode cX5_points 8 = .ok (.iload_n 1, 1) := by decide +kernel
theorem dX5_points_9 : decode cX5_points 9 = .ok (.invokevirtual 57, 3) := by decide +kernel
theorem dX5_points_12 : decode cX5_points 12 = .ok (.getfield 211, 3) := by decide +kernel
theorem dX5_points_15 : decode cX5_points 15 = .ok (.ireturn, 1) := by decide +kernel
theorem dX5_pointsAnew_0 : decode cX5_pointsAnew 0 = .ok (.iload_n 1, 1) := by decide +kernel
theorem dX5_pointsAnew_1 : decode cX5_pointsAnew 1 = .ok (.invokestatic 44, 3) := by decide +kernel
theorem dX5_pointsAnew_4 : decode cX5_pointsAnew 4 = .ok (.aload_n 0, 1) := by decide +kernel
theorem dX5_pointsAnew_5 : decode cX5_pointsAnew 5 = .ok (.getfield 36, 3) := by decide +kernel
theorem dX5_pointsAnew_8 : decode cX5_pointsAnew 8 = .ok (.aload_n 0, 1) := by decide +kernel
theorem dX5_pointsAnew_9 : decode cX5_pointsAnew 9 = .ok (.getfield 29, 3) := by decide +kernel
theorem dX5_pointsAnew_12 : decode cX5_pointsAnew 12 = .ok (.invokevirtual 214, 3) := by decide +kernel
theorem dX5_pointsAnew_15 : decode cX5_pointsAnew 15 = .ok (.aload_n 0, 1) := by decide +kernel
theorem dX5_pointsAnew_16 : decode cX5_pointsAnew 16 = .ok (.getfield 36, 3) := by decide +kernel
theorem dX5_pointsAnew_19 : decode cX5_pointsAnew 19 = .ok (.getfield 218, 3) := by decide +kernel
theorem dX5_pointsAnew_22 : decode cX5_pointsAnew 22 = .ok (.iload_n 1, 1) := by decide +kernel
theorem dX5_pointsAnew_23 : decode cX5_pointsAnew 23 = .ok (.invokevirtual 57, 3) := by decide +kernel
theorem dX5_pointsAnew_26 : decode cX5_pointsAnew 26 = .ok (.getfield 211, 3) := by decide +kernel
theorem dX5_pointsAnew_29 : decode cX5_pointsAnew 29 = .ok (.ireturn, 1) := by decide +kernel
theorem dX5_sets_0 : decode cX5_sets 0 = .ok (.iload_n 1, 1) := by decide +kernel
theorem dX5_sets_1 : decode cX5_sets 1 = .ok (.invokestatic 44, 3) := by decide +kernel
theorem dX5_sets_4 : decode cX5_sets 4 = .ok (.aload_n 0, 1) := by decide +kernel
theorem dX5_sets_5 : decode cX5_sets 5 = .ok (.getfield 10, 3) := by decide +kernel
theorem dX5_sets_8 : decode cX5_sets 8 = .ok (.iload_n 1, 1) := by decide +kernel
theorem dX5_sets_9 : decode cX5_sets 9 = .ok (.invokevirtual 57, 3) := by decide +kernel
theorem dX5_sets_12 : decode cX5_sets 12 = .ok (.getfield 219, 3) := by decide +kernel
theorem dX5_sets_15 : decode cX5_sets 15 = .ok (.ireturn, 1) := by decide +kernel
theorem dX5_at_0 : decode cX5_at 0 = .ok (.iload_n 1, 1) := by decide +kernel
theorem dX5_at_1 : decode cX5_at 1 = .ok (.invokestatic 44, 3) := by decide +kernel
theorem dX5_at_4 : decode cX5_at 4 = .ok (.iload_n 2, 1) := by decide +kernel
theorem dX5_at_5 : decode cX5_at 5 = .ok (.invokestatic 48, 3) := by decide +kernel
theorem dX5_at_8 : decode cX5_at 8 = .ok (.aload_n 0, 1) := by decide +kernel
theorem dX5_at_9 : decode cX5_at 9 = .ok (.getfield 10, 3) := by decide +kernel
theorem dX5_at_12 : decode cX5_at 12 = .ok (.iload_n 1, 1) := by decide +kernel
theorem dX5_at_13 : decode cX5_at 13 = .ok (.invokevirtual 57, 3) := by decide +kernel
theorem dX5_at_16 : decode cX5_at 16 = .ok (.iload_n 2, 1) := by decide +kernel
theorem dX5_at_17 : decode cX5_at 17 = .ok (.invokevirtual 61, 3) := by decide +kernel
theorem dX5_at_20 : decode cX5_at 20 = .ok (.ireturn, 1) := by decide +kernel
theorem dX5_atAnew_0 : decode cX5_atAnew 0 = .ok (.iload_n 1, 1) := by decide +kernel
theorem dX5_atAnew_1 : decode cX5_atAnew 1 = .ok (.invokestatic 44, 3) := by decide +kernel
theorem dX5_atAnew_4 : decode cX5_atAnew 4 = .ok (.iload_n 2, 1) := by decide +kernel
theorem dX5_atAnew_5 : decode cX5_atAnew 5 = .ok (.invokestatic 48, 3) := by decide +kernel
theorem dX5_atAnew_8 : decode cX5_atAnew 8 = .ok (.aload_n 0, 1) := by decide +kernel
theorem dX5_atAnew_9 : decode cX5_atAnew 9 = .ok (.getfield 10, 3) := by decide +kernel
theorem dX5_atAnew_12 : decode cX5_atAnew 12 = .ok (.invokevirtual 222, 3) := by decide +kernel
theorem dX5_atAnew_15 : decode cX5_atAnew 15 = .ok (.ifCond .ne 5, 3) := by decide +kernel
theorem dX5_atAnew_18 : decode cX5_atAnew 18 = .ok (.iconst (-1), 1) := by decide +kernel
theorem dX5_atAnew_19 : decode cX5_atAnew 19 = .ok (.ireturn, 1) := by decide +kernel
theorem dX5_atAnew_20 : decode cX5_atAnew 20 = .ok (.aload_n 0, 1) := by decide +kernel
theorem dX5_atAnew_21 : decode cX5_atAnew 21 = .ok (.getfield 36, 3) := by decide +kernel
theorem dX5_atAnew_24 : decode cX5_atAnew 24 = .ok (.aload_n 0, 1) := by decide +kernel
theorem dX5_atAnew_25 : decode cX5_atAnew 25 = .ok (.getfield 29, 3) := by decide +kernel
theorem dX5_atAnew_28 : decode cX5_atAnew 28 = .ok (.invokevirtual 214, 3) := by decide +kernel
theorem dX5_atAnew_31 : decode cX5_atAnew 31 = .ok (.aload_n 0, 1) := by decide +kernel
theorem dX5_atAnew_32 : decode cX5_atAnew 32 = .ok (.getfield 36, 3) := by decide +kernel
theorem dX5_atAnew_35 : decode cX5_atAnew 35 = .ok (.getfield 218, 3) := by decide +kernel
theorem dX5_atAnew_38 : decode cX5_atAnew 38 = .ok (.iload_n 1, 1) := by decide +kernel
theorem dX5_atAnew_39 : decode cX5_atAnew 39 = .ok (.invokevirtual 57, 3) := by decide +kernel
theorem dX5_atAnew_42 : decode cX5_atAnew 42 = .ok (.iload_n 2, 1) := by decide +kernel
theorem dX5_atAnew_43 : decode cX5_atAnew 43 = .ok (.invokevirtual 61, 3) := by decide +kernel
theorem dX5_atAnew_46 : decode cX5_atAnew 46 = .ok (.ireturn, 1) := by decide +kernel
theorem dX5_about_0 : decode cX5_about 0 = .ok (.iload_n 1, 1) := by decide +kernel
theorem dX5_about_1 : decode cX5_about 1 = .ok (.tableswitch 102 0 4 #[35, 51, 67, 75, 80], 35) := by decide +kernel
theorem dX5_about_36 : decode cX5_about 36 = .ok (.aload_n 0, 1) := by decide +kernel
theorem dX5_about_37 : decode cX5_about 37 = .ok (.getfield 10, 3) := by decide +kernel
theorem dX5_about_40 : decode cX5_about 40 = .ok (.invokevirtual 222, 3) := by decide +kernel
theorem dX5_about_43 : decode cX5_about 43 = .ok (.ifCond .eq 7, 3) := by decide +kernel
theorem dX5_about_46 : decode cX5_about 46 = .ok (.iconst 1, 1) := by decide +kernel
theorem dX5_about_47 : decode cX5_about 47 = .ok (.goto 4, 3) := by decide +kernel
theorem dX5_about_50 : decode cX5_about 50 = .ok (.iconst 0, 1) := by decide +kernel
theorem dX5_about_51 : decode cX5_about 51 = .ok (.ireturn, 1) := by decide +kernel
theorem dX5_about_52 : decode cX5_about 52 = .ok (.aload_n 0, 1) := by decide +kernel
theorem dX5_about_53 : decode cX5_about 53 = .ok (.getfield 22, 3) := by decide +kernel
theorem dX5_about_56 : decode cX5_about 56 = .ok (.getfield 158, 3) := by decide +kernel
theorem dX5_about_59 : decode cX5_about 59 = .ok (.ifCond .eq 7, 3) := by decide +kernel
theorem dX5_about_62 : decode cX5_about 62 = .ok (.iconst 1, 1) := by decide +kernel
theorem dX5_about_63 : decode cX5_about 63 = .ok (.goto 4, 3) := by decide +kernel
theorem dX5_about_66 : decode cX5_about 66 = .ok (.iconst 0, 1) := by decide +kernel
theorem dX5_about_67 : decode cX5_about 67 = .ok (.ireturn, 1) := by decide +kernel
theorem dX5_about_68 : decode cX5_about 68 = .ok (.aload_n 0, 1) := by decide +kernel
theorem dX5_about_69 : decode cX5_about 69 = .ok (.getfield 10, 3) := by decide +kernel
theorem dX5_about_72 : decode cX5_about 72 = .ok (.getfield 115, 3) := by decide +kernel
theorem dX5_about_75 : decode cX5_about 75 = .ok (.ireturn, 1) := by decide +kernel
theorem dX5_about_76 : decode cX5_about 76 = .ok (.aload_n 0, 1) := by decide +kernel
theorem dX5_about_77 : decode cX5_about 77 = .ok (.getfield 105, 3) := by decide +kernel
theorem dX5_about_80 : decode cX5_about 80 = .ok (.ireturn, 1) := by decide +kernel
theorem dX5_about_81 : decode cX5_about 81 = .ok (.aload_n 0, 1) := by decide +kernel
theorem dX5_about_82 : decode cX5_about 82 = .ok (.getfield 22, 3) := by decide +kernel
theorem dX5_about_85 : decode cX5_about 85 = .ok (.getfield 158, 3) := by decide +kernel
theorem dX5_about_88 : decode cX5_about 88 = .ok (.ifCond .eq 13, 3) := by decide +kernel
theorem dX5_about_91 : decode cX5_about 91 = .ok (.aload_n 0, 1) := by decide +kernel
theorem dX5_about_92 : decode cX5_about 92 = .ok (.getfield 22, 3) := by decide +kernel
theorem dX5_about_95 : decode cX5_about 95 = .ok (.getfield 225, 3) := by decide +kernel
theorem dX5_about_98 : decode cX5_about 98 = .ok (.goto 4, 3) := by decide +kernel
theorem dX5_about_101 : decode cX5_about 101 = .ok (.iconst (-1), 1) := by decide +kernel
theorem dX5_about_102 : decode cX5_about 102 = .ok (.ireturn, 1) := by decide +kernel
theorem dX5_about_103 : decode cX5_about 103 = .ok (.new 130, 3) := by decide +kernel
theorem dX5_about_106 : decode cX5_about 106 = .ok (.dup, 1) := by decide +kernel
theorem dX5_about_107 : decode cX5_about 107 = .ok (.ldc 228, 2) := by decide +kernel
theorem dX5_about_109 : decode cX5_about 109 = .ok (.invokespecial 134, 3) := by decide +kernel
theorem dX5_about_112 : decode cX5_about 112 = .ok (.athrow, 1) := by decide +kernel
theorem dX5_of_0 : decode cX5_of 0 = .ok (.iload_n 1, 1) := by decide +kernel
theorem dX5_of_1 : decode cX5_of 1 = .ok (.invokestatic 44, 3) := by decide +kernel
theorem dX5_of_4 : decode cX5_of 4 = .ok (.iload_n 2, 1) := by decide +kernel
theorem dX5_of_5 : decode cX5_of 5 = .ok (.ifCond .lt 8, 3) := by decide +kernel
theorem dX5_of_8 : decode cX5_of 8 = .ok (.iload_n 2, 1) := by decide +kernel
theorem dX5_of_9 : decode cX5_of 9 = .ok (.iconst 1, 1) := by decide +kernel
theorem dX5_of_10 : decode cX5_of 10 = .ok (.if_icmp .le 13, 3) := by decide +kernel
theorem dX5_of_13 : decode cX5_of 13 = .ok (.new 130, 3) := by decide +kernel
theorem dX5_of_16 : decode cX5_of 16 = .ok (.dup, 1) := by decide +kernel
theorem dX5_of_17 : decode cX5_of 17 = .ok (.ldc 230, 2) := by decide +kernel
theorem dX5_of_19 : decode cX5_of 19 = .ok (.invokespecial 134, 3) := by decide +kernel
theorem dX5_of_22 : decode cX5_of 22 = .ok (.athrow, 1) := by decide +kernel
theorem dX5_of_23 : decode cX5_of 23 = .ok (.aload_n 0, 1) := by decide +kernel
theorem dX5_of_24 : decode cX5_of 24 = .ok (.getfield 10, 3) := by decide +kernel
theorem dX5_of_27 : decode cX5_of 27 = .ok (.iload_n 1, 1) := by decide +kernel
theorem dX5_of_28 : decode cX5_of 28 = .ok (.invokevirtual 57, 3) := by decide +kernel
theorem dX5_of_31 : decode cX5_of 31 = .ok (.astore_n 3, 1) := by decide +kernel
theorem dX5_of_32 : decode cX5_of 32 = .ok (.iload_n 2, 1) := by decide +kernel
theorem dX5_of_33 : decode cX5_of 33 = .ok (.ifCond .ne 10, 3) := by decide +kernel
theorem dX5_of_36 : decode cX5_of 36 = .ok (.aload_n 3, 1) := by decide +kernel
theorem dX5_of_37 : decode cX5_of 37 = .ok (.getfield 193, 3) := by decide +kernel
theorem dX5_of_40 : decode cX5_of 40 = .ok (.goto 7, 3) := by decide +kernel
theorem dX5_of_43 : decode cX5_of 43 = .ok (.aload_n 3, 1) := by decide +kernel
theorem dX5_of_44 : decode cX5_of 44 = .ok (.getfield 196, 3) := by decide +kernel
theorem dX5_of_47 : decode cX5_of 47 = .ok (.ireturn, 1) := by decide +kernel
theorem dX5_lost_0 : decode cX5_lost 0 = .ok (.iload_n 1, 1) := by decide +kernel
theorem dX5_lost_1 : decode cX5_lost 1 = .ok (.invokestatic 44, 3) := by decide +kernel
theorem dX5_lost_4 : decode cX5_lost 4 = .ok (.iload_n 2, 1) := by decide +kernel
theorem dX5_lost_5 : decode cX5_lost 5 = .ok (.ifCond .lt 9, 3) := by decide +kernel
theorem dX5_lost_8 : decode cX5_lost 8 = .ok (.iload_n 2, 1) := by decide +kernel
theorem dX5_lost_9 : decode cX5_lost 9 = .ok (.bipush 6, 2) := by decide +kernel
theorem dX5_lost_11 : decode cX5_lost 11 = .ok (.if_icmp .lt 13, 3) := by decide +kernel
theorem dX5_lost_14 : decode cX5_lost 14 = .ok (.new 130, 3) := by decide +kernel
theorem dX5_lost_17 : decode cX5_lost 17 = .ok (.dup, 1) := by decide +kernel
theorem dX5_lost_18 : decode cX5_lost 18 = .ok (.ldc 232, 2) := by decide +kernel
theorem dX5_lost_20 : decode cX5_lost 20 = .ok (.invokespecial 134, 3) := by decide +kernel
theorem dX5_lost_23 : decode cX5_lost 23 = .ok (.athrow, 1) := by decide +kernel
theorem dX5_lost_24 : decode cX5_lost 24 = .ok (.aload_n 0, 1) := by decide +kernel
theorem dX5_lost_25 : decode cX5_lost 25 = .ok (.getfield 36, 3) := by decide +kernel
theorem dX5_lost_28 : decode cX5_lost 28 = .ok (.aload_n 0, 1) := by decide +kernel
theorem dX5_lost_29 : decode cX5_lost 29 = .ok (.getfield 29, 3) := by decide +kernel
theorem dX5_lost_32 : decode cX5_lost 32 = .ok (.invokevirtual 214, 3) := by decide +kernel
theorem dX5_lost_35 : decode cX5_lost 35 = .ok (.aload_n 0, 1) := by decide +kernel
theorem dX5_lost_36 : decode cX5_lost 36 = .ok (.getfield 36, 3) := by decide +kernel
theorem dX5_lost_39 : decode cX5_lost 39 = .ok (.iload_n 1, 1) := by decide +kernel
theorem dX5_lost_40 : decode cX5_lost 40 = .ok (.iload_n 2, 1) := by decide +kernel
theorem dX5_lost_41 : decode cX5_lost 41 = .ok (.invokevirtual 234, 3) := by decide +kernel
theorem dX5_lost_44 : decode cX5_lost 44 = .ok (.ireturn, 1) := by decide +kernel
theorem dX5_checkTeam_0 : decode cX5_checkTeam 0 = .ok (.iload_n 0, 1) := by decide +kernel
theorem dX5_checkTeam_1 : decode cX5_checkTeam 1 = .ok (.ifCond .lt 8, 3) := by decide +kernel
theorem dX5_checkTeam_4 : decode cX5_checkTeam 4 = .ok (.iload_n 0, 1) := by decide +kernel
theorem dX5_checkTeam_5 : decode cX5_checkTeam 5 = .ok (.iconst 1, 1) := by decide +kernel
theorem dX5_checkTeam_6 : decode cX5_checkTeam 6 = .ok (.if_icmp .le 13, 3) := by decide +kernel
theorem dX5_checkTeam_9 : decode cX5_checkTeam 9 = .ok (.new 238, 3) := by decide +kernel
theorem dX5_checkTeam_12 : decode cX5_checkTeam 12 = .ok (.dup, 1) := by decide +kernel
theorem dX5_checkTeam_13 : decode cX5_checkTeam 13 = .ok (.ldc 240, 2) := by decide +kernel
theorem dX5_checkTeam_15 : decode cX5_checkTeam 15 = .ok (.invokespecial 242, 3) := by decide +kernel
theorem dX5_checkTeam_18 : decode cX5_checkTeam 18 = .ok (.athrow, 1) := by decide +kernel
theorem dX5_checkTeam_19 : decode cX5_checkTeam 19 = .ok (.return_, 1) := by decide +kernel
theorem dX5_checkPlace_0 : decode cX5_checkPlace 0 = .ok (.iload_n 0, 1) := by decide +kernel
theorem dX5_checkPlace_1 : decode cX5_checkPlace 1 = .ok (.iconst 1, 1) := by decide +kernel
theorem dX5_checkPlace_2 : decode cX5_checkPlace 2 = .ok (.if_icmp .lt 9, 3) := by decide +kernel
theorem dX5_checkPlace_5 : decode cX5_checkPlace 5 = .ok (.iload_n 0, 1) := by decide +kernel
theorem dX5_checkPlace_6 : decode cX5_checkPlace 6 = .ok (.bipush 6, 2) := by decide +kernel
theorem dX5_checkPlace_8 : decode cX5_checkPlace 8 = .ok (.if_icmp .le 13, 3) := by decide +kernel
theorem dX5_checkPlace_11 : decode cX5_checkPlace 11 = .ok (.new 238, 3) := by decide +kernel
theorem dX5_checkPlace_14 : decode cX5_checkPlace 14 = .ok (.dup, 1) := by decide +kernel
theorem dX5_checkPlace_15 : decode cX5_checkPlace 15 = .ok (.ldc 243, 2) := by decide +kernel
theorem dX5_checkPlace_17 : decode cX5_checkPlace 17 = .ok (.invokespecial 242, 3) := by decide +kernel
theorem dX5_checkPlace_20 : decode cX5_checkPlace 20 = .ok (.athrow, 1) := by decide +kernel
theorem dX5_checkPlace_21 : decode cX5_checkPlace 21 = .ok (.return_, 1) := by decide +kernel
theorem dX5_checkShirt_0 : decode cX5_checkShirt 0 = .ok (.iload_n 0, 1) := by decide +kernel
theorem dX5_checkShirt_1 : decode cX5_checkShirt 1 = .ok (.iconst 1, 1) := by decide +kernel
theorem dX5_checkShirt_2 : decode cX5_checkShirt 2 = .ok (.if_icmp .lt 9, 3) := by decide +kernel
theorem dX5_checkShirt_5 : decode cX5_checkShirt 5 = .ok (.iload_n 0, 1) := by decide +kernel
theorem dX5_checkShirt_6 : decode cX5_checkShirt 6 = .ok (.bipush 20, 2) := by decide +kernel
theorem dX5_checkShirt_8 : decode cX5_checkShirt 8 = .ok (.if_icmp .le 13, 3) := by decide +kernel
theorem dX5_checkShirt_11 : decode cX5_checkShirt 11 = .ok (.new 238, 3) := by decide +kernel
theorem dX5_checkShirt_14 : decode cX5_checkShirt 14 = .ok (.dup, 1) := by decide +kernel
theorem dX5_checkShirt_15 : decode cX5_checkShirt 15 = .ok (.ldc 245, 2) := by decide +kernel
theorem dX5_checkShirt_17 : decode cX5_checkShirt 17 = .ok (.invokespecial 242, 3) := by decide +kernel
theorem dX5_checkShirt_20 : decode cX5_checkShirt 20 = .ok (.athrow, 1) := by decide +kernel
theorem dX5_checkShirt_21 : decode cX5_checkShirt 21 = .ok (.return_, 1) := by decide +kernel
theorem dX5_checkAheadOfSet_0 : decode cX5_checkAheadOfSet 0 = .ok (.aload_n 0, 1) := by decide +kernel
theorem dX5_checkAheadOfSet_1 : decode cX5_checkAheadOfSet 1 = .ok (.getfield 10, 3) := by decide +kernel
theorem dX5_checkAheadOfSet_4 : decode cX5_checkAheadOfSet 4 = .ok (.invokevirtual 222, 3) := by decide +kernel
theorem dX5_checkAheadOfSet_7 : decode cX5_checkAheadOfSet 7 = .ok (.ifCond .ne 13, 3) := by decide +kernel
theorem dX5_checkAheadOfSet_10 : decode cX5_checkAheadOfSet 10 = .ok (.aload_n 0, 1) := by decide +kernel
theorem dX5_checkAheadOfSet_11 : decode cX5_checkAheadOfSet 11 = .ok (.getfield 10, 3) := by decide +kernel
theorem dX5_checkAheadOfSet_14 : decode cX5_checkAheadOfSet 14 = .ok (.invokevirtual 247, 3) := by decide +kernel
theorem dX5_checkAheadOfSet_17 : decode cX5_checkAheadOfSet 17 = .ok (.ifCond .eq 13, 3) := by decide +kernel
theorem dX5_checkAheadOfSet_20 : decode cX5_checkAheadOfSet 20 = .ok (.new 85, 3) := by decide +kernel
theorem dX5_checkAheadOfSet_23 : decode cX5_checkAheadOfSet 23 = .ok (.dup, 1) := by decide +kernel
theorem dX5_checkAheadOfSet_24 : decode cX5_checkAheadOfSet 24 = .ok (.ldc 250, 2) := by decide +kernel
theorem dX5_checkAheadOfSet_26 : decode cX5_checkAheadOfSet 26 = .ok (.invokespecial 89, 3) := by decide +kernel
theorem dX5_checkAheadOfSet_29 : decode cX5_checkAheadOfSet 29 = .ok (.athrow, 1) := by decide +kernel
theorem dX5_checkAheadOfSet_30 : decode cX5_checkAheadOfSet 30 = .ok (.return_, 1) := by decide +kernel
theorem dX5_checkBetweenRallies_0 : decode cX5_checkBetweenRallies 0 = .ok (.aload_n 0, 1) := by decide +kernel
theorem dX5_checkBetweenRallies_1 : decode cX5_checkBetweenRallies 1 = .ok (.getfield 10, 3) := by decide +kernel
theorem dX5_checkBetweenRallies_4 : decode cX5_checkBetweenRallies 4 = .ok (.invokevirtual 222, 3) := by decide +kernel
theorem dX5_checkBetweenRallies_7 : decode cX5_checkBetweenRallies 7 = .ok (.ifCond .eq 13, 3) := by decide +kernel
theorem dX5_checkBetweenRallies_10 : decode cX5_checkBetweenRallies 10 = .ok (.aload_n 0, 1) := by decide +kernel
theorem dX5_checkBetweenRallies_11 : decode cX5_checkBetweenRallies 11 = .ok (.getfield 22, 3) := by decide +kernel
theorem dX5_checkBetweenRallies_14 : decode cX5_checkBetweenRallies 14 = .ok (.getfield 158, 3) := by decide +kernel
theorem dX5_checkBetweenRallies_17 : decode cX5_checkBetweenRallies 17 = .ok (.ifCond .eq 13, 3) := by decide +kernel
theorem dX5_checkBetweenRallies_20 : decode cX5_checkBetweenRallies 20 = .ok (.new 85, 3) := by decide +kernel
theorem dX5_checkBetweenRallies_23 : decode cX5_checkBetweenRallies 23 = .ok (.dup, 1) := by decide +kernel
theorem dX5_checkBetweenRallies_24 : decode cX5_checkBetweenRallies 24 = .ok (.ldc 252, 2) := by decide +kernel
theorem dX5_checkBetweenRallies_26 : decode cX5_checkBetweenRallies 26 = .ok (.invokespecial 89, 3) := by decide +kernel
theorem dX5_checkBetweenRallies_29 : decode cX5_checkBetweenRallies 29 = .ok (.athrow, 1) := by decide +kernel
theorem dX5_checkBetweenRallies_30 : decode cX5_checkBetweenRallies 30 = .ok (.return_, 1) := by decide +kernel
theorem dX5_checkRally_0 : decode cX5_checkRally 0 = .ok (.aload_n 0, 1) := by decide +kernel
theorem dX5_checkRally_1 : decode cX5_checkRally 1 = .ok (.getfield 22, 3) := by decide +kernel
theorem dX5_checkRally_4 : decode cX5_checkRally 4 = .ok (.getfield 158, 3) := by decide +kernel
theorem dX5_checkRally_7 : decode cX5_checkRally 7 = .ok (.ifCond .ne 13, 3) := by decide +kernel
theorem dX5_checkRally_10 : decode cX5_checkRally 10 = .ok (.new 85, 3) := by decide +kernel
theorem dX5_checkRally_13 : decode cX5_checkRally 13 = .ok (.dup, 1) := by decide +kernel
theorem dX5_checkRally_14 : decode cX5_checkRally 14 = .ok (.ldc 254, 2) := by decide +kernel
theorem dX5_checkRally_16 : decode cX5_checkRally 16 = .ok (.invokespecial 89, 3) := by decide +kernel
theorem dX5_checkRally_19 : decode cX5_checkRally 19 = .ok (.athrow, 1) := by decide +kernel
theorem dX5_checkRally_20 : decode cX5_checkRally 20 = .ok (.return_, 1) := by decide +kernel
theorem dX5_writeOrder_0 : decode cX5_writeOrder 0 = .ok (.aload_n 0, 1) := by decide +kernel
theorem dX5_writeOrder_1 : decode cX5_writeOrder 1 = .ok (.getfield 10, 3) := by decide +kernel
theorem dX5_writeOrder_4 : decode cX5_writeOrder 4 = .ok (.iload_n 1, 1) := by decide +kernel
theorem dX5_writeOrder_5 : decode cX5_writeOrder 5 = .ok (.invokevirtual 57, 3) := by decide +kernel
theorem dX5_writeOrder_8 : decode cX5_writeOrder 8 = .ok (.astore_n 2, 1) := by decide +kernel
theorem dX5_writeOrder_9 : decode cX5_writeOrder 9 = .ok (.iconst 1, 1) := by decide +kernel
theorem dX5_writeOrder_10 : decode cX5_writeOrder 10 = .ok (.istore_n 3, 1) := by decide +kernel
theorem dX5_writeOrder_11 : decode cX5_writeOrder 11 = .ok (.iload_n 3, 1) := by decide +kernel
theorem dX5_writeOrder_12 : decode cX5_writeOrder 12 = .ok (.bipush 6, 2) := by decide +kernel
theorem dX5_writeOrder_14 : decode cX5_writeOrder 14 = .ok (.if_icmp .gt 24, 3) := by decide +kernel
theorem dX5_writeOrder_17 : decode cX5_writeOrder 17 = .ok (.aload_n 0, 1) := by decide +kernel
theorem dX5_writeOrder_18 : decode cX5_writeOrder 18 = .ok (.getfield 29, 3) := by decide +kernel
theorem dX5_writeOrder_21 : decode cX5_writeOrder 21 = .ok (.iconst 0, 1) := by decide +kernel
theorem dX5_writeOrder_22 : decode cX5_writeOrder 22 = .ok (.iload_n 1, 1) := by decide +kernel
theorem dX5_writeOrder_23 : decode cX5_writeOrder 23 = .ok (.iload_n 3, 1) := by decide +kernel
theorem dX5_writeOrder_24 : decode cX5_writeOrder 24 = .ok (.aload_n 2, 1) := by decide +kernel
theorem dX5_writeOrder_25 : decode cX5_writeOrder 25 = .ok (.iload_n 3, 1) := by decide +kernel
theorem dX5_writeOrder_26 : decode cX5_writeOrder 26 = .ok (.invokevirtual 61, 3) := by decide +kernel
theorem dX5_writeOrder_29 : decode cX5_writeOrder 29 = .ok (.invokevirtual 101, 3) := by decide +kernel
theorem dX5_writeOrder_32 : decode cX5_writeOrder 32 = .ok (.iinc 3 1, 3) := by decide +kernel
theorem dX5_writeOrder_35 : decode cX5_writeOrder 35 = .ok (.goto (-24), 3) := by decide +kernel
theorem dX5_writeOrder_38 : decode cX5_writeOrder 38 = .ok (.aload_n 2, 1) := by decide +kernel
theorem dX5_writeOrder_39 : decode cX5_writeOrder 39 = .ok (.getfield 71, 3) := by decide +kernel
theorem dX5_writeOrder_42 : decode cX5_writeOrder 42 = .ok (.iconst (-1), 1) := by decide +kernel
theorem dX5_writeOrder_43 : decode cX5_writeOrder 43 = .ok (.if_icmp .eq 17, 3) := by decide +kernel
theorem dX5_writeOrder_46 : decode cX5_writeOrder 46 = .ok (.aload_n 0, 1) := by decide +kernel
theorem dX5_writeOrder_47 : decode cX5_writeOrder 47 = .ok (.getfield 29, 3) := by decide +kernel
theorem dX5_writeOrder_50 : decode cX5_writeOrder 50 = .ok (.iconst 1, 1) := by decide +kernel
theorem dX5_writeOrder_51 : decode cX5_writeOrder 51 = .ok (.iload_n 1, 1) := by decide +kernel
theorem dX5_writeOrder_52 : decode cX5_writeOrder 52 = .ok (.aload_n 2, 1) := by decide +kernel
theorem dX5_writeOrder_53 : decode cX5_writeOrder 53 = .ok (.getfield 71, 3) := by decide +kernel
theorem dX5_writeOrder_56 : decode cX5_writeOrder 56 = .ok (.iconst 0, 1) := by decide +kernel
theorem dX5_writeOrder_57 : decode cX5_writeOrder 57 = .ok (.invokevirtual 101, 3) := by decide +kernel
theorem dX5_writeOrder_60 : decode cX5_writeOrder 60 = .ok (.return_, 1) := by decide +kernel
theorem dX5_endRally_0 : decode cX5_endRally 0 = .ok (.aload_n 0, 1) := by decide +kernel
theorem dX5_endRally_1 : decode cX5_endRally 1 = .ok (.getfield 16, 3) := by decide +kernel
theorem dX5_endRally_4 : decode cX5_endRally 4 = .ok (.aload_n 0, 1) := by decide +kernel
theorem dX5_endRally_5 : decode cX5_endRally 5 = .ok (.getfield 10, 3) := by decide +kernel
theorem dX5_endRally_8 : decode cX5_endRally 8 = .ok (.invokevirtual 204, 3) := by decide +kernel
theorem dX5_endRally_11 : decode cX5_endRally 11 = .ok (.aload_n 0, 1) := by decide +kernel
theorem dX5_endRally_12 : decode cX5_endRally 12 = .ok (.aload_n 0, 1) := by decide +kernel
theorem dX5_endRally_13 : decode cX5_endRally 13 = .ok (.getfield 29, 3) := by decide +kernel
theorem dX5_endRally_16 : decode cX5_endRally 16 = .ok (.getfield 256, 3) := by decide +kernel
theorem dX5_endRally_19 : decode cX5_endRally 19 = .ok (.putfield 208, 3) := by decide +kernel
theorem dX5_endRally_22 : decode cX5_endRally 22 = .ok (.aload_n 0, 1) := by decide +kernel
theorem dX5_endRally_23 : decode cX5_endRally 23 = .ok (.getfield 22, 3) := by decide +kernel
theorem dX5_endRally_26 : decode cX5_endRally 26 = .ok (.iconst 0, 1) := by decide +kernel
theorem dX5_endRally_27 : decode cX5_endRally 27 = .ok (.putfield 158, 3) := by decide +kernel
theorem dX5_endRally_30 : decode cX5_endRally 30 = .ok (.aload_n 0, 1) := by decide +kernel
theorem dX5_endRally_31 : decode cX5_endRally 31 = .ok (.getfield 29, 3) := by decide +kernel
theorem dX5_endRally_34 : decode cX5_endRally 34 = .ok (.iconst 4, 1) := by decide +kernel
theorem dX5_endRally_35 : decode cX5_endRally 35 = .ok (.iload_n 1, 1) := by decide +kernel
theorem dX5_endRally_36 : decode cX5_endRally 36 = .ok (.iconst 0, 1) := by decide +kernel
theorem dX5_endRally_37 : decode cX5_endRally 37 = .ok (.iconst 0, 1) := by decide +kernel
theorem dX5_endRally_38 : decode cX5_endRally 38 = .ok (.invokevirtual 101, 3) := by decide +kernel
theorem dX5_endRally_41 : decode cX5_endRally 41 = .ok (.aload_n 0, 1) := by decide +kernel
theorem dX5_endRally_42 : decode cX5_endRally 42 = .ok (.getfield 10, 3) := by decide +kernel
theorem dX5_endRally_45 : decode cX5_endRally 45 = .ok (.iload_n 1, 1) := by decide +kernel
theorem dX5_endRally_46 : decode cX5_endRally 46 = .ok (.invokevirtual 259, 3) := by decide +kernel
theorem dX5_endRally_49 : decode cX5_endRally 49 = .ok (.aload_n 0, 1) := by decide +kernel
theorem dX5_endRally_50 : decode cX5_endRally 50 = .ok (.iload_n 1, 1) := by decide +kernel
theorem dX5_endRally_51 : decode cX5_endRally 51 = .ok (.invokevirtual 170, 3) := by decide +kernel
theorem dX5_endRally_54 : decode cX5_endRally 54 = .ok (.aload_n 0, 1) := by decide +kernel
theorem dX5_endRally_55 : decode cX5_endRally 55 = .ok (.iconst 1, 1) := by decide +kernel
theorem dX5_endRally_56 : decode cX5_endRally 56 = .ok (.iload_n 1, 1) := by decide +kernel
theorem dX5_endRally_57 : decode cX5_endRally 57 = .ok (.isub, 1) := by decide +kernel
theorem dX5_endRally_58 : decode cX5_endRally 58 = .ok (.putfield 40, 3) := by decide +kernel
theorem dX5_endRally_61 : decode cX5_endRally 61 = .ok (.aload_n 0, 1) := by decide +kernel
theorem dX5_endRally_62 : decode cX5_endRally 62 = .ok (.iload_n 2, 1) := by decide +kernel
theorem dX5_endRally_63 : decode cX5_endRally 63 = .ok (.putfield 105, 3) := by decide +kernel
theorem dX5_endRally_66 : decode cX5_endRally 66 = .ok (.return_, 1) := by decide +kernel
theorem dX5_endSetIfWonBy_0 : decode cX5_endSetIfWonBy 0 = .ok (.aload_n 0, 1) := by decide +kernel
theorem dX5_endSetIfWonBy_1 : decode cX5_endSetIfWonBy 1 = .ok (.getfield 10, 3) := by decide +kernel
theorem dX5_endSetIfWonBy_4 : decode cX5_endSetIfWonBy 4 = .ok (.iload_n 1, 1) := by decide +kernel
theorem dX5_endSetIfWonBy_5 : decode cX5_endSetIfWonBy 5 = .ok (.invokevirtual 262, 3) := by decide +kernel
theorem dX5_endSetIfWonBy_8 : decode cX5_endSetIfWonBy 8 = .ok (.ifCond .eq 11, 3) := by decide +kernel
theorem dX5_endSetIfWonBy_11 : decode cX5_endSetIfWonBy 11 = .ok (.aload_n 0, 1) := by decide +kernel
theorem dX5_endSetIfWonBy_12 : decode cX5_endSetIfWonBy 12 = .ok (.getfield 10, 3) := by decide +kernel
theorem dX5_endSetIfWonBy_15 : decode cX5_endSetIfWonBy 15 = .ok (.iload_n 1, 1) := by decide +kernel
theorem dX5_endSetIfWonBy_16 : decode cX5_endSetIfWonBy 16 = .ok (.invokevirtual 265, 3) := by decide +kernel
theorem dX5_endSetIfWonBy_19 : decode cX5_endSetIfWonBy 19 = .ok (.return_, 1) := by decide +kernel
theorem dX5_valueIn_0 : decode cX5_valueIn 0 = .ok (.iload_n 1, 1) := by decide +kernel
theorem dX5_valueIn_1 : decode cX5_valueIn 1 = .ok (.ifCond .lt 15, 3) := by decide +kernel
theorem dX5_valueIn_4 : decode cX5_valueIn 4 = .ok (.iload_n 1, 1) := by decide +kernel
theorem dX5_valueIn_5 : decode cX5_valueIn 5 = .ok (.aload_n 0, 1) := by decide +kernel
theorem dX5_valueIn_6 : decode cX5_valueIn 6 = .ok (.arraylength, 1) := by decide +kernel
theorem dX5_valueIn_7 : decode cX5_valueIn 7 = .ok (.if_icmp .ge 9, 3) := by decide +kernel
theorem dX5_valueIn_10 : decode cX5_valueIn 10 = .ok (.aload_n 0, 1) := by decide +kernel
theorem dX5_valueIn_11 : decode cX5_valueIn 11 = .ok (.iload_n 1, 1) := by decide +kernel
theorem dX5_valueIn_12 : decode cX5_valueIn 12 = .ok (.iaload, 1) := by decide +kernel
theorem dX5_valueIn_13 : decode cX5_valueIn 13 = .ok (.goto 4, 3) := by decide +kernel
theorem dX5_valueIn_16 : decode cX5_valueIn 16 = .ok (.iconst (-1), 1) := by decide +kernel
theorem dX5_valueIn_17 : decode cX5_valueIn 17 = .ok (.ireturn, 1) := by decide +kernel
theorem dX5_putIn_0 : decode cX5_putIn 0 = .ok (.iload_n 1, 1) := by decide +kernel
theorem dX5_putIn_1 : decode cX5_putIn 1 = .ok (.ifCond .lt 13, 3) := by decide +kernel
theorem dX5_putIn_4 : decode cX5_putIn 4 = .ok (.iload_n 1, 1) := by decide +kernel
theorem dX5_putIn_5 : decode cX5_putIn 5 = .ok (.aload_n 0, 1) := by decide +kernel
theorem dX5_putIn_6 : decode cX5_putIn 6 = .ok (.arraylength, 1) := by decide +kernel
theorem dX5_putIn_7 : decode cX5_putIn 7 = .ok (.if_icmp .ge 7, 3) := by decide +kernel
theorem dX5_putIn_10 : decode cX5_putIn 10 = .ok (.aload_n 0, 1) := by decide +kernel
theorem dX5_putIn_11 : decode cX5_putIn 11 = .ok (.iload_n 1, 1) := by decide +kernel
theorem dX5_putIn_12 : decode cX5_putIn 12 = .ok (.iload_n 2, 1) := by decide +kernel
theorem dX5_putIn_13 : decode cX5_putIn 13 = .ok (.iastore, 1) := by decide +kernel
theorem dX5_putIn_14 : decode cX5_putIn 14 = .ok (.return_, 1) := by decide +kernel
end
section
/-! a method that throws costs its cell only where it throws: vz_ is vx_ (exceptions that leave a method) with no new cell on the way that returns; vz_back, vz_runV, vz_runS, vz_ofW follow vx_back, vx_runV, vx_runS, vx_ofW -/
section VZ
def vz_Q (Qc : Array Value → State → Outcome → State → Prop) (XC : String → State → State → Prop) (mc ms : Nat) (free : Addr → Prop) : Array Value → State → Outcome → State → Prop := fun a st o t =>
  (Qc a st o t ∧ ∃ L, FrameEnd st o t L 0 0 ∧ ∀ q ∈ L, free q.base) ∨ ∃ q, o = .threw q ∧ vx_T XC st q t mc ms free
def vz_Met (l : Launch) (y : MethodName) (ws : List Cond) (rm : Room) (Pc : Array Value → State → Prop) (Qc : Array Value → State → Outcome → State → Prop) (XC : String → State → State → Prop) (mc ms : Nat) (free : Addr → Prop) : Prop :=
  MetFree l y (headSpec ws rm) Pc (fun _ _ _ _ _ => True) (vz_Q Qc XC mc ms free)
section PayerZ
variable {l : Launch} {R : Room} {p : Program} {e : Env} {below : List Frame} {s : State} {sargs : Array Value} {y : MethodName} {len W9 : Nat}
theorem vz_back {ws : List Cond} {rm : Room} {Pc : Array Value → State → Prop} {Qc : Array Value → State → Outcome → State → Prop} {XC : String → State → State → Prop} {mc ms : Nat} {free : Addr → Prop} {bytes : ByteArray} {maxL : Nat} {ret : Option FieldType}
    (hM : vz_Met l y ws rm Pc Qc XC mc ms free) (hblind : FrameBlind Pc) (hrc : rm.cells = mc) (hrs : rm.slots = ms)
    (hframes : rm.frames + 1 ≤ R.frames) (hlocals : W9 + (maxL + 11) + rm.locals ≤ R.locals)
    (hws : ∀ w ∈ ws, ∀ a' U, s.WarmedH U.vm → w.before a' U = true) (hcode : Cond.code y bytes maxL ret ∈ ws) (hinit : ∀ a' U, s.WarmedH U.vm → (Cond.initialized y.cls).before a' U = true) :
    vx_Back l R p e below s sargs y len W9 (PreOf R mc ms Pc) (PostOf Qc 0 0 free) (vx_Post XC mc ms free) := by
  intro m meth c A g ig mk a X hg hsize hdg hW hn hp
  have h1 : (headSpec ws rm).pre.before a A.U = true := atoms_intro fun w hw => hws w hw _ _ X.warmed
  have h2 : (Cond.code y bytes maxL ret).before a A.U = true := hws _ hcode _ _ X.warmed
  have h3 : (Cond.initialized y.cls).before a A.U = true := hinit _ _ X.warmed
  have h4 : A.cells + (headSpec ws rm).room.cells ≤ R.cells := by rw [show (headSpec ws rm).room.cells = mc from hrc]; exact hp.1
  have h5 : A.slots + (headSpec ws rm).room.slots ≤ R.slots := by rw [show (headSpec ws rm).room.slots = ms from hrs]; exact hp.2.1
  have hPc : Pc a (A.U.calling g mk a) := hblind _ _ _ _ hp.2.2
  obtain ⟨U, Ls, c0, s0⟩ := A
  dsimp only [Pt.U, Pt.locs, Pt.cells, Pt.slots] at h1 h2 h3 h4 h5 X hn hPc ⊢
  obtain ⟨methY, cY, hmY, hcY, -, hlY, -, -, -, -⟩ := Cond.code_spec hn h2
  obtain ⟨kY, hkY, -⟩ := className_of_methodNamed hn
  have hinitY : kY.init = .initialized := Cond.initialized_spec (findClass_of_methodNamed hn) hkY h3
  have h : At U g.method c below := by rw [hg]; exact X.here
  have hlocals9 : W9 + (maxL + 11) + (headSpec ws rm).room.locals ≤ R.locals := hlocals
  have happ : (headSpec ws rm).appliesLoose y e.platform (U.calling g mk a) = true :=
    Spec.appliesLoose_calling (g := g) h hdg hn hkY hinitY
      (X.room_calling (g := g) (R' := (headSpec ws rm).room) hsize hmY hcY hframes (by rw [hlY]; omega) h4 h5) h1
  obtain ⟨mid, hmid⟩ := h.above
  have hfr : (U.setTop g).frames = (.java g :: mid) ++ below := by rw [State.frames_setTop' g h.top, hmid]; rfl
  obtain ⟨o, s₂, hsteps, -, hend, hq⟩ := Steps.callFree hM p X.admits X.cas X.clock (acts := []) hfr happ hPc trivial
  have hq' : vz_Q Qc XC mc ms free a (U.calling g mk a) o s₂ := hq
  rw [State.frames_setTop' g h.top] at hend
  obtain ⟨g₀, hg0⟩ := Option.isSome_iff_exists.mp h.top
  obtain ⟨r, hr⟩ := State.topJava?_eq_some.mp hg0
  have hr' : (({ U with heap := s₂.heap, slotsUsed := s₂.slotsUsed } : State).setVm s₂.vm).frames = .java g₀ :: r := hr
  rcases hq' with ⟨hqc, L, hfe, hL⟩ | ⟨q, rfl, E, ce, L, hx, hce, hcv, hcl, hW₂, hsm, hL⟩
  · obtain ⟨⟨v, rfl⟩, hW₂, e2, q2, q3, q4, q5, q6⟩ := id hfe
    have e3 : s₂ = ({ (U.calling g mk a).setFrames s₂.frames with heap := s₂.heap, slotsUsed := s₂.slotsUsed } : State).setVm s₂.vm := by
      have : s₂ = ({ s₂ with vm := (U.calling g mk a).vm } : State).setVm s₂.vm := rfl
      rw [e2] at this
      exact this
    obtain ⟨c₂, i₂, len₂, hc₂, hd₂, hf₂⟩ := hend
    have hW' : U.WarmedH s₂.vm := hW₂
    have hcc : c₂ = c := by
      have h1 : s₂.code? g.method = U.code? g.method := by
        rw [State.code?_eq, State.code?_eq, hW'.alike.method?]
      exact Option.some.inj (hc₂.symm.trans (h1.trans h.code))
    subst hcc
    have hlen : len₂ = len := by rw [hdg] at hd₂; cases hd₂; rfl
    subst hlen
    have hs₂ : s₂ = (({ U with heap := s₂.heap, slotsUsed := s₂.slotsUsed } : State).setVm s₂.vm).setTop { g with pc := g.pc + len₂, stack := v.toList ++ g.stack } := by
      refine e3.trans ?_
      rw [hf₂, State.calling_eq h.top, State.setFrames_setFrames, State.setTop_of_frames _ hr', hr]
      rfl
    have hsame : U.sameButNew ({ U with heap := s₂.heap, slotsUsed := s₂.slotsUsed } : State) L 0 0 := by
      refine ⟨?_, q2, q3, q4, q5, q6⟩
      obtain ⟨t, ht, -⟩ := State.frames_cons hr
      show ({ U with heap := s₂.heap, slotsUsed := s₂.slotsUsed } : State) = { U.setFrames U.frames with heap := s₂.heap, slotsUsed := s₂.slotsUsed }
      rw [State.setFrames_self ht]
    subst hg
    refine Or.inl ⟨v, ⟨(({ U with heap := s₂.heap, slotsUsed := s₂.slotsUsed } : State).setVm s₂.vm), Ls ++ L, c0 + 0, s0 + 0⟩,
      ⟨X.admits, X.cas, X.clock, X.frames, X.room, X.hears, X.method, X.code, (X.here.setHeapUsed s₂.heap s₂.slotsUsed).setVm hW'.alike, X.tail, State.WarmedH.trans X.warmed hW', X.limits, X.bytes, X.same.trans (hsame.setVm s.vm)⟩,
      ⟨g, mk, s₂, L, rfl, rfl, hqc, rfl, hL, rfl, rfl⟩, ?_⟩
    show Steps p.tables e below _ ((({ U with heap := s₂.heap, slotsUsed := s₂.slotsUsed } : State).setVm s₂.vm).setTop { g with pc := g.pc + len₂, stack := v.toList ++ g.stack })
    rw [← hs₂]
    exact hsteps
  · obtain ⟨e2, q2, q3, q4, q5, q6⟩ := id hsm
    have e3 : s₂ = ({ (U.calling g mk a).setFrames s₂.frames with heap := s₂.heap, slotsUsed := s₂.slotsUsed } : State).setVm s₂.vm := by
      have : s₂ = ({ s₂ with vm := (U.calling g mk a).vm } : State).setVm s₂.vm := rfl
      rw [e2] at this
      exact this
    have hf₂ : s₂.frames = .throwing q :: .java g :: U.frames.tail := hend
    have hW' : U.WarmedH s₂.vm := hW₂
    have hs₂ : s₂ = ((({ U with heap := s₂.heap, slotsUsed := s₂.slotsUsed } : State).setVm s₂.vm).setTop g).pushFrame (.throwing q) := by
      refine e3.trans ?_
      rw [hf₂, State.calling_eq h.top, State.setFrames_setFrames, State.pushFrame, State.frames_setTop _ hr', State.setTop_of_frames _ hr', State.setFrames_setFrames, hr]
      rfl
    have hsame : U.sameButNew ({ U with heap := s₂.heap, slotsUsed := s₂.slotsUsed } : State) L mc ms := by
      refine ⟨?_, q2, q3, q4, q5, q6⟩
      obtain ⟨t, ht, -⟩ := State.frames_cons hr
      show ({ U with heap := s₂.heap, slotsUsed := s₂.slotsUsed } : State) = { U.setFrames U.frames with heap := s₂.heap, slotsUsed := s₂.slotsUsed }
      rw [State.setFrames_self ht]
    subst hg
    refine Or.inr ⟨q, ⟨(({ U with heap := s₂.heap, slotsUsed := s₂.slotsUsed } : State).setVm s₂.vm), Ls ++ L, c0 + mc, s0 + ms⟩,
      ⟨X.admits, X.cas, X.clock, X.frames, X.room, X.hears, X.method, X.code, (X.here.setHeapUsed s₂.heap s₂.slotsUsed).setVm hW'.alike, X.tail, State.WarmedH.trans X.warmed hW', X.limits, X.bytes, X.same.trans (hsame.setVm s.vm)⟩,
      ⟨g, mk, s₂, L, E, ce, rfl, rfl, hx, hce, hcv, hcl, rfl, hL, rfl, rfl⟩, ?_⟩
    show Steps p.tables e below _ (((({ U with heap := s₂.heap, slotsUsed := s₂.slotsUsed } : State).setVm s₂.vm).setTop g).pushFrame (.throwing q))
    rw [← hs₂]
    exact hsteps
end PayerZ
def vz_Run (p : Program) (l : Launch) (e : Env) (R : Room) (s : State) (m : MethodId) (args : Array Value) (below : List Frame) (meth : Method) (c : Code) (H : Heap) (locs : List Loc) (cells slots mc ms : Nat) (g : JFrame) (rest : List Value) (Qa : State → Outcome → State → Prop) (XC : String → State → State → Prop) (free : Addr → Prop) : Prop :=
  ∀ T : State, T.heap = H → Stand p l e R s m args below meth c T locs cells slots →
    (∃ (v : Option Value) (st₀ t T' : State) (L : List Loc), st₀.heap = H ∧ Stand p l e R s m args below meth c T' (locs ++ L) cells slots ∧ (∀ q ∈ L, free q.base) ∧ T'.heap = t.heap ∧ T'.vm = t.vm ∧ Qa st₀ (.returned v) t ∧
      Goes p e below T g T' { g with pc := g.pc + 3, stack := v.toList ++ rest }) ∨
    (∃ (q : Addr) (st₀ t T' : State) (L : List Loc) (E : String) (ce : Cell), st₀.heap = H ∧ Stand p l e R s m args below meth c T' (locs ++ L) (cells + mc) (slots + ms) ∧ (∀ z ∈ L, free z.base) ∧ T'.heap = t.heap ∧ T'.vm = t.vm ∧ XC E st₀ t ∧ t.heap[q]? = some ce ∧ ce.vm = .none ∧ s.vm.findClass E = some ce.cls ∧
      Steps p.tables e below (T.setTop g) ((T'.setTop { g with stack := rest }).pushFrame (.throwing q)))
section RunsZ
variable {p : Program} {l : Launch} {e : Env} {R : Room} {s : State} {m : MethodId} {args : Array Value} {below : List Frame} {meth : Method} {c : Code} {H : Heap} {locs : List Loc} {cells slots : Nat}
variable {y : MethodName} {bytes cc : ByteArray} {maxL nL mc ms n index : Nat} {ret : Option FieldType} {ws : List Cond} {rm : Room} {Pc : Array Value → State → Prop} {Qc : Array Value → State → Outcome → State → Prop} {XC : String → State → State → Prop} {free : Addr → Prop} {Ts : List Cond} {own C : String} {b : Addr} {As rest : List Value} {g : JFrame}
theorem vz_callBack (cb : CallB R s args own index y bytes maxL ret ws rm mc ms n) (hM : vz_Met l y ws rm Pc Qc XC mc ms free) (hbl : FrameBlind Pc) : vx_Back l R p e below s args y 3 8 (PreOf R mc ms Pc) (PostOf Qc 0 0 free) (vx_Post XC mc ms free) := by
  obtain ⟨hrc, hrs, hfr, hlo, hws, hcw, -, hini, -⟩ := cb
  exact vz_back (bytes := bytes) (maxL := maxL) (ret := ret) hM hbl hrc hrs hfr hlo hws hcw (fun a' U hW => word_at hW (Or.inl (by first | rfl | simp [Cond.onTables, Cond.keeps, Cond.steady])) hini)
theorem vz_runV (S : CallFix p m c cc nL s args Ts own) (hM : vz_Met l y ws rm Pc Qc XC mc ms free) (cw : CallW R s args own C index y bytes maxL ret ws rm mc ms n) (hp : PreV s H C b Pc As)
    (hg : g.method = m) (hn : As.length = n) (hsize : g.locals.size = nL) (hstack : g.stack = As.reverse ++ .ref b :: rest) (hW : 2 * g.monitorRoom + (rest.map fun v => v.category).sum ≤ 8) (hdg : decode cc g.pc = .ok (.invokevirtual index, 3)) (hf : cells + mc ≤ R.cells ∧ slots + ms ≤ R.slots) :
    vz_Run p l e R s m args below meth c H locs cells slots mc ms g rest (Qc (Value.ref b :: As).toArray) XC free := by
  have hK : vx_Back l R p e below s args y 3 8 (PreOf R mc ms Pc) (PostOf Qc 0 0 free) (vx_Post XC mc ms free) := vz_callBack cw.1 hM hp.1
  obtain ⟨⟨-, -, -, -, -, -, hcode, -, hy, hlen, hl⟩, hin, hse⟩ := cw
  obtain ⟨hx, hb, hml, ho, -⟩ := S
  obtain ⟨-, ⟨cellB, hcB, hoB, hclB⟩, hPc⟩ := hp
  intro T hT X
  rcases vx_callV X hx (C := C) (bytes := bytes) (maxL := maxL) (ret := ret) ho hl hin hse hcode hy hK (by rw [hT]; exact hcB) hoB hclB hg (hsize.trans hml.symm) (argsL := As) (rest := rest) (fun sig h => hn.trans (hlen sig h)) hstack hW (by rw [hb]; exact hdg)
    (fun vm₁ hW₁ => ⟨hf.1, hf.2, hPc (T.setVm vm₁) hT hW₁⟩) with ⟨v, vm₁, ⟨U', l2, c2, s2⟩, hW₁, X', ⟨g', mk, t, L, e1, e2, hq, h1, hL, h2, h3⟩, st⟩ | ⟨q, vm₁, ⟨U', l2, c2, s2⟩, hW₁, X', ⟨g', mk, t, L, E, ce, e1, e2, hq, hce, hcv, hcl, h1, hL, h2, h3⟩, st⟩
  · dsimp only [Pt.U, Pt.locs, Pt.cells, Pt.slots] at X' e1 e2 h1 h2 h3 st
    subst h1; subst h2; subst h3
    exact Or.inl ⟨v, (T.setVm vm₁).calling g' mk (Value.ref b :: As).toArray, t, U', L, hT, X', hL, e1, e2, hq, st⟩
  · dsimp only [Pt.U, Pt.locs, Pt.cells, Pt.slots] at X' e1 e2 h1 h2 h3 st hcl
    subst h1; subst h2; subst h3
    exact Or.inr ⟨q, (T.setVm vm₁).calling g' mk (Value.ref b :: As).toArray, t, U', L, E, ce, hT, X', hL, e1, e2, hq, hce, hcv, vx_cls hW₁ hcl, st⟩
theorem vz_runS (S : CallFix p m c cc nL s args Ts own) (hM : vz_Met l y ws rm Pc Qc XC mc ms free) (cw : CallB R s args own index y bytes maxL ret ws rm mc ms n ∧ (Cond.static y).before args s = true) (hp : PreS s H Pc As)
    (hg : g.method = m) (hn : As.length = n) (hsize : g.locals.size = nL) (hstack : g.stack = As.reverse ++ rest) (hW : 2 * g.monitorRoom + (rest.map fun v => v.category).sum ≤ 8) (hdg : decode cc g.pc = .ok (.invokestatic index, 3)) (hf : cells + mc ≤ R.cells ∧ slots + ms ≤ R.slots) :
    vz_Run p l e R s m args below meth c H locs cells slots mc ms g rest (Qc As.toArray) XC free := by
  have hK : vx_Back l R p e below s args y 3 8 (PreOf R mc ms Pc) (PostOf Qc 0 0 free) (vx_Post XC mc ms free) := vz_callBack cw.1 hM hp.1
  obtain ⟨⟨-, -, -, -, -, -, hcode, hini, hy, hlen, hl⟩, hstt⟩ := cw
  obtain ⟨hx, hb, hml, ho, -⟩ := S
  intro T hT X
  rcases vx_callS X hx (bytes := bytes) (maxL := maxL) (ret := ret) ho hl hstt hini hcode hy hK hg (hsize.trans hml.symm) (argsL := As) (rest := rest) (fun sig h => hn.trans (hlen sig h)) hstack hW (by rw [hb]; exact hdg)
    (fun vm₁ hW₁ => ⟨hf.1, hf.2, hp.2 (T.setVm vm₁) hT hW₁⟩) with ⟨v, vm₁, ⟨U', l2, c2, s2⟩, hW₁, X', ⟨g', mk, t, L, e1, e2, hq, h1, hL, h2, h3⟩, st⟩ | ⟨q, vm₁, ⟨U', l2, c2, s2⟩, hW₁, X', ⟨g', mk, t, L, E, ce, e1, e2, hq, hce, hcv, hcl, h1, hL, h2, h3⟩, st⟩
  · dsimp only [Pt.U, Pt.locs, Pt.cells, Pt.slots] at X' e1 e2 h1 h2 h3 st
    subst h1; subst h2; subst h3
    exact Or.inl ⟨v, (T.setVm vm₁).calling g' mk As.toArray, t, U', L, hT, X', hL, e1, e2, hq, st⟩
  · dsimp only [Pt.U, Pt.locs, Pt.cells, Pt.slots] at X' e1 e2 h1 h2 h3 st hcl
    subst h1; subst h2; subst h3
    exact Or.inr ⟨q, (T.setVm vm₁).calling g' mk As.toArray, t, U', L, E, ce, hT, X', hL, e1, e2, hq, hce, hcv, vx_cls hW₁ hcl, st⟩
end RunsZ
section EndsZ
variable {p : Program} {l : Launch} {e : Env} {R : Room} {s : State} {m : MethodId} {args : Array Value} {below : List Frame} {meth : Method} {c : Code} {H : Heap} {locs : List Loc} {cells slots : Nat} {Q : State → Prop}
variable {mc ms : Nat} {free : Addr → Prop} {ls : Array Slot} {st0 rest : List Value}
variable {Qc : Array Value → State → Outcome → State → Prop} {XC : String → State → State → Prop}
def vz_MQ (below : List Frame) (Qc : Array Value → State → Outcome → State → Prop) (XC : String → State → State → Prop) (a : Array Value) (s : State) (mc ms : Nat) (free : Addr → Prop) : State → Prop := fun t =>
  ∃ o, t.status = .running ∧ Ended t below o ∧ vz_Q Qc XC mc ms free a s o t
theorem vz_ret {g : JFrame} {mc ms : Nat} (k : W p l e R s m args below meth c H locs cells slots (MQ below Qc args s 0 0 free) g) : W p l e R s m args below meth c H locs cells slots (vz_MQ below Qc XC args s mc ms free) g := by
  intro T hT X
  obtain ⟨t, a1, o, b1, b2, b3, b4⟩ := k T hT X
  exact ⟨t, a1, o, b1, b2, Or.inl ⟨b3, b4⟩⟩
theorem vz_thr {g : JFrame} {mc ms : Nat} (k : W p l e R s m args below meth c H locs cells slots (vx_MQ below (fun _ _ _ _ => False) XC args s mc ms free) g) : W p l e R s m args below meth c H locs cells slots (vz_MQ below Qc XC args s mc ms free) g := by
  intro T hT X
  obtain ⟨t, a1, o, b1, b2, b3⟩ := k T hT X
  refine ⟨t, a1, o, b1, b2, Or.inr ?_⟩
  rcases b3 with b3 | b3
  · exact b3.1.elim
  · exact b3
end EndsZ
section BodiesZ
variable {l : Launch}
theorem vz_ofW {y : MethodName} {ws ws' : List Cond} {rm : Room} {Pc : Array Value → State → Prop} {Qc : Array Value → State → Outcome → State → Prop} {XC : String → State → State → Prop} {mc ms : Nat} {free : Addr → Prop} {cc : ByteArray} {maxL : Nat} {ret : Option FieldType}
    (hy : plainName y.cls = true) (hw : ws = Cond.code y cc maxL ret :: ws')
    (body : ∀ p e s m args below meth c s₁, BodyLoose p l y (headSpec ws rm) cc maxL ret e s m args below meth c s₁ → c.maxLocals = maxL → (∀ x ∈ c.exceptionTable.toList, False) → Pc args s →
      W p l e (headSpec ws rm).room s m args below meth c s.heap [] 0 0 (vz_MQ below Qc XC args s mc ms free) (entryFrame m args maxL)) : vz_Met l y ws rm Pc Qc XC mc ms free := by
  refine MetFree.of_bodyS (code := cc) (maxLocals := maxL) (ret := ret) hy ?_ ?_
  · intro args s m h hn
    obtain ⟨meth, c, h1, h2, h3, h4, h5, h6, -, -⟩ := Cond.code_spec hn (atoms_spec (ws := ws) h _ (by rw [hw]; exact List.mem_cons_self))
    exact ⟨meth, c, h1, h2, h3, h4, h5, h6⟩
  · intro p e s m args below meth c s₁ B hml hP _
    have hh0 : s₁.heap = s.heap := by rw [B.state]; rfl
    have ht : ∀ x ∈ c.exceptionTable.toList, False := by
      obtain ⟨meth9, c9, h1, h2, -, -, -, -, h7, -⟩ := Cond.code_spec B.named (atoms_spec (ws := ws) B.pre _ (by rw [hw]; exact List.mem_cons_self))
      cases Option.some.inj (h1.symm.trans B.method)
      cases Option.some.inj (h2.symm.trans (Stand.of_body B).code)
      intro x hx
      rw [Array.isEmpty_iff.mp h7] at hx
      cases hx
    obtain ⟨t, a1, o, b1, b2, b3⟩ := body p e s m args below meth c s₁ B hml ht hP s₁ hh0 (Stand.of_body B)
    exact ⟨t, o, a1, b1, b2, b3⟩end BodiesZ
end VZ
/-! methods that throw: the answer is (0, value, world) or (number of the exception, 0, world) -/
def gEx (k : Int32) : String := if k = 1 then "java/lang/IndexOutOfBoundsException" else if k = 2 then "java/lang/IllegalArgumentException" else "java/lang/IllegalStateException"
abbrev gXC (D : va_G) (cI cJ : ClassId) (ad : Nat → Nat) (A : Nat → Prop) (q : Int32 × Int32 × gSt) : String → State → State → Prop := vx_X (fun (_ : Unit) => q.1 ≠ 0) (fun E _ t => E = gEx q.1 ∧ va_P D vwCl (gw cI cJ ad q.2.2) t.heap) A
abbrev gQi (D : va_G) (cI cJ : ClassId) (ad : Nat → Nat) (A : Nat → Prop) (q : Int32 × Int32 × gSt) : Array Value → State → Outcome → State → Prop := va_Qi (fun r1 (_ : Unit) => q.1 = 0 ∧ r1 = q.2.1) (fun _ t => va_P D vwCl (gw cI cJ ad q.2.2) t.heap) A
abbrev gQv (D : va_G) (cI cJ : ClassId) (ad : Nat → Nat) (A : Nat → Prop) (q : Int32 × Int32 × gSt) : Array Value → State → Outcome → State → Prop := va_Qv (fun (_ : Unit) => q.1 = 0) (fun _ t => va_P D vwCl (gw cI cJ ad q.2.2) t.heap) A
def gMxi (l : Launch) (D : va_G) (cI cJ : ClassId) (ad : Nat → Nat) (y : MethodName) (yb : ByteArray) (yn : Nat) (yret : Option FieldType) (rm : Room) (av : List Value) (F : gSt → Option (Int32 × Int32 × gSt)) : Prop :=
  ∀ (σ : gSt) (q : Int32 × Int32 × gSt) (sz : Nat), F σ = some q → vz_Met l y (.code y yb yn yret :: gT) rm (va_Pc av (gPre D cI cJ ad σ sz)) (gQi D cI cJ ad (gA ad sz) q) (gXC D cI cJ ad (gA ad sz) q) 1 6 (gA ad sz)
def gMxv (l : Launch) (D : va_G) (cI cJ : ClassId) (ad : Nat → Nat) (y : MethodName) (yb : ByteArray) (yn : Nat) (yret : Option FieldType) (rm : Room) (av : List Value) (F : gSt → Option (Int32 × Int32 × gSt)) : Prop :=
  ∀ (σ : gSt) (q : Int32 × Int32 × gSt) (sz : Nat), F σ = some q → vz_Met l y (.code y yb yn yret :: gT) rm (va_Pc av (gPre D cI cJ ad σ sz)) (gQv D cI cJ ad (gA ad sz) q) (gXC D cI cJ ad (gA ad sz) q) 1 6 (gA ad sz)
/-- a call of a method that throws, in one that lets it go on -/
def gbx (X0 : Option (Int32 × Int32 × gSt)) (K : gSt → Option (Int32 × Int32 × gSt)) : Option (Int32 × Int32 × gSt) := match X0 with
  | none => none
  | some q => if q.1 = 0 then K q.2.2 else some (q.1, 0, q.2.2)
section GT
variable {p : Program} {l : Launch} {e : Env} {R : Room} {s : State} {m : MethodId} {args : Array Value} {below : List Frame} {meth : Method} {c : Code} {D : va_G} {cI cJ : ClassId} {ad : Nat → Nat} {A : Nat → Prop} {cc : ByteArray} {nL : Nat} {own : String} {cells slots : Nat} {Q : State → Prop} {σ : gSt} {pc : Nat} {L L' : List (Nat × Value)} {st : List Value}
theorem gP_kept {H H1 : Heap} {ws : va_W} (hP : va_P D vwCl ws H) (h : ∀ q : Nat, q < H.size → H1[q]? = H[q]?) : va_P D vwCl ws H1 := fun k q hq => (hP k q hq).kept (h q.1 (hP k q hq).lt)
theorem g_throw {Qc : Array Value → State → Outcome → State → Prop} {q : Int32 × Int32 × gSt} (C : gC p s m args meth c D cI cJ ad A cc nL own) (hl : l.stackTraces = false) (hnt : ∀ x ∈ c.exceptionTable.toList, False) {cls text : String} {names : List String} {ik is ic : Nat} (k : Int32) (hk0 : k ≠ 0) (hE : gEx k = cls)
    (hcls : Bundle.fit cls = true) (hnames : ∀ n ∈ names, Bundle.fit n = true) (hk : Cond.classLink own ik cls ∈ gT) (hini : Cond.initialized cls ∈ gT) (hstr : (own, is, text) ∈ gStr) (hat : ∀ w ∈ vx_atS own ic cls names, w ∈ gT ∨ w ∈ gNest)
    (d0 : decode cc pc = .ok (.new ik, 3)) (d3 : decode cc (pc + 3) = .ok (.dup, 1)) (d4 : decode cc (pc + 4) = .ok (.ldc is, 2)) (d6 : decode cc (pc + 6) = .ok (.invokespecial ic, 3)) (d9 : decode cc (pc + 9) = .ok (.athrow, 1))
    (hR1 : names.length + 3 < R.frames) (hR2 : (st.map fun v => v.category).sum + (13 * (names.length + 1) + 43) ≤ R.locals) (hR3 : 1 ≤ R.cells ∧ 6 ≤ R.slots) :
    gX (some (k, 0, σ)) q (gG p l e R s m args below meth c D cI cJ ad A nL 0 0 (vz_MQ below Qc (gXC D cI cJ ad A q) args s 1 6 A) σ pc L st) := by
  intro hX H locs ls hls hP hS
  cases hX
  obtain ⟨hx, hb, hml, hown, hts, hK, hA, hA2, hi, hB, hZ, hlk⟩ := C
  have hn : ∀ w, w ∈ gT ∨ w ∈ gNest → w.before args s = true := fun w h => h.elim (hts w) (fun h2 => va_Nw.use (gNest_tab w h2) (gB_nest hB h2))
  have ho : ∀ w, w ∈ gT ∨ w ∈ gNest → vx_ot w = true := fun w h => by
    unfold vx_ot
    rcases h with h | h
    · rw [gT_good h, Bool.or_true]
    · rw [gNest_tab w h, Bool.true_or]
  obtain ⟨sa, hsa⟩ := hB.2.2 _ hstr
  refine vz_thr ?_
  refine vx_throwS hx hb hl hown hcls hnames (hts _ hk) (hts _ hini) hsa (fun w hw => hn w (hat w hw)) (fun w hw => ?_) hZ.1 hZ.2 hS (hls.1.trans hml.symm) d0 d3 d4 d6 d9 (fun x hx => (hnt x hx).elim) hR1 hR2 (by omega) (by omega) hlk (fun t hvm hsz hh => ⟨(), hk0, ⟨hE.symm, gP_kept hP hh⟩, ?_⟩) hS.2.2 (Nat.le_refl _) (Nat.le_refl _)
  · rcases List.mem_cons.mp hw with rfl | hw
    · exact ho _ (Or.inl hk)
    · rcases List.mem_cons.mp hw with rfl | hw
      · exact ho _ (Or.inl hini)
      · exact ho w (hat w hw)
  · exact ⟨Nat.le_trans hS.1 hsz, fun q h1 h2 => by rw [hh q (Nat.lt_of_lt_of_le h1 hS.1)]; exact hS.2.1 q h1 h2⟩
theorem g_xireti {q : Int32 × Int32 × gSt} (C : gC p s m args meth c D cI cJ ad A cc nL own) {v : Int32} (hr : meth.sig.returnType = some .int) (hdg : decode cc pc = .ok (.ireturn, 1)) : gX (some ((0 : Int32), v, σ)) q (gG p l e R s m args below meth c D cI cJ ad A nL 0 0 (vz_MQ below (gQi D cI cJ ad A q) (gXC D cI cJ ad A q) args s 1 6 A) σ pc L [.int v]) := by
  intro hX H locs ls hl hP hS
  cases hX
  have hlk : meth.locks = false := C.2.2.2.2.2.2.2.2.2.2.2
  exact vz_ret ((W.iret C.1 C.2.1 hr (fun t ht hW => ⟨⟨v, (), rfl, ⟨rfl, rfl⟩, by show va_P D vwCl _ t.heap; rw [ht]; exact hP⟩, hS.F ht⟩) hS.2.2 hdg hlk))
theorem g_xiretz {q : Int32 × Int32 × gSt} (C : gC p s m args meth c D cI cJ ad A cc nL own) {v : Int32} (hv : v = 0 ∨ v = 1) (hr : meth.sig.returnType = some .boolean) (hdg : decode cc pc = .ok (.ireturn, 1)) : gX (some ((0 : Int32), v, σ)) q (gG p l e R s m args below meth c D cI cJ ad A nL 0 0 (vz_MQ below (gQi D cI cJ ad A q) (gXC D cI cJ ad A q) args s 1 6 A) σ pc L [.int v]) := by
  intro hX H locs ls hl hP hS
  cases hX
  have hlk : meth.locks = false := C.2.2.2.2.2.2.2.2.2.2.2
  exact vz_ret ((W.zret C.1 C.2.1 hr (gz_n hv) (fun t ht hW => ⟨⟨v, (), rfl, ⟨rfl, rfl⟩, by show va_P D vwCl _ t.heap; rw [ht]; exact hP⟩, hS.F ht⟩) hS.2.2 hdg hlk))
theorem g_xretv {q : Int32 × Int32 × gSt} (C : gC p s m args meth c D cI cJ ad A cc nL own) (hr : meth.sig.returnType = none) (hdg : decode cc pc = .ok (.return_, 1)) : gX (some ((0 : Int32), (0 : Int32), σ)) q (gG p l e R s m args below meth c D cI cJ ad A nL 0 0 (vz_MQ below (gQv D cI cJ ad A q) (gXC D cI cJ ad A q) args s 1 6 A) σ pc L []) := by
  intro hX H locs ls hl hP hS
  cases hX
  have hlk : meth.locks = false := C.2.2.2.2.2.2.2.2.2.2.2
  exact vz_ret ((W.vret C.1 C.2.1 hr (fun t ht hW => ⟨⟨(), rfl, rfl, by show va_P D vwCl _ t.heap; rw [ht]; exact hP⟩, hS.F ht⟩) hS.2.2 hdg hlk))
theorem gRunVx (C : gC p s m args meth c D cI cJ ad A cc nL own) {idx c0 o n : Nat} {CN : String} {T : u_T} {y : MethodName} {yb : ByteArray} {yn : Nat} {yret : Option FieldType} {rm : Room} {As : List Value} {Qc : Array Value → State → Outcome → State → Prop} {XC : String → State → State → Prop} {free : Addr → Prop} {H : Heap} {locs : List Loc} {ls : Array Slot} {stk : List Value}
    (hM : vz_Met l y (.code y yb yn yret :: gT) rm (va_Pc (.ref (ad o) :: As) (gPre D cI cJ ad σ H.size)) Qc XC 1 6 free) (hrm : rm.cells = 1 ∧ rm.slots = 6) (hcl : gCl c0 CN T) (ho : gKd o = c0) (hw : gWv own idx CN y yb yn yret n) (hR : rm.frames + 1 ≤ R.frames ∧ 8 + (yn + 11) + rm.locals ≤ R.locals) (hn : As.length = n)
    (hl : lv_has ls nL L) (hP : va_P D vwCl (gw cI cJ ad σ) H) (hS : va_S A s.heap H locs) (hstk : stk = As.reverse ++ .ref (ad o) :: st) (hcat : (st.map fun v => v.category).sum ≤ 8) (hdg : decode cc pc = .ok (.invokevirtual idx, 3)) (hf : cells + 1 ≤ R.cells ∧ slots + 6 ≤ R.slots) :
    vz_Run p l e R s m args below meth c H locs cells slots 1 6 (F0 m pc ls stk) st (Qc (Value.ref (ad o) :: As).toArray) XC free := by
  obtain ⟨w1, w2, w3, w4, w5, w6⟩ := hw
  have hts := C.2.2.2.2.1
  have cw : CallW R s args own CN idx y yb yn yret (.code y yb yn yret :: gT) rm 1 6 n :=
    ⟨callB_of n hts (gGood (fun _ h => h) w5) rfl hrm.1 hrm.2 (by rw [w6.1]; exact hts _ w4) (hts _ w1) w6.2 hR, hts _ w2, hts _ w3⟩
  exact vz_runV ⟨C.1, C.2.1, C.2.2.1, C.2.2.2.1, hts⟩ hM cw ⟨gPre_blind, va_recv (q := (CN, T, gNf c0)) C.2.2.2.2.2.1 hP hcl.2.1 (gw_obj ho hcl.2.2), fun U hU hW => ⟨rfl, gPre_at C hP hS hU hW⟩⟩ rfl hn hl.1 hstk (lv_room hcat) hdg hf
theorem gRunSx (C : gC p s m args meth c D cI cJ ad A cc nL own) {idx n : Nat} {y : MethodName} {yb : ByteArray} {yn : Nat} {yret : Option FieldType} {rm : Room} {As : List Value} {Qc : Array Value → State → Outcome → State → Prop} {XC : String → State → State → Prop} {free : Addr → Prop} {H : Heap} {locs : List Loc} {ls : Array Slot} {stk : List Value}
    (hM : vz_Met l y (.code y yb yn yret :: gT) rm (va_Pc As (gPre D cI cJ ad σ H.size)) Qc XC 1 6 free) (hrm : rm.cells = 1 ∧ rm.slots = 6) (hw : gWs own idx y yb yn yret n) (hR : rm.frames + 1 ≤ R.frames ∧ 8 + (yn + 11) + rm.locals ≤ R.locals) (hn : As.length = n)
    (hl : lv_has ls nL L) (hP : va_P D vwCl (gw cI cJ ad σ) H) (hS : va_S A s.heap H locs) (hstk : stk = As.reverse ++ st) (hcat : (st.map fun v => v.category).sum ≤ 8) (hdg : decode cc pc = .ok (.invokestatic idx, 3)) (hf : cells + 1 ≤ R.cells ∧ slots + 6 ≤ R.slots) :
    vz_Run p l e R s m args below meth c H locs cells slots 1 6 (F0 m pc ls stk) st (Qc As.toArray) XC free := by
  obtain ⟨w1, w2, w3, w4, w6⟩ := hw
  have hts := C.2.2.2.2.1
  exact vz_runS ⟨C.1, C.2.1, C.2.2.1, C.2.2.2.1, hts⟩ hM ⟨callB_of n hts (gGood (fun _ h => h) w4) rfl hrm.1 hrm.2 (hts _ w3) (hts _ w1) w6 hR, hts _ w2⟩ ⟨gPre_blind, fun U hU hW => ⟨rfl, gPre_at C hP hS hU hW⟩⟩ rfl hn hl.1 hstk (lv_room hcat) hdg hf
/-- behind such a call, where nothing is caught: on, or out -/
theorem gConXv (C : gC p s m args meth c D cI cJ ad A cc nL own) (hnt : ∀ x ∈ c.exceptionTable.toList, False) {H : Heap} {locs : List Loc} {ls : Array Slot} {stk : List Value} {q0 q : Int32 × Int32 × gSt} {a : Array Value} {Qc : Array Value → State → Outcome → State → Prop} {K : gSt → Option (Int32 × Int32 × gSt)} (hl : lv_has ls nL L) (hS : va_S A s.heap H locs)
    (hr : vz_Run p l e R s m args below meth c H locs 0 0 1 6 (F0 m pc ls stk) st (gQv D cI cJ ad (gA ad H.size) q0 a) (gXC D cI cJ ad (gA ad H.size) q0) (gA ad H.size))
    (hX : gbx (some q0) K = some q)
    (k : ∀ σ', gX (K σ') q (gG p l e R s m args below meth c D cI cJ ad A nL 0 0 (vz_MQ below Qc (gXC D cI cJ ad A q) args s 1 6 A) σ' (pc + 3) L st)) : W p l e R s m args below meth c H locs 0 0 (vz_MQ below Qc (gXC D cI cJ ad A q) args s 1 6 A) (F0 m pc ls stk) := by
  intro T hT X
  rcases hr T hT X with ⟨v, st₀, t, T', L9, h0, X', hL, e1, e2, ⟨⟨u, hv, hp, hb⟩, hF⟩, stp⟩ | ⟨q9, st₀, t, T', L9, E, ce, h0, X', hL, e1, e2, ⟨u, hp, ⟨hE, hb⟩, hF⟩, hce, hcv, hcl, stp⟩
  · cases hv
    obtain ⟨k1, k2, k3⟩ := vx_keep h0 e1 hS (fun q _ h => gA_sub C hS q h) (gA_sub C hS) hL hF
    have hX2 : K q0.2.2 = some q := by
      have h9 : gbx (some q0) K = K q0.2.2 := if_pos hp
      rw [← h9]; exact hX
    obtain ⟨t2, a1, b1⟩ := k _ hX2 T'.heap (locs ++ L9) ls hl (by rw [e1]; exact hb) k3 T' rfl X'
    exact ⟨t2, stp t2 a1, b1⟩
  · obtain ⟨k1, k2, k3⟩ := vx_keep h0 e1 hS (fun q _ h => gA_sub C hS q h) (gA_sub C hS) hL hF
    have hX2 : some (q0.1, (0 : Int32), q0.2.2) = some q := by
      have h9 : gbx (some q0) K = some (q0.1, (0 : Int32), q0.2.2) := if_neg hp
      rw [← h9]; exact hX
    cases hX2
    have hlk : meth.locks = false := C.2.2.2.2.2.2.2.2.2.2.2
    have h1 := vx_out (p := p) (l := l) (e := e) (R := R) (s := s) (m := m) (args := args) (below := below) (meth := meth) (c := c) (H := T'.heap) (locs := locs ++ L9) (cells := 0 + 1) (slots := 0 + 6) (free := A) (ls := ls) (rest := st) (Qc := fun _ _ _ _ => False) (XC := gXC D cI cJ ad A (q0.1, (0 : Int32), q0.2.2)) (pc := pc) (E := E) (ce := ce) (q := q9) (mc := 1) (ms := 6) (fun x hx => (hnt x hx).elim) hlk (by rw [e1]; exact hce) hcv hcl
      (fun t1 ht1 _ => ⟨(), hp, ⟨hE, by show va_P D vwCl _ t1.heap; rw [ht1, e1]; exact hb⟩, k3.F ht1⟩) k3.2.2 (Nat.le_refl _) (Nat.le_refl _)
    obtain ⟨t2, a1, o, b1, b2, b3⟩ := h1 T' rfl X'
    refine ⟨t2, stp.trans a1, o, b1, b2, Or.inr ?_⟩
    rcases b3 with b3 | b3
    · exact b3.1.elim
    · exact b3
theorem g_callvx (C : gC p s m args meth c D cI cJ ad A cc nL own) (hnt : ∀ x ∈ c.exceptionTable.toList, False) {idx c0 o n : Nat} {CN : String} {T : u_T} {y : MethodName} {yb : ByteArray} {yn : Nat} {yret : Option FieldType} {rm : Room} {As : List Value} {F : gSt → Option (Int32 × Int32 × gSt)} {K : gSt → Option (Int32 × Int32 × gSt)} {stk : List Value} {q : Int32 × Int32 × gSt} {Qc : Array Value → State → Outcome → State → Prop}
    (hM : gMxv l D cI cJ ad y yb yn yret rm (.ref (ad o) :: As) F) (hrm : rm.cells = 1 ∧ rm.slots = 6) (hcl : gCl c0 CN T) (ho : gKd o = c0) (hw : gWv own idx CN y yb yn yret n) (hR : rm.frames + 1 ≤ R.frames ∧ 8 + (yn + 11) + rm.locals ≤ R.locals) (hn : As.length = n) (hstk : stk = As.reverse ++ .ref (ad o) :: st) (hcat : (st.map fun v => v.category).sum ≤ 8) (hdg : decode cc pc = .ok (.invokevirtual idx, 3)) (hf : 0 + 1 ≤ R.cells ∧ 0 + 6 ≤ R.slots)
    (k : ∀ σ', gX (K σ') q (gG p l e R s m args below meth c D cI cJ ad A nL 0 0 (vz_MQ below Qc (gXC D cI cJ ad A q) args s 1 6 A) σ' (pc + 3) L st)) : gX (gbx (F σ) K) q (gG p l e R s m args below meth c D cI cJ ad A nL 0 0 (vz_MQ below Qc (gXC D cI cJ ad A q) args s 1 6 A) σ pc L stk) := by
  intro hX
  cases hF : F σ with
  | none => rw [hF] at hX; cases hX
  | some q0 =>
    rw [hF] at hX
    intro H locs ls hl hP hS
    exact gConXv C hnt hl hS (gRunVx C (hM _ _ _ hF) hrm hcl ho hw hR hn hl hP hS hstk hcat hdg hf) hX k
theorem g_callsx (C : gC p s m args meth c D cI cJ ad A cc nL own) (hnt : ∀ x ∈ c.exceptionTable.toList, False) {idx n : Nat} {y : MethodName} {yb : ByteArray} {yn : Nat} {yret : Option FieldType} {rm : Room} {As : List Value} {F : gSt → Option (Int32 × Int32 × gSt)} {K : gSt → Option (Int32 × Int32 × gSt)} {stk : List Value} {q : Int32 × Int32 × gSt} {Qc : Array Value → State → Outcome → State → Prop}
    (hM : gMxv l D cI cJ ad y yb yn yret rm As F) (hrm : rm.cells = 1 ∧ rm.slots = 6) (hw : gWs own idx y yb yn yret n) (hR : rm.frames + 1 ≤ R.frames ∧ 8 + (yn + 11) + rm.locals ≤ R.locals) (hn : As.length = n) (hstk : stk = As.reverse ++ st) (hcat : (st.map fun v => v.category).sum ≤ 8) (hdg : decode cc pc = .ok (.invokestatic idx, 3)) (hf : 0 + 1 ≤ R.cells ∧ 0 + 6 ≤ R.slots)
    (k : ∀ σ', gX (K σ') q (gG p l e R s m args below meth c D cI cJ ad A nL 0 0 (vz_MQ below Qc (gXC D cI cJ ad A q) args s 1 6 A) σ' (pc + 3) L st)) : gX (gbx (F σ) K) q (gG p l e R s m args below meth c D cI cJ ad A nL 0 0 (vz_MQ below Qc (gXC D cI cJ ad A q) args s 1 6 A) σ pc L stk) := by
  intro hX
  cases hF : F σ with
  | none => rw [hF] at hX; cases hX
  | some q0 =>
    rw [hF] at hX
    intro H locs ls hl hP hS
    exact gConXv C hnt hl hS (gRunSx C (hM _ _ _ hF) hrm hw hR hn hl hP hS hstk hcat hdg hf) hX k
theorem gStartXi {y : MethodName} {yb : ByteArray} {yn : Nat} {yret : Option FieldType} {rm : Room} {av : List Value} {F : gSt → Option (Int32 × Int32 × gSt)} {L0 : List (Nat × Value)} (own : String) (hy : plainName y.cls = true) (hyc : y.cls = own) (hL0 : lv_args 0 av = L0) (hlen : (lg_sl av).length ≤ yn)
    (body : ∀ (p : Program) (e : Env) (s : State) (m : MethodId) (args : Array Value) (below : List Frame) (meth : Method) (c : Code) (sz : Nat) (σ : gSt) (q : Int32 × Int32 × gSt), gC p s m args meth c D cI cJ ad (gA ad sz) yb yn own → meth.sig.returnType = yret → (∀ x ∈ c.exceptionTable.toList, False) →
      gX (F σ) q (gG p l e rm s m args below meth c D cI cJ ad (gA ad sz) yn 0 0 (vz_MQ below (gQi D cI cJ ad (gA ad sz) q) (gXC D cI cJ ad (gA ad sz) q) args s 1 6 (gA ad sz)) σ 0 L0 [])) : gMxi l D cI cJ ad y yb yn yret rm av F := by
  intro σ q sz hF
  refine vz_ofW (cc := yb) (maxL := yn) (ret := yret) hy rfl ?_
  intro p e s m args below meth c s₁ B hml hnt hv
  obtain ⟨rfl, hsz, hP, hK, hi, hB, hZ⟩ := hv
  have hts := atoms_spec (ws := .code y yb yn yret :: gT) B.pre
  have hown : s.vm.findClass own = some m.cls := by rw [← hyc]; exact findClass_of_methodNamed B.named
  have hl := lv_entry av (n := yn) hlen
  rw [lg_entry_eq]
  rw [hL0] at hl
  subst hsz
  exact body p e s m _ below meth c s.heap.size σ q ⟨B.exec, B.bytes, hml, hown, fun w hw => hts w (List.mem_cons_of_mem _ hw), hK, fun q h => Or.inr h, fun k hk => Or.inl ⟨k, hk, rfl⟩, hi, hB, hZ, B.notSynchronized⟩ B.returns hnt hF s.heap [] _ hl hP va_S.rf
theorem gStartXv {y : MethodName} {yb : ByteArray} {yn : Nat} {yret : Option FieldType} {rm : Room} {av : List Value} {F : gSt → Option (Int32 × Int32 × gSt)} {L0 : List (Nat × Value)} (own : String) (hy : plainName y.cls = true) (hyc : y.cls = own) (hL0 : lv_args 0 av = L0) (hlen : (lg_sl av).length ≤ yn)
    (body : ∀ (p : Program) (e : Env) (s : State) (m : MethodId) (args : Array Value) (below : List Frame) (meth : Method) (c : Code) (sz : Nat) (σ : gSt) (q : Int32 × Int32 × gSt), gC p s m args meth c D cI cJ ad (gA ad sz) yb yn own → meth.sig.returnType = yret → (∀ x ∈ c.exceptionTable.toList, False) →
      gX (F σ) q (gG p l e rm s m args below meth c D cI cJ ad (gA ad sz) yn 0 0 (vz_MQ below (gQv D cI cJ ad (gA ad sz) q) (gXC D cI cJ ad (gA ad sz) q) args s 1 6 (gA ad sz)) σ 0 L0 [])) : gMxv l D cI cJ ad y yb yn yret rm av F := by
  intro σ q sz hF
  refine vz_ofW (cc := yb) (maxL := yn) (ret := yret) hy rfl ?_
  intro p e s m args below meth c s₁ B hml hnt hv
  obtain ⟨rfl, hsz, hP, hK, hi, hB, hZ⟩ := hv
  have hts := atoms_spec (ws := .code y yb yn yret :: gT) B.pre
  have hown : s.vm.findClass own = some m.cls := by rw [← hyc]; exact findClass_of_methodNamed B.named
  have hl := lv_entry av (n := yn) hlen
  rw [lg_entry_eq]
  rw [hL0] at hl
  subst hsz
  exact body p e s m _ below meth c s.heap.size σ q ⟨B.exec, B.bytes, hml, hown, fun w hw => hts w (List.mem_cons_of_mem _ hw), hK, fun q h => Or.inr h, fun k hk => Or.inl ⟨k, hk, rfl⟩, hi, hB, hZ, B.notSynchronized⟩ B.returns hnt hF s.heap [] _ hl hP va_S.rf
end GT
/-! places: the sides and the courts -/
def gIsSide (k : Nat) : Prop := k = 2 ∨ k = 5 ∨ k = 9 ∨ k = 12 ∨ k = 20 ∨ k = 23
def gIsCourt (k : Nat) : Prop := k = 1 ∨ k = 8 ∨ k = 19
theorem gRs_2 {k a b : Nat} (h : gRs.getD k [] = [some a, some b]) : ∀ j, 2 ≤ j → gRf k j = none := by
  intro j hj
  unfold gRf
  rw [h, List.getD_eq_getElem?_getD, List.getElem?_eq_none (by simpa using hj)]
  rfl
theorem gSd {k : Nat} (h : gIsSide k) : gKd k = 4 ∧ gRf k 0 = some (k + 1) ∧ gRf k 1 = some (k + 2) ∧ (∀ j, 2 ≤ j → gRf k j = none) ∧ gKd (k + 1) = 7 ∧ gKd (k + 2) = 7 ∧ gLn (k + 1) = 7 ∧ gLn (k + 2) = 21 := by
  rcases h with rfl | rfl | rfl | rfl | rfl | rfl <;> exact ⟨rfl, rfl, rfl, gRs_2 rfl, rfl, rfl, rfl, rfl⟩
theorem gs2 : gIsSide 2 := Or.inl rfl
theorem gs5 : gIsSide 5 := Or.inr (Or.inl rfl)
theorem gs9 : gIsSide 9 := Or.inr (Or.inr (Or.inl rfl))
theorem gs12 : gIsSide 12 := Or.inr (Or.inr (Or.inr (Or.inl rfl)))
theorem gs20 : gIsSide 20 := Or.inr (Or.inr (Or.inr (Or.inr (Or.inl rfl))))
theorem gs23 : gIsSide 23 := Or.inr (Or.inr (Or.inr (Or.inr (Or.inr rfl))))
theorem gc1 : gIsCourt 1 := Or.inl rfl
theorem gc8 : gIsCourt 8 := Or.inr (Or.inl rfl)
theorem gc19 : gIsCourt 19 := Or.inr (Or.inr rfl)
theorem gCt {k : Nat} (h : gIsCourt k) : gKd k = 0 ∧ gRf k 0 = some (k + 1) ∧ gRf k 1 = some (k + 4) ∧ (∀ j, 2 ≤ j → gRf k j = none) ∧ gIsSide (k + 1) ∧ gIsSide (k + 4) := by
  rcases h with rfl | rfl | rfl
  · exact ⟨rfl, rfl, rfl, gRs_2 rfl, gs2, gs5⟩
  · exact ⟨rfl, rfl, rfl, gRs_2 rfl, gs9, gs12⟩
  · exact ⟨rfl, rfl, rfl, gRs_2 rfl, gs20, gs23⟩
section GN
variable {p : Program} {l : Launch} {e : Env} {R : Room} {s : State} {m : MethodId} {args : Array Value} {below : List Frame} {meth : Method} {c : Code} {D : va_G} {cI cJ : ClassId} {ad : Nat → Nat} {A : Nat → Prop} {cc : ByteArray} {nL : Nat} {own : String} {cells slots : Nat} {Q : State → Prop} {σ : gSt} {pc : Nat} {L L' : List (Nat × Value)} {st : List Value}
variable {ρ : Type} {X X1 X2 : Option ρ} {res : ρ}
theorem g_name {v : Int32} {K : Int32 → Option ρ} (k : ∀ x : Int32, gX (K x) res (gG p l e R s m args below meth c D cI cJ ad A nL cells slots Q σ pc L (.int x :: st))) : gX (gl v K) res (gG p l e R s m args below meth c D cI cJ ad A nL cells slots Q σ pc L (.int v :: st)) := k v
theorem g_iaddK (C : gC p s m args meth c D cI cJ ad A cc nL own) {x y v : Int32} (hdg : decode cc pc = .ok (.iadd, 1)) (hv : x + y = v) (k : gX X res (gG p l e R s m args below meth c D cI cJ ad A nL cells slots Q σ (pc + 1) L (.int v :: st))) : gX X res (gG p l e R s m args below meth c D cI cJ ad A nL cells slots Q σ pc L (.int y :: .int x :: st)) := by
  subst hv
  exact g_iadd C hdg k
theorem g_isubK (C : gC p s m args meth c D cI cJ ad A cc nL own) {x y v : Int32} (hdg : decode cc pc = .ok (.isub, 1)) (hv : x - y = v) (k : gX X res (gG p l e R s m args below meth c D cI cJ ad A nL cells slots Q σ (pc + 1) L (.int v :: st))) : gX X res (gG p l e R s m args below meth c D cI cJ ad A nL cells slots Q σ pc L (.int y :: .int x :: st)) := by
  subst hv
  exact g_isub C hdg k
theorem g_imulK (C : gC p s m args meth c D cI cJ ad A cc nL own) {x y v : Int32} (hdg : decode cc pc = .ok (.imul, 1)) (hv : x * y = v) (k : gX X res (gG p l e R s m args below meth c D cI cJ ad A nL cells slots Q σ (pc + 1) L (.int v :: st))) : gX X res (gG p l e R s m args below meth c D cI cJ ad A nL cells slots Q σ pc L (.int y :: .int x :: st)) := by
  subst hv
  exact g_imul C hdg k
end GN
end
section
/-! by program (wip/whole/gen): the words and calls that the methods' walks use, their pictures and contracts -/
theorem gin0 : ∀ w ∈ u_ws RX0 TX0 (gNf 0), w ∈ gT := fun w h => gT_in ((show ∀ w ∈ u_ws RX0 TX0 (gNf 0), w ∈ lw_tbl by decide +kernel) w h) ((show ∀ w ∈ u_ws RX0 TX0 (gNf 0), goodWord w = true by decide +kernel) w h)
theorem gcl0 : gCl 0 RX0 TX0 := ⟨gin0, rfl, by decide⟩
theorem gft0 : gFt 0 TX0 tyX0 := ⟨tyX0_ok, nmX0⟩
theorem gin1 : ∀ w ∈ u_ws RX1 TX1 (gNf 1), w ∈ gT := fun w h => gT_in ((show ∀ w ∈ u_ws RX1 TX1 (gNf 1), w ∈ lw_tbl by decide +kernel) w h) ((show ∀ w ∈ u_ws RX1 TX1 (gNf 1), goodWord w = true by decide +kernel) w h)
theorem gcl1 : gCl 1 RX1 TX1 := ⟨gin1, rfl, by decide⟩
theorem gft1 : gFt 1 TX1 tyX1 := ⟨tyX1_ok, nmX1⟩
theorem gin2 : ∀ w ∈ u_ws RX2 TX2 (gNf 2), w ∈ gT := fun w h => gT_in ((show ∀ w ∈ u_ws RX2 TX2 (gNf 2), w ∈ lw_tbl by decide +kernel) w h) ((show ∀ w ∈ u_ws RX2 TX2 (gNf 2), goodWord w = true by decide +kernel) w h)
theorem gcl2 : gCl 2 RX2 TX2 := ⟨gin2, rfl, by decide⟩
theorem gft2 : gFt 2 TX2 tyX2 := ⟨tyX2_ok, nmX2⟩
theorem gin3 : ∀ w ∈ u_ws RX3 TX3 (gNf 3), w ∈ gT := fun w h => gT_in ((show ∀ w ∈ u_ws RX3 TX3 (gNf 3), w ∈ lw_tbl by decide +kernel) w h) ((show ∀ w ∈ u_ws RX3 TX3 (gNf 3), goodWord w = true by decide +kernel) w h)
theorem gcl3 : gCl 3 RX3 TX3 := ⟨gin3, rfl, by decide⟩
theorem gft3 : gFt 3 TX3 tyX3 := ⟨tyX3_ok, nmX3⟩
theorem gin4 : ∀ w ∈ u_ws RX4 TX4 (gNf 4), w ∈ gT := fun w h => gT_in ((show ∀ w ∈ u_ws RX4 TX4 (gNf 4), w ∈ lw_tbl by decide +kernel) w h) ((show ∀ w ∈ u_ws RX4 TX4 (gNf 4), goodWord w = true by decide +kernel) w h)
theorem gcl4 : gCl 4 RX4 TX4 := ⟨gin4, rfl, by decide⟩
theorem gft4 : gFt 4 TX4 tyX4 := ⟨tyX4_ok, nmX4⟩
theorem gin5 : ∀ w ∈ u_ws RX5 TX5 (gNf 5), w ∈ gT := fun w h => gT_in ((show ∀ w ∈ u_ws RX5 TX5 (gNf 5), w ∈ lw_tbl by decide +kernel) w h) ((show ∀ w ∈ u_ws RX5 TX5 (gNf 5), goodWord w = true by decide +kernel) w h)
theorem gcl5 : gCl 5 RX5 TX5 := ⟨gin5, rfl, by decide⟩
theorem gft5 : gFt 5 TX5 tyX5 := ⟨tyX5_ok, nmX5⟩
theorem gin6 : ∀ w ∈ u_ws RX6 TX6 (gNf 6), w ∈ gT := fun w h => gT_in ((show ∀ w ∈ u_ws RX6 TX6 (gNf 6), w ∈ lw_tbl by decide +kernel) w h) ((show ∀ w ∈ u_ws RX6 TX6 (gNf 6), goodWord w = true by decide +kernel) w h)
theorem gcl6 : gCl 6 RX6 TX6 := ⟨gin6, rfl, by decide⟩
theorem gft6 : gFt 6 TX6 tyX6 := ⟨tyX6_ok, nmX6⟩
theorem qw1 : Cond.fieldLink RX0 18 (TX0 1).1 (TX0 1).2.1 (TX0 1).2.2.1 ∈ gT := gT_in (by decide +kernel) (by decide +kernel)
theorem qw2 : Cond.fieldLink RX0 12 (TX0 0).1 (TX0 0).2.1 (TX0 0).2.2.1 ∈ gT := gT_in (by decide +kernel) (by decide +kernel)
theorem qw3 : Cond.fieldLink RX0 21 (TX0 2).1 (TX0 2).2.1 (TX0 2).2.2.1 ∈ gT := gT_in (by decide +kernel) (by decide +kernel)
theorem qn4 : Cond.fieldLinkNest RX0 28 (TX4 5).1 (TX4 5).2.1 (TX4 5).2.2.1 "Rotationary" ∈ gNest := by decide +kernel
theorem qw5 : Cond.fieldLink RX4 43 (TX4 4).1 (TX4 4).2.1 (TX4 4).2.2.1 ∈ gT := gT_in (by decide +kernel) (by decide +kernel)
theorem qw6 : Cond.fieldLink RX4 46 (TX4 6).1 (TX4 6).2.1 (TX4 6).2.2.1 ∈ gT := gT_in (by decide +kernel) (by decide +kernel)
theorem qw7 : Cond.fieldLink RX4 49 (TX4 7).1 (TX4 7).2.1 (TX4 7).2.2.1 ∈ gT := gT_in (by decide +kernel) (by decide +kernel)
theorem qw8 : Cond.fieldLink RX4 25 (TX4 8).1 (TX4 8).2.1 (TX4 8).2.2.1 ∈ gT := gT_in (by decide +kernel) (by decide +kernel)
theorem qw9 : Cond.fieldLink RX4 52 (TX4 9).1 (TX4 9).2.1 (TX4 9).2.2.1 ∈ gT := gT_in (by decide +kernel) (by decide +kernel)
theorem qw10 : Cond.fieldLink RX4 15 (TX4 1).1 (TX4 1).2.1 (TX4 1).2.2.1 ∈ gT := gT_in (by decide +kernel) (by decide +kernel)
theorem qn11 : Cond.methodLinkNest RX4 28 yX5_putIn "Rotationary" ∈ gNest := by decide +kernel
theorem qw12 : Cond.static yX5_putIn ∈ gT := gT_in (by decide +kernel) (by decide +kernel)
theorem qw13 : Cond.initialized yX5_putIn.cls ∈ gT := gT_in (by decide +kernel) (by decide +kernel)
theorem qw14 : Cond.code yX5_putIn cX5_putIn 3 none ∈ gT := gT_in (by decide +kernel) (by decide +kernel)
theorem qw15 : Cond.methodLink RX0 31 yX4_startSet ∈ gT := gT_in (by decide +kernel) (by decide +kernel)
theorem qw16 : Cond.instanceMethod yX4_startSet ∈ gT := gT_in (by decide +kernel) (by decide +kernel)
theorem qw17 : Cond.selects RX4 yX4_startSet yX4_startSet ∈ gT := gT_in (by decide +kernel) (by decide +kernel)
theorem qw18 : Cond.initialized RX4 ∈ gT := gT_in (by decide +kernel) (by decide +kernel)
theorem qw19 : Cond.code yX4_startSet cX4_startSet 2 none ∈ gT := gT_in (by decide +kernel) (by decide +kernel)
theorem qw20 : Cond.fieldLink RX0 25 (TX0 3).1 (TX0 3).2.1 (TX0 3).2.2.1 ∈ gT := gT_in (by decide +kernel) (by decide +kernel)
theorem qw21 : Cond.fieldLink RX4 9 (TX4 0).1 (TX4 0).2.1 (TX4 0).2.2.1 ∈ gT := gT_in (by decide +kernel) (by decide +kernel)
theorem qn22 : Cond.methodLinkNest RX4 32 yX5_valueIn "Rotationary" ∈ gNest := by decide +kernel
theorem qw23 : Cond.static yX5_valueIn ∈ gT := gT_in (by decide +kernel) (by decide +kernel)
theorem qw24 : Cond.initialized yX5_valueIn.cls ∈ gT := gT_in (by decide +kernel) (by decide +kernel)
theorem qw25 : Cond.code yX5_valueIn cX5_valueIn 2 (some .int) ∈ gT := gT_in (by decide +kernel) (by decide +kernel)
theorem qw26 : Cond.methodLink RX0 34 yX0_sideOf ∈ gT := gT_in (by decide +kernel) (by decide +kernel)
theorem qw27 : Cond.instanceMethod yX0_sideOf ∈ gT := gT_in (by decide +kernel) (by decide +kernel)
theorem qw28 : Cond.selects RX0 yX0_sideOf yX0_sideOf ∈ gT := gT_in (by decide +kernel) (by decide +kernel)
theorem qw29 : Cond.initialized RX0 ∈ gT := gT_in (by decide +kernel) (by decide +kernel)
theorem qw30 : Cond.code yX0_sideOf cX0_sideOf 2 (some (.object "Rotationary$Side")) ∈ gT := gT_in (by decide +kernel) (by decide +kernel)
theorem qw31 : Cond.methodLink RX0 38 yX4_shirtIn ∈ gT := gT_in (by decide +kernel) (by decide +kernel)
theorem qw32 : Cond.instanceMethod yX4_shirtIn ∈ gT := gT_in (by decide +kernel) (by decide +kernel)
theorem qw33 : Cond.selects RX4 yX4_shirtIn yX4_shirtIn ∈ gT := gT_in (by decide +kernel) (by decide +kernel)
theorem qw34 : Cond.code yX4_shirtIn cX4_shirtIn 2 (some .int) ∈ gT := gT_in (by decide +kernel) (by decide +kernel)
theorem qn35 : Cond.fieldLinkNest RX0 42 (TX4 4).1 (TX4 4).2.1 (TX4 4).2.2.1 "Rotationary" ∈ gNest := by decide +kernel
theorem qn36 : Cond.fieldLinkNest RX0 45 (TX4 9).1 (TX4 9).2.1 (TX4 9).2.2.1 "Rotationary" ∈ gNest := by decide +kernel
theorem qw37 : Cond.fieldLink RX4 22 (TX4 3).1 (TX4 3).2.1 (TX4 3).2.2.1 ∈ gT := gT_in (by decide +kernel) (by decide +kernel)
theorem qw38 : Cond.methodLink RX4 36 yX4_shirtIn ∈ gT := gT_in (by decide +kernel) (by decide +kernel)
theorem qw39 : Cond.methodLink RX4 56 yX4_put ∈ gT := gT_in (by decide +kernel) (by decide +kernel)
theorem qw40 : Cond.instanceMethod yX4_put ∈ gT := gT_in (by decide +kernel) (by decide +kernel)
theorem qw41 : Cond.selects RX4 yX4_put yX4_put ∈ gT := gT_in (by decide +kernel) (by decide +kernel)
theorem qw42 : Cond.code yX4_put cX4_put 3 none ∈ gT := gT_in (by decide +kernel) (by decide +kernel)
theorem qw43 : Cond.methodLink RX4 60 yX4_isLiberoIn ∈ gT := gT_in (by decide +kernel) (by decide +kernel)
theorem qw44 : Cond.instanceMethod yX4_isLiberoIn ∈ gT := gT_in (by decide +kernel) (by decide +kernel)
theorem qw45 : Cond.selects RX4 yX4_isLiberoIn yX4_isLiberoIn ∈ gT := gT_in (by decide +kernel) (by decide +kernel)
theorem qw46 : Cond.code yX4_isLiberoIn cX4_isLiberoIn 1 (some .boolean) ∈ gT := gT_in (by decide +kernel) (by decide +kernel)
theorem qw47 : Cond.fieldLink RX4 18 (TX4 2).1 (TX4 2).2.1 (TX4 2).2.2.1 ∈ gT := gT_in (by decide +kernel) (by decide +kernel)
theorem qw48 : Cond.methodLink RX0 49 yX4_rotate ∈ gT := gT_in (by decide +kernel) (by decide +kernel)
theorem qw49 : Cond.instanceMethod yX4_rotate ∈ gT := gT_in (by decide +kernel) (by decide +kernel)
theorem qw50 : Cond.selects RX4 yX4_rotate yX4_rotate ∈ gT := gT_in (by decide +kernel) (by decide +kernel)
theorem qw51 : Cond.code yX4_rotate cX4_rotate 3 none ∈ gT := gT_in (by decide +kernel) (by decide +kernel)
theorem qw52 : Cond.methodLink RX0 52 yX0_givePoint ∈ gT := gT_in (by decide +kernel) (by decide +kernel)
theorem qw53 : Cond.instanceMethod yX0_givePoint ∈ gT := gT_in (by decide +kernel) (by decide +kernel)
theorem qw54 : Cond.selects RX0 yX0_givePoint yX0_givePoint ∈ gT := gT_in (by decide +kernel) (by decide +kernel)
theorem qw55 : Cond.code yX0_givePoint cX0_givePoint 3 none ∈ gT := gT_in (by decide +kernel) (by decide +kernel)
theorem qw56 : Cond.methodLink RX0 56 yX0_setsPlayed ∈ gT := gT_in (by decide +kernel) (by decide +kernel)
theorem qw57 : Cond.instanceMethod yX0_setsPlayed ∈ gT := gT_in (by decide +kernel) (by decide +kernel)
theorem qw58 : Cond.selects RX0 yX0_setsPlayed yX0_setsPlayed ∈ gT := gT_in (by decide +kernel) (by decide +kernel)
theorem qw59 : Cond.code yX0_setsPlayed cX0_setsPlayed 1 (some .int) ∈ gT := gT_in (by decide +kernel) (by decide +kernel)
theorem qw60 : Cond.methodLink RX0 60 yX4_clearOrder ∈ gT := gT_in (by decide +kernel) (by decide +kernel)
theorem qw61 : Cond.instanceMethod yX4_clearOrder ∈ gT := gT_in (by decide +kernel) (by decide +kernel)
theorem qw62 : Cond.selects RX4 yX4_clearOrder yX4_clearOrder ∈ gT := gT_in (by decide +kernel) (by decide +kernel)
theorem qw63 : Cond.code yX4_clearOrder cX4_clearOrder 2 none ∈ gT := gT_in (by decide +kernel) (by decide +kernel)
theorem qw64 : Cond.fieldLink RX4 68 (TX4 5).1 (TX4 5).2.1 (TX4 5).2.2.1 ∈ gT := gT_in (by decide +kernel) (by decide +kernel)
theorem qw65 : Cond.methodLink RX0 63 yX4_copyFrom ∈ gT := gT_in (by decide +kernel) (by decide +kernel)
theorem qw66 : Cond.instanceMethod yX4_copyFrom ∈ gT := gT_in (by decide +kernel) (by decide +kernel)
theorem qw67 : Cond.selects RX4 yX4_copyFrom yX4_copyFrom ∈ gT := gT_in (by decide +kernel) (by decide +kernel)
theorem qw68 : Cond.code yX4_copyFrom cX4_copyFrom 3 none ∈ gT := gT_in (by decide +kernel) (by decide +kernel)
theorem qw69 : Cond.fieldLink RX1 9 (TX1 0).1 (TX1 0).2.1 (TX1 0).2.2.1 ∈ gT := gT_in (by decide +kernel) (by decide +kernel)
theorem qw70 : Cond.fieldLink RX1 15 (TX1 1).1 (TX1 1).2.1 (TX1 1).2.2.1 ∈ gT := gT_in (by decide +kernel) (by decide +kernel)
theorem qw71 : Cond.fieldLink RX1 19 (TX1 2).1 (TX1 2).2.1 (TX1 2).2.2.1 ∈ gT := gT_in (by decide +kernel) (by decide +kernel)
theorem qw72 : Cond.fieldLink RX1 22 (TX1 3).1 (TX1 3).2.1 (TX1 3).2.2.1 ∈ gT := gT_in (by decide +kernel) (by decide +kernel)
theorem qw73 : Cond.fieldLink RX1 25 (TX1 4).1 (TX1 4).2.1 (TX1 4).2.2.1 ∈ gT := gT_in (by decide +kernel) (by decide +kernel)
theorem qw74 : Cond.fieldLink RX1 28 (TX1 5).1 (TX1 5).2.1 (TX1 5).2.2.1 ∈ gT := gT_in (by decide +kernel) (by decide +kernel)
theorem qw75 : Cond.fieldLink RX1 31 (TX1 6).1 (TX1 6).2.1 (TX1 6).2.2.1 ∈ gT := gT_in (by decide +kernel) (by decide +kernel)
theorem qw76 : Cond.fieldLink RX2 12 (TX2 0).1 (TX2 0).2.1 (TX2 0).2.2.1 ∈ gT := gT_in (by decide +kernel) (by decide +kernel)
theorem qn77 : Cond.fieldLinkNest RX2 62 (TX0 0).1 (TX0 0).2.1 (TX0 0).2.2.1 "Rotationary" ∈ gNest := by decide +kernel
theorem qw78 : Cond.methodLink RX2 66 yX4_clearOrder ∈ gT := gT_in (by decide +kernel) (by decide +kernel)
theorem qn79 : Cond.fieldLinkNest RX2 71 (TX0 1).1 (TX0 1).2.1 (TX0 1).2.2.1 "Rotationary" ∈ gNest := by decide +kernel
theorem qw80 : Cond.fieldLink RX2 18 (TX2 1).1 (TX2 1).2.1 (TX2 1).2.2.1 ∈ gT := gT_in (by decide +kernel) (by decide +kernel)
theorem qn81 : Cond.methodLinkNest RX2 74 yX5_putIn "Rotationary" ∈ gNest := by decide +kernel
theorem qw82 : Cond.fieldLink RX2 22 (TX2 2).1 (TX2 2).2.1 (TX2 2).2.2.1 ∈ gT := gT_in (by decide +kernel) (by decide +kernel)
theorem qw83 : Cond.fieldLink RX3 9 (TX3 0).1 (TX3 0).2.1 (TX3 0).2.2.1 ∈ gT := gT_in (by decide +kernel) (by decide +kernel)
theorem qn84 : Cond.methodLinkNest RX3 23 yX5_valueIn "Rotationary" ∈ gNest := by decide +kernel
theorem qw85 : Cond.methodLink RX2 54 yX2_rowOf ∈ gT := gT_in (by decide +kernel) (by decide +kernel)
theorem qw86 : Cond.instanceMethod yX2_rowOf ∈ gT := gT_in (by decide +kernel) (by decide +kernel)
theorem qw87 : Cond.selects RX2 yX2_rowOf yX2_rowOf ∈ gT := gT_in (by decide +kernel) (by decide +kernel)
theorem qw88 : Cond.initialized RX2 ∈ gT := gT_in (by decide +kernel) (by decide +kernel)
theorem qw89 : Cond.code yX2_rowOf cX2_rowOf 2 (some (.array .int)) ∈ gT := gT_in (by decide +kernel) (by decide +kernel)
theorem qn90 : Cond.methodLinkNest RX2 58 yX5_valueIn "Rotationary" ∈ gNest := by decide +kernel
theorem qw91 : Cond.methodLink RX2 78 yX0_sideOf ∈ gT := gT_in (by decide +kernel) (by decide +kernel)
theorem qn92 : Cond.fieldLinkNest RX2 113 (TX4 6).1 (TX4 6).2.1 (TX4 6).2.2.1 "Rotationary" ∈ gNest := by decide +kernel
theorem qw93 : Cond.methodLink RX2 116 yX2_lostBy ∈ gT := gT_in (by decide +kernel) (by decide +kernel)
theorem qw94 : Cond.instanceMethod yX2_lostBy ∈ gT := gT_in (by decide +kernel) (by decide +kernel)
theorem qw95 : Cond.selects RX2 yX2_lostBy yX2_lostBy ∈ gT := gT_in (by decide +kernel) (by decide +kernel)
theorem qw96 : Cond.code yX2_lostBy cX2_lostBy 3 (some .int) ∈ gT := gT_in (by decide +kernel) (by decide +kernel)
theorem qw97 : Cond.methodLink RX4 40 yX4_placeOf ∈ gT := gT_in (by decide +kernel) (by decide +kernel)
theorem qw98 : Cond.instanceMethod yX4_placeOf ∈ gT := gT_in (by decide +kernel) (by decide +kernel)
theorem qw99 : Cond.selects RX4 yX4_placeOf yX4_placeOf ∈ gT := gT_in (by decide +kernel) (by decide +kernel)
theorem qw100 : Cond.code yX4_placeOf cX4_placeOf 3 (some .int) ∈ gT := gT_in (by decide +kernel) (by decide +kernel)
theorem qw101 : Cond.methodLink RX2 82 yX4_put ∈ gT := gT_in (by decide +kernel) (by decide +kernel)
theorem qn102 : Cond.fieldLinkNest RX2 86 (TX4 2).1 (TX4 2).2.1 (TX4 2).2.2.1 "Rotationary" ∈ gNest := by decide +kernel
theorem qw103 : Cond.methodLink RX2 89 yX0_startSet ∈ gT := gT_in (by decide +kernel) (by decide +kernel)
theorem qw104 : Cond.instanceMethod yX0_startSet ∈ gT := gT_in (by decide +kernel) (by decide +kernel)
theorem qw105 : Cond.selects RX0 yX0_startSet yX0_startSet ∈ gT := gT_in (by decide +kernel) (by decide +kernel)
theorem qw106 : Cond.code yX0_startSet cX0_startSet 2 none ∈ gT := gT_in (by decide +kernel) (by decide +kernel)
theorem qw107 : Cond.methodLink RX2 93 yX0_takeService ∈ gT := gT_in (by decide +kernel) (by decide +kernel)
theorem qw108 : Cond.instanceMethod yX0_takeService ∈ gT := gT_in (by decide +kernel) (by decide +kernel)
theorem qw109 : Cond.selects RX0 yX0_takeService yX0_takeService ∈ gT := gT_in (by decide +kernel) (by decide +kernel)
theorem qw110 : Cond.code yX0_takeService cX0_takeService 4 (some .boolean) ∈ gT := gT_in (by decide +kernel) (by decide +kernel)
theorem qw111 : Cond.methodLink RX2 97 yX2_countLost ∈ gT := gT_in (by decide +kernel) (by decide +kernel)
theorem qw112 : Cond.instanceMethod yX2_countLost ∈ gT := gT_in (by decide +kernel) (by decide +kernel)
theorem qw113 : Cond.selects RX2 yX2_countLost yX2_countLost ∈ gT := gT_in (by decide +kernel) (by decide +kernel)
theorem qw114 : Cond.code yX2_countLost cX2_countLost 3 none ∈ gT := gT_in (by decide +kernel) (by decide +kernel)
theorem qw115 : Cond.methodLink RX2 100 yX0_givePoint ∈ gT := gT_in (by decide +kernel) (by decide +kernel)
theorem qw116 : Cond.methodLink RX2 103 yX0_takeBack ∈ gT := gT_in (by decide +kernel) (by decide +kernel)
theorem qw117 : Cond.instanceMethod yX0_takeBack ∈ gT := gT_in (by decide +kernel) (by decide +kernel)
theorem qw118 : Cond.selects RX0 yX0_takeBack yX0_takeBack ∈ gT := gT_in (by decide +kernel) (by decide +kernel)
theorem qw119 : Cond.code yX0_takeBack cX0_takeBack 3 (some .int) ∈ gT := gT_in (by decide +kernel) (by decide +kernel)
theorem qw120 : Cond.methodLink RX2 107 yX4_swapLibero ∈ gT := gT_in (by decide +kernel) (by decide +kernel)
theorem qw121 : Cond.instanceMethod yX4_swapLibero ∈ gT := gT_in (by decide +kernel) (by decide +kernel)
theorem qw122 : Cond.selects RX4 yX4_swapLibero yX4_swapLibero ∈ gT := gT_in (by decide +kernel) (by decide +kernel)
theorem qw123 : Cond.code yX4_swapLibero cX4_swapLibero 2 none ∈ gT := gT_in (by decide +kernel) (by decide +kernel)
theorem qw124 : Cond.methodLink RX2 110 yX4_swapByPair ∈ gT := gT_in (by decide +kernel) (by decide +kernel)
theorem qw125 : Cond.instanceMethod yX4_swapByPair ∈ gT := gT_in (by decide +kernel) (by decide +kernel)
theorem qw126 : Cond.selects RX4 yX4_swapByPair yX4_swapByPair ∈ gT := gT_in (by decide +kernel) (by decide +kernel)
theorem qw127 : Cond.code yX4_swapByPair cX4_swapByPair 4 none ∈ gT := gT_in (by decide +kernel) (by decide +kernel)
theorem qw128 : Cond.methodLink RX2 25 yX2_clear ∈ gT := gT_in (by decide +kernel) (by decide +kernel)
theorem qw129 : Cond.instanceMethod yX2_clear ∈ gT := gT_in (by decide +kernel) (by decide +kernel)
theorem qw130 : Cond.selects RX2 yX2_clear yX2_clear ∈ gT := gT_in (by decide +kernel) (by decide +kernel)
theorem qw131 : Cond.code yX2_clear cX2_clear 2 none ∈ gT := gT_in (by decide +kernel) (by decide +kernel)
theorem qn132 : Cond.fieldLinkNest RX2 28 (TX3 1).1 (TX3 1).2.1 (TX3 1).2.2.1 "Rotationary" ∈ gNest := by decide +kernel
theorem qw133 : Cond.methodLink RX2 34 yX3_signAt ∈ gT := gT_in (by decide +kernel) (by decide +kernel)
theorem qw134 : Cond.instanceMethod yX3_signAt ∈ gT := gT_in (by decide +kernel) (by decide +kernel)
theorem qw135 : Cond.selects RX3 yX3_signAt yX3_signAt ∈ gT := gT_in (by decide +kernel) (by decide +kernel)
theorem qw136 : Cond.initialized RX3 ∈ gT := gT_in (by decide +kernel) (by decide +kernel)
theorem qw137 : Cond.code yX3_signAt cX3_signAt 2 (some .int) ∈ gT := gT_in (by decide +kernel) (by decide +kernel)
theorem qw138 : Cond.methodLink RX2 38 yX3_kindOf ∈ gT := gT_in (by decide +kernel) (by decide +kernel)
theorem qw139 : Cond.static yX3_kindOf ∈ gT := gT_in (by decide +kernel) (by decide +kernel)
theorem qw140 : Cond.initialized yX3_kindOf.cls ∈ gT := gT_in (by decide +kernel) (by decide +kernel)
theorem qw141 : Cond.code yX3_kindOf cX3_kindOf 1 (some .int) ∈ gT := gT_in (by decide +kernel) (by decide +kernel)
theorem qw142 : Cond.methodLink RX2 41 yX3_teamOf ∈ gT := gT_in (by decide +kernel) (by decide +kernel)
theorem qw143 : Cond.static yX3_teamOf ∈ gT := gT_in (by decide +kernel) (by decide +kernel)
theorem qw144 : Cond.initialized yX3_teamOf.cls ∈ gT := gT_in (by decide +kernel) (by decide +kernel)
theorem qw145 : Cond.code yX3_teamOf cX3_teamOf 1 (some .int) ∈ gT := gT_in (by decide +kernel) (by decide +kernel)
theorem qw146 : Cond.methodLink RX2 44 yX3_oneOf ∈ gT := gT_in (by decide +kernel) (by decide +kernel)
theorem qw147 : Cond.static yX3_oneOf ∈ gT := gT_in (by decide +kernel) (by decide +kernel)
theorem qw148 : Cond.initialized yX3_oneOf.cls ∈ gT := gT_in (by decide +kernel) (by decide +kernel)
theorem qw149 : Cond.code yX3_oneOf cX3_oneOf 1 (some .int) ∈ gT := gT_in (by decide +kernel) (by decide +kernel)
theorem qw150 : Cond.methodLink RX2 47 yX3_twoOf ∈ gT := gT_in (by decide +kernel) (by decide +kernel)
theorem qw151 : Cond.static yX3_twoOf ∈ gT := gT_in (by decide +kernel) (by decide +kernel)
theorem qw152 : Cond.initialized yX3_twoOf.cls ∈ gT := gT_in (by decide +kernel) (by decide +kernel)
theorem qw153 : Cond.code yX3_twoOf cX3_twoOf 1 (some .int) ∈ gT := gT_in (by decide +kernel) (by decide +kernel)
theorem qw154 : Cond.methodLink RX2 50 yX2_follow ∈ gT := gT_in (by decide +kernel) (by decide +kernel)
theorem qw155 : Cond.instanceMethod yX2_follow ∈ gT := gT_in (by decide +kernel) (by decide +kernel)
theorem qw156 : Cond.selects RX2 yX2_follow yX2_follow ∈ gT := gT_in (by decide +kernel) (by decide +kernel)
theorem qw157 : Cond.code yX2_follow cX2_follow 6 none ∈ gT := gT_in (by decide +kernel) (by decide +kernel)
theorem qw158 : Cond.fieldLink RX3 13 (TX3 1).1 (TX3 1).2.1 (TX3 1).2.2.1 ∈ gT := gT_in (by decide +kernel) (by decide +kernel)
theorem qn159 : Cond.methodLinkNest RX3 17 yX5_putIn "Rotationary" ∈ gNest := by decide +kernel
theorem qw160 : Cond.methodLink RX4 64 yX4_isBehind ∈ gT := gT_in (by decide +kernel) (by decide +kernel)
theorem qw161 : Cond.instanceMethod yX4_isBehind ∈ gT := gT_in (by decide +kernel) (by decide +kernel)
theorem qw162 : Cond.selects RX4 yX4_isBehind yX4_isBehind ∈ gT := gT_in (by decide +kernel) (by decide +kernel)
theorem qw163 : Cond.code yX4_isBehind cX4_isBehind 3 (some .boolean) ∈ gT := gT_in (by decide +kernel) (by decide +kernel)
theorem qw164 : Cond.classLink RX5 238 "java/lang/IndexOutOfBoundsException" ∈ gT := gT_in (by decide +kernel) (by decide +kernel)
theorem qw165 : Cond.initialized "java/lang/IndexOutOfBoundsException" ∈ gT := gT_in (by decide +kernel) (by decide +kernel)
theorem qw166 : Cond.fieldLink RX5 10 (TX5 0).1 (TX5 0).2.1 (TX5 0).2.2.1 ∈ gT := gT_in (by decide +kernel) (by decide +kernel)
theorem qw167 : Cond.methodLink RX5 222 yX0_isSetOn ∈ gT := gT_in (by decide +kernel) (by decide +kernel)
theorem qw168 : Cond.instanceMethod yX0_isSetOn ∈ gT := gT_in (by decide +kernel) (by decide +kernel)
theorem qw169 : Cond.selects RX0 yX0_isSetOn yX0_isSetOn ∈ gT := gT_in (by decide +kernel) (by decide +kernel)
theorem qw170 : Cond.code yX0_isSetOn cX0_isSetOn 1 (some .boolean) ∈ gT := gT_in (by decide +kernel) (by decide +kernel)
theorem qw171 : Cond.methodLink RX5 247 yX0_isMatchOver ∈ gT := gT_in (by decide +kernel) (by decide +kernel)
theorem qw172 : Cond.instanceMethod yX0_isMatchOver ∈ gT := gT_in (by decide +kernel) (by decide +kernel)
theorem qw173 : Cond.selects RX0 yX0_isMatchOver yX0_isMatchOver ∈ gT := gT_in (by decide +kernel) (by decide +kernel)
theorem qw174 : Cond.code yX0_isMatchOver cX0_isMatchOver 1 (some .boolean) ∈ gT := gT_in (by decide +kernel) (by decide +kernel)
theorem qw175 : Cond.classLink RX5 85 "java/lang/IllegalStateException" ∈ gT := gT_in (by decide +kernel) (by decide +kernel)
theorem qw176 : Cond.initialized "java/lang/IllegalStateException" ∈ gT := gT_in (by decide +kernel) (by decide +kernel)
theorem qw177 : Cond.methodLink RX5 44 yX5_checkTeam ∈ gT := gT_in (by decide +kernel) (by decide +kernel)
theorem qw178 : Cond.static yX5_checkTeam ∈ gT := gT_in (by decide +kernel) (by decide +kernel)
theorem qw179 : Cond.initialized yX5_checkTeam.cls ∈ gT := gT_in (by decide +kernel) (by decide +kernel)
theorem qw180 : Cond.code yX5_checkTeam cX5_checkTeam 1 none ∈ gT := gT_in (by decide +kernel) (by decide +kernel)
theorem qw181 : Cond.methodLink RX5 48 yX5_checkPlace ∈ gT := gT_in (by decide +kernel) (by decide +kernel)
theorem qw182 : Cond.static yX5_checkPlace ∈ gT := gT_in (by decide +kernel) (by decide +kernel)
theorem qw183 : Cond.initialized yX5_checkPlace.cls ∈ gT := gT_in (by decide +kernel) (by decide +kernel)
theorem qw184 : Cond.code yX5_checkPlace cX5_checkPlace 1 none ∈ gT := gT_in (by decide +kernel) (by decide +kernel)
theorem qw185 : Cond.methodLink RX5 51 yX5_checkShirt ∈ gT := gT_in (by decide +kernel) (by decide +kernel)
theorem qw186 : Cond.static yX5_checkShirt ∈ gT := gT_in (by decide +kernel) (by decide +kernel)
theorem qw187 : Cond.initialized yX5_checkShirt.cls ∈ gT := gT_in (by decide +kernel) (by decide +kernel)
theorem qw188 : Cond.code yX5_checkShirt cX5_checkShirt 1 none ∈ gT := gT_in (by decide +kernel) (by decide +kernel)
theorem qw189 : Cond.methodLink RX5 54 yX5_checkAheadOfSet ∈ gT := gT_in (by decide +kernel) (by decide +kernel)
theorem qw190 : Cond.instanceMethod yX5_checkAheadOfSet ∈ gT := gT_in (by decide +kernel) (by decide +kernel)
theorem qw191 : Cond.selects RX5 yX5_checkAheadOfSet yX5_checkAheadOfSet ∈ gT := gT_in (by decide +kernel) (by decide +kernel)
theorem qw192 : Cond.initialized RX5 ∈ gT := gT_in (by decide +kernel) (by decide +kernel)
theorem qw193 : Cond.code yX5_checkAheadOfSet cX5_checkAheadOfSet 1 none ∈ gT := gT_in (by decide +kernel) (by decide +kernel)
theorem qw194 : Cond.methodLink RX5 57 yX0_sideOf ∈ gT := gT_in (by decide +kernel) (by decide +kernel)
theorem qw195 : Cond.methodLink RX5 61 yX4_shirtIn ∈ gT := gT_in (by decide +kernel) (by decide +kernel)
theorem qw196 : Cond.methodLink RX5 67 yX4_put ∈ gT := gT_in (by decide +kernel) (by decide +kernel)
theorem qw197 : Cond.fieldLink RX5 40 (TX5 6).1 (TX5 6).2.1 (TX5 6).2.2.1 ∈ gT := gT_in (by decide +kernel) (by decide +kernel)
theorem qn198 : Cond.fieldLinkNest RX5 71 (TX4 2).1 (TX4 2).2.1 (TX4 2).2.2.1 "Rotationary" ∈ gNest := by decide +kernel
theorem qw199 : Cond.fieldLink RX5 29 (TX5 3).1 (TX5 3).2.1 (TX5 3).2.2.1 ∈ gT := gT_in (by decide +kernel) (by decide +kernel)
theorem qw200 : Cond.methodLink RX5 101 yX3_write ∈ gT := gT_in (by decide +kernel) (by decide +kernel)
theorem qw201 : Cond.instanceMethod yX3_write ∈ gT := gT_in (by decide +kernel) (by decide +kernel)
theorem qw202 : Cond.selects RX3 yX3_write yX3_write ∈ gT := gT_in (by decide +kernel) (by decide +kernel)
theorem qw203 : Cond.code yX3_write cX3_write 5 none ∈ gT := gT_in (by decide +kernel) (by decide +kernel)
theorem qn204 : Cond.fieldLinkNest RX5 74 (TX0 0).1 (TX0 0).2.1 (TX0 0).2.2.1 "Rotationary" ∈ gNest := by decide +kernel
theorem qw205 : Cond.methodLink RX5 78 yX4_isReady ∈ gT := gT_in (by decide +kernel) (by decide +kernel)
theorem qw206 : Cond.instanceMethod yX4_isReady ∈ gT := gT_in (by decide +kernel) (by decide +kernel)
theorem qw207 : Cond.selects RX4 yX4_isReady yX4_isReady ∈ gT := gT_in (by decide +kernel) (by decide +kernel)
theorem qw208 : Cond.code yX4_isReady cX4_isReady 3 (some .boolean) ∈ gT := gT_in (by decide +kernel) (by decide +kernel)
theorem qn209 : Cond.fieldLinkNest RX5 82 (TX0 1).1 (TX0 1).2.1 (TX0 1).2.2.1 "Rotationary" ∈ gNest := by decide +kernel
theorem qw210 : Cond.methodLink RX5 92 yX0_startSet ∈ gT := gT_in (by decide +kernel) (by decide +kernel)
theorem qw211 : Cond.methodLink RX5 95 yX3_cutTo ∈ gT := gT_in (by decide +kernel) (by decide +kernel)
theorem qw212 : Cond.instanceMethod yX3_cutTo ∈ gT := gT_in (by decide +kernel) (by decide +kernel)
theorem qw213 : Cond.selects RX3 yX3_cutTo yX3_cutTo ∈ gT := gT_in (by decide +kernel) (by decide +kernel)
theorem qw214 : Cond.code yX3_cutTo cX3_cutTo 2 none ∈ gT := gT_in (by decide +kernel) (by decide +kernel)
theorem qw215 : Cond.methodLink RX5 98 yX5_writeOrder ∈ gT := gT_in (by decide +kernel) (by decide +kernel)
theorem qw216 : Cond.instanceMethod yX5_writeOrder ∈ gT := gT_in (by decide +kernel) (by decide +kernel)
theorem qw217 : Cond.selects RX5 yX5_writeOrder yX5_writeOrder ∈ gT := gT_in (by decide +kernel) (by decide +kernel)
theorem qw218 : Cond.code yX5_writeOrder cX5_writeOrder 4 none ∈ gT := gT_in (by decide +kernel) (by decide +kernel)
theorem qw219 : Cond.fieldLink RX5 105 (TX5 7).1 (TX5 7).2.1 (TX5 7).2.2.1 ∈ gT := gT_in (by decide +kernel) (by decide +kernel)
theorem qw220 : Cond.methodLink RX5 108 yX0_setsPlayed ∈ gT := gT_in (by decide +kernel) (by decide +kernel)
theorem qw221 : Cond.fieldLink RX5 22 (TX5 2).1 (TX5 2).2.1 (TX5 2).2.2.1 ∈ gT := gT_in (by decide +kernel) (by decide +kernel)
theorem qn222 : Cond.fieldLinkNest RX5 158 (TX1 0).1 (TX1 0).2.1 (TX1 0).2.2.1 "Rotationary" ∈ gNest := by decide +kernel
theorem qw223 : Cond.methodLink RX5 112 yX5_checkBetweenRallies ∈ gT := gT_in (by decide +kernel) (by decide +kernel)
theorem qw224 : Cond.instanceMethod yX5_checkBetweenRallies ∈ gT := gT_in (by decide +kernel) (by decide +kernel)
theorem qw225 : Cond.selects RX5 yX5_checkBetweenRallies yX5_checkBetweenRallies ∈ gT := gT_in (by decide +kernel) (by decide +kernel)
theorem qw226 : Cond.code yX5_checkBetweenRallies cX5_checkBetweenRallies 1 none ∈ gT := gT_in (by decide +kernel) (by decide +kernel)
theorem qn227 : Cond.fieldLinkNest RX5 115 (TX0 2).1 (TX0 2).2.1 (TX0 2).2.2.1 "Rotationary" ∈ gNest := by decide +kernel
theorem qw228 : Cond.methodLink RX5 118 yX4_placeOf ∈ gT := gT_in (by decide +kernel) (by decide +kernel)
theorem qw229 : Cond.methodLink RX5 123 yX1_start ∈ gT := gT_in (by decide +kernel) (by decide +kernel)
theorem qw230 : Cond.instanceMethod yX1_start ∈ gT := gT_in (by decide +kernel) (by decide +kernel)
theorem qw231 : Cond.selects RX1 yX1_start yX1_start ∈ gT := gT_in (by decide +kernel) (by decide +kernel)
theorem qw232 : Cond.initialized RX1 ∈ gT := gT_in (by decide +kernel) (by decide +kernel)
theorem qw233 : Cond.code yX1_start cX1_start 3 none ∈ gT := gT_in (by decide +kernel) (by decide +kernel)
theorem qw234 : Cond.methodLink RX5 126 yX0_takeService ∈ gT := gT_in (by decide +kernel) (by decide +kernel)
theorem qw235 : Cond.methodLink RX5 262 yX0_hasWonSet ∈ gT := gT_in (by decide +kernel) (by decide +kernel)
theorem qw236 : Cond.instanceMethod yX0_hasWonSet ∈ gT := gT_in (by decide +kernel) (by decide +kernel)
theorem qw237 : Cond.selects RX0 yX0_hasWonSet yX0_hasWonSet ∈ gT := gT_in (by decide +kernel) (by decide +kernel)
theorem qw238 : Cond.code yX0_hasWonSet cX0_hasWonSet 4 (some .boolean) ∈ gT := gT_in (by decide +kernel) (by decide +kernel)
theorem qw239 : Cond.methodLink RX5 265 yX0_endSet ∈ gT := gT_in (by decide +kernel) (by decide +kernel)
theorem qw240 : Cond.instanceMethod yX0_endSet ∈ gT := gT_in (by decide +kernel) (by decide +kernel)
theorem qw241 : Cond.selects RX0 yX0_endSet yX0_endSet ∈ gT := gT_in (by decide +kernel) (by decide +kernel)
theorem qw242 : Cond.code yX0_endSet cX0_endSet 2 none ∈ gT := gT_in (by decide +kernel) (by decide +kernel)
theorem qw243 : Cond.fieldLink RX5 16 (TX5 1).1 (TX5 1).2.1 (TX5 1).2.2.1 ∈ gT := gT_in (by decide +kernel) (by decide +kernel)
theorem qw244 : Cond.methodLink RX5 204 yX0_copyFrom ∈ gT := gT_in (by decide +kernel) (by decide +kernel)
theorem qw245 : Cond.instanceMethod yX0_copyFrom ∈ gT := gT_in (by decide +kernel) (by decide +kernel)
theorem qw246 : Cond.selects RX0 yX0_copyFrom yX0_copyFrom ∈ gT := gT_in (by decide +kernel) (by decide +kernel)
theorem qw247 : Cond.code yX0_copyFrom cX0_copyFrom 2 none ∈ gT := gT_in (by decide +kernel) (by decide +kernel)
theorem qn248 : Cond.fieldLinkNest RX5 256 (TX3 1).1 (TX3 1).2.1 (TX3 1).2.2.1 "Rotationary" ∈ gNest := by decide +kernel
theorem qw249 : Cond.fieldLink RX5 208 (TX5 5).1 (TX5 5).2.1 (TX5 5).2.2.1 ∈ gT := gT_in (by decide +kernel) (by decide +kernel)
theorem qw250 : Cond.methodLink RX5 259 yX0_givePoint ∈ gT := gT_in (by decide +kernel) (by decide +kernel)
theorem qw251 : Cond.methodLink RX5 170 yX5_endSetIfWonBy ∈ gT := gT_in (by decide +kernel) (by decide +kernel)
theorem qw252 : Cond.instanceMethod yX5_endSetIfWonBy ∈ gT := gT_in (by decide +kernel) (by decide +kernel)
theorem qw253 : Cond.selects RX5 yX5_endSetIfWonBy yX5_endSetIfWonBy ∈ gT := gT_in (by decide +kernel) (by decide +kernel)
theorem qw254 : Cond.code yX5_endSetIfWonBy cX5_endSetIfWonBy 2 none ∈ gT := gT_in (by decide +kernel) (by decide +kernel)
theorem qw255 : Cond.classLink RX5 130 "java/lang/IllegalArgumentException" ∈ gT := gT_in (by decide +kernel) (by decide +kernel)
theorem qw256 : Cond.initialized "java/lang/IllegalArgumentException" ∈ gT := gT_in (by decide +kernel) (by decide +kernel)
theorem qw257 : Cond.methodLink RX5 135 yX5_checkRally ∈ gT := gT_in (by decide +kernel) (by decide +kernel)
theorem qw258 : Cond.instanceMethod yX5_checkRally ∈ gT := gT_in (by decide +kernel) (by decide +kernel)
theorem qw259 : Cond.selects RX5 yX5_checkRally yX5_checkRally ∈ gT := gT_in (by decide +kernel) (by decide +kernel)
theorem qw260 : Cond.code yX5_checkRally cX5_checkRally 1 none ∈ gT := gT_in (by decide +kernel) (by decide +kernel)
theorem qw261 : Cond.methodLink RX5 138 yX1_faultOf ∈ gT := gT_in (by decide +kernel) (by decide +kernel)
theorem qw262 : Cond.instanceMethod yX1_faultOf ∈ gT := gT_in (by decide +kernel) (by decide +kernel)
theorem qw263 : Cond.selects RX1 yX1_faultOf yX1_faultOf ∈ gT := gT_in (by decide +kernel) (by decide +kernel)
theorem qw264 : Cond.code yX1_faultOf cX1_faultOf 4 (some .int) ∈ gT := gT_in (by decide +kernel) (by decide +kernel)
theorem qw265 : Cond.methodLink RX5 142 yX4_faultOf ∈ gT := gT_in (by decide +kernel) (by decide +kernel)
theorem qw266 : Cond.instanceMethod yX4_faultOf ∈ gT := gT_in (by decide +kernel) (by decide +kernel)
theorem qw267 : Cond.selects RX4 yX4_faultOf yX4_faultOf ∈ gT := gT_in (by decide +kernel) (by decide +kernel)
theorem qw268 : Cond.code yX4_faultOf cX4_faultOf 5 (some .int) ∈ gT := gT_in (by decide +kernel) (by decide +kernel)
theorem qw269 : Cond.methodLink RX5 145 yX1_note ∈ gT := gT_in (by decide +kernel) (by decide +kernel)
theorem qw270 : Cond.instanceMethod yX1_note ∈ gT := gT_in (by decide +kernel) (by decide +kernel)
theorem qw271 : Cond.selects RX1 yX1_note yX1_note ∈ gT := gT_in (by decide +kernel) (by decide +kernel)
theorem qw272 : Cond.code yX1_note cX1_note 5 none ∈ gT := gT_in (by decide +kernel) (by decide +kernel)
theorem qw273 : Cond.methodLink RX5 149 yX5_endRally ∈ gT := gT_in (by decide +kernel) (by decide +kernel)
theorem qw274 : Cond.instanceMethod yX5_endRally ∈ gT := gT_in (by decide +kernel) (by decide +kernel)
theorem qw275 : Cond.selects RX5 yX5_endRally yX5_endRally ∈ gT := gT_in (by decide +kernel) (by decide +kernel)
theorem qw276 : Cond.code yX5_endRally cX5_endRally 3 none ∈ gT := gT_in (by decide +kernel) (by decide +kernel)
theorem qn277 : Cond.fieldLinkNest RX5 152 (TX1 1).1 (TX1 1).2.1 (TX1 1).2.2.1 "Rotationary" ∈ gNest := by decide +kernel
theorem qw278 : Cond.methodLink RX5 155 yX1_noteNet ∈ gT := gT_in (by decide +kernel) (by decide +kernel)
theorem qw279 : Cond.instanceMethod yX1_noteNet ∈ gT := gT_in (by decide +kernel) (by decide +kernel)
theorem qw280 : Cond.selects RX1 yX1_noteNet yX1_noteNet ∈ gT := gT_in (by decide +kernel) (by decide +kernel)
theorem qw281 : Cond.code yX1_noteNet cX1_noteNet 2 none ∈ gT := gT_in (by decide +kernel) (by decide +kernel)
theorem qn282 : Cond.fieldLinkNest RX5 162 (TX0 3).1 (TX0 3).2.1 (TX0 3).2.2.1 "Rotationary" ∈ gNest := by decide +kernel
theorem qw283 : Cond.methodLink RX5 167 yX0_takeBack ∈ gT := gT_in (by decide +kernel) (by decide +kernel)
theorem qw284 : Cond.methodLink RX5 173 yX4_canExchange ∈ gT := gT_in (by decide +kernel) (by decide +kernel)
theorem qw285 : Cond.instanceMethod yX4_canExchange ∈ gT := gT_in (by decide +kernel) (by decide +kernel)
theorem qw286 : Cond.selects RX4 yX4_canExchange yX4_canExchange ∈ gT := gT_in (by decide +kernel) (by decide +kernel)
theorem qw287 : Cond.code yX4_canExchange cX4_canExchange 2 (some .boolean) ∈ gT := gT_in (by decide +kernel) (by decide +kernel)
theorem qw288 : Cond.methodLink RX5 178 yX4_swapLibero ∈ gT := gT_in (by decide +kernel) (by decide +kernel)
theorem qw289 : Cond.methodLink RX5 181 yX4_isLiberoIn ∈ gT := gT_in (by decide +kernel) (by decide +kernel)
theorem qw290 : Cond.methodLink RX5 184 yX4_canSubstitute ∈ gT := gT_in (by decide +kernel) (by decide +kernel)
theorem qw291 : Cond.instanceMethod yX4_canSubstitute ∈ gT := gT_in (by decide +kernel) (by decide +kernel)
theorem qw292 : Cond.selects RX4 yX4_canSubstitute yX4_canSubstitute ∈ gT := gT_in (by decide +kernel) (by decide +kernel)
theorem qw293 : Cond.code yX4_canSubstitute cX4_canSubstitute 4 (some .boolean) ∈ gT := gT_in (by decide +kernel) (by decide +kernel)
theorem qw294 : Cond.methodLink RX5 190 yX4_swapByPair ∈ gT := gT_in (by decide +kernel) (by decide +kernel)
theorem qn295 : Cond.fieldLinkNest RX5 193 (TX4 7).1 (TX4 7).2.1 (TX4 7).2.2.1 "Rotationary" ∈ gNest := by decide +kernel
theorem qn296 : Cond.fieldLinkNest RX5 196 (TX4 8).1 (TX4 8).2.1 (TX4 8).2.2.1 "Rotationary" ∈ gNest := by decide +kernel
theorem qw297 : Cond.methodLink RX5 201 yX1_isNetNotedOf ∈ gT := gT_in (by decide +kernel) (by decide +kernel)
theorem qw298 : Cond.instanceMethod yX1_isNetNotedOf ∈ gT := gT_in (by decide +kernel) (by decide +kernel)
theorem qw299 : Cond.selects RX1 yX1_isNetNotedOf yX1_isNetNotedOf ∈ gT := gT_in (by decide +kernel) (by decide +kernel)
theorem qw300 : Cond.code yX1_isNetNotedOf cX1_isNetNotedOf 2 (some .boolean) ∈ gT := gT_in (by decide +kernel) (by decide +kernel)
theorem qn301 : Cond.fieldLinkNest RX5 211 (TX4 4).1 (TX4 4).2.1 (TX4 4).2.2.1 "Rotationary" ∈ gNest := by decide +kernel
theorem qw302 : Cond.fieldLink RX5 36 (TX5 4).1 (TX5 4).2.1 (TX5 4).2.2.1 ∈ gT := gT_in (by decide +kernel) (by decide +kernel)
theorem qw303 : Cond.methodLink RX5 214 yX2_read ∈ gT := gT_in (by decide +kernel) (by decide +kernel)
theorem qw304 : Cond.instanceMethod yX2_read ∈ gT := gT_in (by decide +kernel) (by decide +kernel)
theorem qw305 : Cond.selects RX2 yX2_read yX2_read ∈ gT := gT_in (by decide +kernel) (by decide +kernel)
theorem qw306 : Cond.code yX2_read cX2_read 4 none ∈ gT := gT_in (by decide +kernel) (by decide +kernel)
theorem qn307 : Cond.fieldLinkNest RX5 218 (TX2 0).1 (TX2 0).2.1 (TX2 0).2.2.1 "Rotationary" ∈ gNest := by decide +kernel
theorem qn308 : Cond.fieldLinkNest RX5 219 (TX4 5).1 (TX4 5).2.1 (TX4 5).2.2.1 "Rotationary" ∈ gNest := by decide +kernel
theorem qn309 : Cond.fieldLinkNest RX5 225 (TX1 2).1 (TX1 2).2.1 (TX1 2).2.2.1 "Rotationary" ∈ gNest := by decide +kernel
theorem qw310 : Cond.methodLink RX5 234 yX2_lostBy ∈ gT := gT_in (by decide +kernel) (by decide +kernel)
theorem qw311 : Cond.fieldLink RX6 16 (TX6 2).1 (TX6 2).2.1 (TX6 2).2.2.1 ∈ gT := gT_in (by decide +kernel) (by decide +kernel)
theorem qw312 : Cond.methodLink RX6 20 yX6_isIn ∈ gT := gT_in (by decide +kernel) (by decide +kernel)
theorem qw313 : Cond.static yX6_isIn ∈ gT := gT_in (by decide +kernel) (by decide +kernel)
theorem qw314 : Cond.initialized yX6_isIn.cls ∈ gT := gT_in (by decide +kernel) (by decide +kernel)
theorem qw315 : Cond.code yX6_isIn cX6_isIn 3 (some .boolean) ∈ gT := gT_in (by decide +kernel) (by decide +kernel)
theorem qw316 : Cond.fieldLink RX6 7 (TX6 0).1 (TX6 0).2.1 (TX6 0).2.2.1 ∈ gT := gT_in (by decide +kernel) (by decide +kernel)
theorem qw317 : Cond.methodLink RX6 24 yX6_slot ∈ gT := gT_in (by decide +kernel) (by decide +kernel)
theorem qw318 : Cond.static yX6_slot ∈ gT := gT_in (by decide +kernel) (by decide +kernel)
theorem qw319 : Cond.initialized yX6_slot.cls ∈ gT := gT_in (by decide +kernel) (by decide +kernel)
theorem qw320 : Cond.code yX6_slot cX6_slot 2 (some .int) ∈ gT := gT_in (by decide +kernel) (by decide +kernel)
theorem qw321 : Cond.methodLink RX6 28 yX6_isTeam ∈ gT := gT_in (by decide +kernel) (by decide +kernel)
theorem qw322 : Cond.static yX6_isTeam ∈ gT := gT_in (by decide +kernel) (by decide +kernel)
theorem qw323 : Cond.initialized yX6_isTeam.cls ∈ gT := gT_in (by decide +kernel) (by decide +kernel)
theorem qw324 : Cond.code yX6_isTeam cX6_isTeam 1 (some .boolean) ∈ gT := gT_in (by decide +kernel) (by decide +kernel)
theorem qw325 : Cond.methodLink RX6 39 yX6_goes ∈ gT := gT_in (by decide +kernel) (by decide +kernel)
theorem qw326 : Cond.instanceMethod yX6_goes ∈ gT := gT_in (by decide +kernel) (by decide +kernel)
theorem qw327 : Cond.selects RX6 yX6_goes yX6_goes ∈ gT := gT_in (by decide +kernel) (by decide +kernel)
theorem qw328 : Cond.initialized RX6 ∈ gT := gT_in (by decide +kernel) (by decide +kernel)
theorem qw329 : Cond.code yX6_goes cX6_goes 2 (some .boolean) ∈ gT := gT_in (by decide +kernel) (by decide +kernel)
theorem qw330 : Cond.methodLink RX6 35 yX6_isOver ∈ gT := gT_in (by decide +kernel) (by decide +kernel)
theorem qw331 : Cond.instanceMethod yX6_isOver ∈ gT := gT_in (by decide +kernel) (by decide +kernel)
theorem qw332 : Cond.selects RX6 yX6_isOver yX6_isOver ∈ gT := gT_in (by decide +kernel) (by decide +kernel)
theorem qw333 : Cond.code yX6_isOver cX6_isOver 1 (some .boolean) ∈ gT := gT_in (by decide +kernel) (by decide +kernel)
theorem qw334 : Cond.methodLink RX6 32 yX6_isShirt ∈ gT := gT_in (by decide +kernel) (by decide +kernel)
theorem qw335 : Cond.static yX6_isShirt ∈ gT := gT_in (by decide +kernel) (by decide +kernel)
theorem qw336 : Cond.initialized yX6_isShirt.cls ∈ gT := gT_in (by decide +kernel) (by decide +kernel)
theorem qw337 : Cond.code yX6_isShirt cX6_isShirt 1 (some .boolean) ∈ gT := gT_in (by decide +kernel) (by decide +kernel)
theorem qw338 : Cond.methodLink RX6 42 yX6_place ∈ gT := gT_in (by decide +kernel) (by decide +kernel)
theorem qw339 : Cond.instanceMethod yX6_place ∈ gT := gT_in (by decide +kernel) (by decide +kernel)
theorem qw340 : Cond.selects RX6 yX6_place yX6_place ∈ gT := gT_in (by decide +kernel) (by decide +kernel)
theorem qw341 : Cond.code yX6_place cX6_place 5 (some .int) ∈ gT := gT_in (by decide +kernel) (by decide +kernel)
theorem qw342 : Cond.methodLink RX6 45 yX6_isLinedUp ∈ gT := gT_in (by decide +kernel) (by decide +kernel)
theorem qw343 : Cond.instanceMethod yX6_isLinedUp ∈ gT := gT_in (by decide +kernel) (by decide +kernel)
theorem qw344 : Cond.selects RX6 yX6_isLinedUp yX6_isLinedUp ∈ gT := gT_in (by decide +kernel) (by decide +kernel)
theorem qw345 : Cond.code yX6_isLinedUp cX6_isLinedUp 5 (some .boolean) ∈ gT := gT_in (by decide +kernel) (by decide +kernel)
theorem qw346 : Cond.methodLink RX6 48 yX6_rotates ∈ gT := gT_in (by decide +kernel) (by decide +kernel)
theorem qw347 : Cond.instanceMethod yX6_rotates ∈ gT := gT_in (by decide +kernel) (by decide +kernel)
theorem qw348 : Cond.selects RX6 yX6_rotates yX6_rotates ∈ gT := gT_in (by decide +kernel) (by decide +kernel)
theorem qw349 : Cond.code yX6_rotates cX6_rotates 4 none ∈ gT := gT_in (by decide +kernel) (by decide +kernel)
theorem qw350 : Cond.methodLink RX6 52 yX6_scores ∈ gT := gT_in (by decide +kernel) (by decide +kernel)
theorem qw351 : Cond.instanceMethod yX6_scores ∈ gT := gT_in (by decide +kernel) (by decide +kernel)
theorem qw352 : Cond.selects RX6 yX6_scores yX6_scores ∈ gT := gT_in (by decide +kernel) (by decide +kernel)
theorem qw353 : Cond.code yX6_scores cX6_scores 4 none ∈ gT := gT_in (by decide +kernel) (by decide +kernel)
theorem qw354 : Cond.methodLink RX6 55 yX6_wins ∈ gT := gT_in (by decide +kernel) (by decide +kernel)
theorem qw355 : Cond.instanceMethod yX6_wins ∈ gT := gT_in (by decide +kernel) (by decide +kernel)
theorem qw356 : Cond.selects RX6 yX6_wins yX6_wins ∈ gT := gT_in (by decide +kernel) (by decide +kernel)
theorem qw357 : Cond.code yX6_wins cX6_wins 4 none ∈ gT := gT_in (by decide +kernel) (by decide +kernel)
theorem qw358 : Cond.fieldLink RX6 13 (TX6 1).1 (TX6 1).2.1 (TX6 1).2.2.1 ∈ gT := gT_in (by decide +kernel) (by decide +kernel)
theorem qw359 : Cond.methodLink RX6 59 yX6_isBehind ∈ gT := gT_in (by decide +kernel) (by decide +kernel)
theorem qw360 : Cond.static yX6_isBehind ∈ gT := gT_in (by decide +kernel) (by decide +kernel)
theorem qw361 : Cond.initialized yX6_isBehind.cls ∈ gT := gT_in (by decide +kernel) (by decide +kernel)
theorem qw362 : Cond.code yX6_isBehind cX6_isBehind 1 (some .boolean) ∈ gT := gT_in (by decide +kernel) (by decide +kernel)
theorem qw363 : Cond.methodLink RX6 62 yX6_fault ∈ gT := gT_in (by decide +kernel) (by decide +kernel)
theorem qw364 : Cond.instanceMethod yX6_fault ∈ gT := gT_in (by decide +kernel) (by decide +kernel)
theorem qw365 : Cond.selects RX6 yX6_fault yX6_fault ∈ gT := gT_in (by decide +kernel) (by decide +kernel)
theorem qw366 : Cond.code yX6_fault cX6_fault 8 (some .int) ∈ gT := gT_in (by decide +kernel) (by decide +kernel)
theorem qw367 : Cond.methodLink RX6 66 yX6_ends ∈ gT := gT_in (by decide +kernel) (by decide +kernel)
theorem qw368 : Cond.instanceMethod yX6_ends ∈ gT := gT_in (by decide +kernel) (by decide +kernel)
theorem qw369 : Cond.selects RX6 yX6_ends yX6_ends ∈ gT := gT_in (by decide +kernel) (by decide +kernel)
theorem qw370 : Cond.code yX6_ends cX6_ends 4 none ∈ gT := gT_in (by decide +kernel) (by decide +kernel)
theorem qw371 : Cond.methodLink RX6 69 yX6_pair ∈ gT := gT_in (by decide +kernel) (by decide +kernel)
theorem qw372 : Cond.instanceMethod yX6_pair ∈ gT := gT_in (by decide +kernel) (by decide +kernel)
theorem qw373 : Cond.selects RX6 yX6_pair yX6_pair ∈ gT := gT_in (by decide +kernel) (by decide +kernel)
theorem qw374 : Cond.code yX6_pair cX6_pair 6 (some .int) ∈ gT := gT_in (by decide +kernel) (by decide +kernel)
theorem qw375 : Cond.methodLink RX6 72 yX6_isPlace ∈ gT := gT_in (by decide +kernel) (by decide +kernel)
theorem qw376 : Cond.static yX6_isPlace ∈ gT := gT_in (by decide +kernel) (by decide +kernel)
theorem qw377 : Cond.initialized yX6_isPlace.cls ∈ gT := gT_in (by decide +kernel) (by decide +kernel)
theorem qw378 : Cond.code yX6_isPlace cX6_isPlace 2 (some .boolean) ∈ gT := gT_in (by decide +kernel) (by decide +kernel)
theorem qc1 : gWn RX4 28 "Rotationary" yX5_putIn cX5_putIn 3 none 3 := ⟨qn11, qw12, qw13, qw14, by decide +kernel⟩
theorem qc2 : gWv RX0 31 RX4 yX4_startSet cX4_startSet 2 none 0 := ⟨qw15, qw16, qw17, qw18, qw19, by decide +kernel⟩
theorem qc3 : gWn RX4 32 "Rotationary" yX5_valueIn cX5_valueIn 2 (some .int) 2 := ⟨qn22, qw23, qw24, qw25, by decide +kernel⟩
theorem qc4 : gWv RX0 34 RX0 yX0_sideOf cX0_sideOf 2 (some (.object "Rotationary$Side")) 1 := ⟨qw26, qw27, qw28, qw29, qw30, by decide +kernel⟩
theorem qc5 : gWv RX0 38 RX4 yX4_shirtIn cX4_shirtIn 2 (some .int) 1 := ⟨qw31, qw32, qw33, qw18, qw34, by decide +kernel⟩
theorem qc6 : gWv RX4 36 RX4 yX4_shirtIn cX4_shirtIn 2 (some .int) 1 := ⟨qw38, qw32, qw33, qw18, qw34, by decide +kernel⟩
theorem qc7 : gWv RX4 56 RX4 yX4_put cX4_put 3 none 2 := ⟨qw39, qw40, qw41, qw18, qw42, by decide +kernel⟩
theorem qc8 : gWv RX4 60 RX4 yX4_isLiberoIn cX4_isLiberoIn 1 (some .boolean) 0 := ⟨qw43, qw44, qw45, qw18, qw46, by decide +kernel⟩
theorem qc9 : gWv RX0 49 RX4 yX4_rotate cX4_rotate 3 none 0 := ⟨qw48, qw49, qw50, qw18, qw51, by decide +kernel⟩
theorem qc10 : gWv RX0 52 RX0 yX0_givePoint cX0_givePoint 3 none 1 := ⟨qw52, qw53, qw54, qw29, qw55, by decide +kernel⟩
theorem qc11 : gWv RX0 56 RX0 yX0_setsPlayed cX0_setsPlayed 1 (some .int) 0 := ⟨qw56, qw57, qw58, qw29, qw59, by decide +kernel⟩
theorem qc12 : gWv RX0 60 RX4 yX4_clearOrder cX4_clearOrder 2 none 0 := ⟨qw60, qw61, qw62, qw18, qw63, by decide +kernel⟩
theorem qc13 : gWv RX0 63 RX4 yX4_copyFrom cX4_copyFrom 3 none 1 := ⟨qw65, qw66, qw67, qw18, qw68, by decide +kernel⟩
theorem qc14 : gWv RX2 66 RX4 yX4_clearOrder cX4_clearOrder 2 none 0 := ⟨qw78, qw61, qw62, qw18, qw63, by decide +kernel⟩
theorem qc15 : gWn RX2 74 "Rotationary" yX5_putIn cX5_putIn 3 none 3 := ⟨qn81, qw12, qw13, qw14, by decide +kernel⟩
theorem qc16 : gWn RX3 23 "Rotationary" yX5_valueIn cX5_valueIn 2 (some .int) 2 := ⟨qn84, qw23, qw24, qw25, by decide +kernel⟩
theorem qc17 : gWv RX2 54 RX2 yX2_rowOf cX2_rowOf 2 (some (.array .int)) 1 := ⟨qw85, qw86, qw87, qw88, qw89, by decide +kernel⟩
theorem qc18 : gWn RX2 58 "Rotationary" yX5_valueIn cX5_valueIn 2 (some .int) 2 := ⟨qn90, qw23, qw24, qw25, by decide +kernel⟩
theorem qc19 : gWv RX2 78 RX0 yX0_sideOf cX0_sideOf 2 (some (.object "Rotationary$Side")) 1 := ⟨qw91, qw27, qw28, qw29, qw30, by decide +kernel⟩
theorem qc20 : gWv RX2 116 RX2 yX2_lostBy cX2_lostBy 3 (some .int) 2 := ⟨qw93, qw94, qw95, qw88, qw96, by decide +kernel⟩
theorem qc21 : gWv RX4 40 RX4 yX4_placeOf cX4_placeOf 3 (some .int) 1 := ⟨qw97, qw98, qw99, qw18, qw100, by decide +kernel⟩
theorem qc22 : gWv RX2 82 RX4 yX4_put cX4_put 3 none 2 := ⟨qw101, qw40, qw41, qw18, qw42, by decide +kernel⟩
theorem qc23 : gWv RX2 89 RX0 yX0_startSet cX0_startSet 2 none 1 := ⟨qw103, qw104, qw105, qw29, qw106, by decide +kernel⟩
theorem qc24 : gWv RX2 93 RX0 yX0_takeService cX0_takeService 4 (some .boolean) 1 := ⟨qw107, qw108, qw109, qw29, qw110, by decide +kernel⟩
theorem qc25 : gWv RX2 97 RX2 yX2_countLost cX2_countLost 3 none 1 := ⟨qw111, qw112, qw113, qw88, qw114, by decide +kernel⟩
theorem qc26 : gWv RX2 100 RX0 yX0_givePoint cX0_givePoint 3 none 1 := ⟨qw115, qw53, qw54, qw29, qw55, by decide +kernel⟩
theorem qc27 : gWv RX2 103 RX0 yX0_takeBack cX0_takeBack 3 (some .int) 0 := ⟨qw116, qw117, qw118, qw29, qw119, by decide +kernel⟩
theorem qc28 : gWv RX2 107 RX4 yX4_swapLibero cX4_swapLibero 2 none 1 := ⟨qw120, qw121, qw122, qw18, qw123, by decide +kernel⟩
theorem qc29 : gWv RX2 110 RX4 yX4_swapByPair cX4_swapByPair 4 none 2 := ⟨qw124, qw125, qw126, qw18, qw127, by decide +kernel⟩
theorem qc30 : gWv RX2 25 RX2 yX2_clear cX2_clear 2 none 0 := ⟨qw128, qw129, qw130, qw88, qw131, by decide +kernel⟩
theorem qc31 : gWv RX2 34 RX3 yX3_signAt cX3_signAt 2 (some .int) 1 := ⟨qw133, qw134, qw135, qw136, qw137, by decide +kernel⟩
theorem qc32 : gWs RX2 38 yX3_kindOf cX3_kindOf 1 (some .int) 1 := ⟨qw138, qw139, qw140, qw141, by decide +kernel⟩
theorem qc33 : gWs RX2 41 yX3_teamOf cX3_teamOf 1 (some .int) 1 := ⟨qw142, qw143, qw144, qw145, by decide +kernel⟩
theorem qc34 : gWs RX2 44 yX3_oneOf cX3_oneOf 1 (some .int) 1 := ⟨qw146, qw147, qw148, qw149, by decide +kernel⟩
theorem qc35 : gWs RX2 47 yX3_twoOf cX3_twoOf 1 (some .int) 1 := ⟨qw150, qw151, qw152, qw153, by decide +kernel⟩
theorem qc36 : gWv RX2 50 RX2 yX2_follow cX2_follow 6 none 4 := ⟨qw154, qw155, qw156, qw88, qw157, by decide +kernel⟩
theorem qc37 : gWn RX3 17 "Rotationary" yX5_putIn cX5_putIn 3 none 3 := ⟨qn159, qw12, qw13, qw14, by decide +kernel⟩
theorem qc38 : gWv RX4 64 RX4 yX4_isBehind cX4_isBehind 3 (some .boolean) 1 := ⟨qw160, qw161, qw162, qw18, qw163, by decide +kernel⟩
theorem qc39 : gWv RX5 222 RX0 yX0_isSetOn cX0_isSetOn 1 (some .boolean) 0 := ⟨qw167, qw168, qw169, qw29, qw170, by decide +kernel⟩
theorem qc40 : gWv RX5 247 RX0 yX0_isMatchOver cX0_isMatchOver 1 (some .boolean) 0 := ⟨qw171, qw172, qw173, qw29, qw174, by decide +kernel⟩
theorem qc41 : gWs RX5 44 yX5_checkTeam cX5_checkTeam 1 none 1 := ⟨qw177, qw178, qw179, qw180, by decide +kernel⟩
theorem qc42 : gWs RX5 48 yX5_checkPlace cX5_checkPlace 1 none 1 := ⟨qw181, qw182, qw183, qw184, by decide +kernel⟩
theorem qc43 : gWs RX5 51 yX5_checkShirt cX5_checkShirt 1 none 1 := ⟨qw185, qw186, qw187, qw188, by decide +kernel⟩
theorem qc44 : gWv RX5 54 RX5 yX5_checkAheadOfSet cX5_checkAheadOfSet 1 none 0 := ⟨qw189, qw190, qw191, qw192, qw193, by decide +kernel⟩
theorem qc45 : gWv RX5 57 RX0 yX0_sideOf cX0_sideOf 2 (some (.object "Rotationary$Side")) 1 := ⟨qw194, qw27, qw28, qw29, qw30, by decide +kernel⟩
theorem qc46 : gWv RX5 61 RX4 yX4_shirtIn cX4_shirtIn 2 (some .int) 1 := ⟨qw195, qw32, qw33, qw18, qw34, by decide +kernel⟩
theorem qc47 : gWv RX5 67 RX4 yX4_put cX4_put 3 none 2 := ⟨qw196, qw40, qw41, qw18, qw42, by decide +kernel⟩
theorem qc48 : gWv RX5 101 RX3 yX3_write cX3_write 5 none 4 := ⟨qw200, qw201, qw202, qw136, qw203, by decide +kernel⟩
theorem qc49 : gWv RX5 78 RX4 yX4_isReady cX4_isReady 3 (some .boolean) 0 := ⟨qw205, qw206, qw207, qw18, qw208, by decide +kernel⟩
theorem qc50 : gWv RX5 92 RX0 yX0_startSet cX0_startSet 2 none 1 := ⟨qw210, qw104, qw105, qw29, qw106, by decide +kernel⟩
theorem qc51 : gWv RX5 95 RX3 yX3_cutTo cX3_cutTo 2 none 1 := ⟨qw211, qw212, qw213, qw136, qw214, by decide +kernel⟩
theorem qc52 : gWv RX5 98 RX5 yX5_writeOrder cX5_writeOrder 4 none 1 := ⟨qw215, qw216, qw217, qw192, qw218, by decide +kernel⟩
theorem qc53 : gWv RX5 108 RX0 yX0_setsPlayed cX0_setsPlayed 1 (some .int) 0 := ⟨qw220, qw57, qw58, qw29, qw59, by decide +kernel⟩
theorem qc54 : gWv RX5 112 RX5 yX5_checkBetweenRallies cX5_checkBetweenRallies 1 none 0 := ⟨qw223, qw224, qw225, qw192, qw226, by decide +kernel⟩
theorem qc55 : gWv RX5 118 RX4 yX4_placeOf cX4_placeOf 3 (some .int) 1 := ⟨qw228, qw98, qw99, qw18, qw100, by decide +kernel⟩
theorem qc56 : gWv RX5 123 RX1 yX1_start cX1_start 3 none 2 := ⟨qw229, qw230, qw231, qw232, qw233, by decide +kernel⟩
theorem qc57 : gWv RX5 126 RX0 yX0_takeService cX0_takeService 4 (some .boolean) 1 := ⟨qw234, qw108, qw109, qw29, qw110, by decide +kernel⟩
theorem qc58 : gWv RX5 262 RX0 yX0_hasWonSet cX0_hasWonSet 4 (some .boolean) 1 := ⟨qw235, qw236, qw237, qw29, qw238, by decide +kernel⟩
theorem qc59 : gWv RX5 265 RX0 yX0_endSet cX0_endSet 2 none 1 := ⟨qw239, qw240, qw241, qw29, qw242, by decide +kernel⟩
theorem qc60 : gWv RX5 204 RX0 yX0_copyFrom cX0_copyFrom 2 none 1 := ⟨qw244, qw245, qw246, qw29, qw247, by decide +kernel⟩
theorem qc61 : gWv RX5 259 RX0 yX0_givePoint cX0_givePoint 3 none 1 := ⟨qw250, qw53, qw54, qw29, qw55, by decide +kernel⟩
theorem qc62 : gWv RX5 170 RX5 yX5_endSetIfWonBy cX5_endSetIfWonBy 2 none 1 := ⟨qw251, qw252, qw253, qw192, qw254, by decide +kernel⟩
theorem qc63 : gWv RX5 135 RX5 yX5_checkRally cX5_checkRally 1 none 0 := ⟨qw257, qw258, qw259, qw192, qw260, by decide +kernel⟩
theorem qc64 : gWv RX5 138 RX1 yX1_faultOf cX1_faultOf 4 (some .int) 3 := ⟨qw261, qw262, qw263, qw232, qw264, by decide +kernel⟩
theorem qc65 : gWv RX5 142 RX4 yX4_faultOf cX4_faultOf 5 (some .int) 3 := ⟨qw265, qw266, qw267, qw18, qw268, by decide +kernel⟩
theorem qc66 : gWv RX5 145 RX1 yX1_note cX1_note 5 none 3 := ⟨qw269, qw270, qw271, qw232, qw272, by decide +kernel⟩
theorem qc67 : gWv RX5 149 RX5 yX5_endRally cX5_endRally 3 none 2 := ⟨qw273, qw274, qw275, qw192, qw276, by decide +kernel⟩
theorem qc68 : gWv RX5 155 RX1 yX1_noteNet cX1_noteNet 2 none 1 := ⟨qw278, qw279, qw280, qw232, qw281, by decide +kernel⟩
theorem qc69 : gWv RX5 167 RX0 yX0_takeBack cX0_takeBack 3 (some .int) 0 := ⟨qw283, qw117, qw118, qw29, qw119, by decide +kernel⟩
theorem qc70 : gWv RX5 173 RX4 yX4_canExchange cX4_canExchange 2 (some .boolean) 1 := ⟨qw284, qw285, qw286, qw18, qw287, by decide +kernel⟩
theorem qc71 : gWv RX5 178 RX4 yX4_swapLibero cX4_swapLibero 2 none 1 := ⟨qw288, qw121, qw122, qw18, qw123, by decide +kernel⟩
theorem qc72 : gWv RX5 181 RX4 yX4_isLiberoIn cX4_isLiberoIn 1 (some .boolean) 0 := ⟨qw289, qw44, qw45, qw18, qw46, by decide +kernel⟩
theorem qc73 : gWv RX5 184 RX4 yX4_canSubstitute cX4_canSubstitute 4 (some .boolean) 2 := ⟨qw290, qw291, qw292, qw18, qw293, by decide +kernel⟩
theorem qc74 : gWv RX5 190 RX4 yX4_swapByPair cX4_swapByPair 4 none 2 := ⟨qw294, qw125, qw126, qw18, qw127, by decide +kernel⟩
theorem qc75 : gWv RX5 201 RX1 yX1_isNetNotedOf cX1_isNetNotedOf 2 (some .boolean) 1 := ⟨qw297, qw298, qw299, qw232, qw300, by decide +kernel⟩
theorem qc76 : gWv RX5 214 RX2 yX2_read cX2_read 4 none 1 := ⟨qw303, qw304, qw305, qw88, qw306, by decide +kernel⟩
theorem qc77 : gWv RX5 234 RX2 yX2_lostBy cX2_lostBy 3 (some .int) 2 := ⟨qw310, qw94, qw95, qw88, qw96, by decide +kernel⟩
theorem qc78 : gWs RX6 20 yX6_isIn cX6_isIn 3 (some .boolean) 3 := ⟨qw312, qw313, qw314, qw315, by decide +kernel⟩
theorem qc79 : gWs RX6 24 yX6_slot cX6_slot 2 (some .int) 2 := ⟨qw317, qw318, qw319, qw320, by decide +kernel⟩
theorem qc80 : gWs RX6 28 yX6_isTeam cX6_isTeam 1 (some .boolean) 1 := ⟨qw321, qw322, qw323, qw324, by decide +kernel⟩
theorem qc81 : gWv RX6 39 RX6 yX6_goes cX6_goes 2 (some .boolean) 1 := ⟨qw325, qw326, qw327, qw328, qw329, by decide +kernel⟩
theorem qc82 : gWv RX6 35 RX6 yX6_isOver cX6_isOver 1 (some .boolean) 0 := ⟨qw330, qw331, qw332, qw328, qw333, by decide +kernel⟩
theorem qc83 : gWs RX6 32 yX6_isShirt cX6_isShirt 1 (some .boolean) 1 := ⟨qw334, qw335, qw336, qw337, by decide +kernel⟩
theorem qc84 : gWv RX6 42 RX6 yX6_place cX6_place 5 (some .int) 2 := ⟨qw338, qw339, qw340, qw328, qw341, by decide +kernel⟩
theorem qc85 : gWv RX6 45 RX6 yX6_isLinedUp cX6_isLinedUp 5 (some .boolean) 1 := ⟨qw342, qw343, qw344, qw328, qw345, by decide +kernel⟩
theorem qc86 : gWv RX6 48 RX6 yX6_rotates cX6_rotates 4 none 1 := ⟨qw346, qw347, qw348, qw328, qw349, by decide +kernel⟩
theorem qc87 : gWv RX6 52 RX6 yX6_scores cX6_scores 4 none 1 := ⟨qw350, qw351, qw352, qw328, qw353, by decide +kernel⟩
theorem qc88 : gWv RX6 55 RX6 yX6_wins cX6_wins 4 none 2 := ⟨qw354, qw355, qw356, qw328, qw357, by decide +kernel⟩
theorem qc89 : gWs RX6 59 yX6_isBehind cX6_isBehind 1 (some .boolean) 1 := ⟨qw359, qw360, qw361, qw362, by decide +kernel⟩
theorem qc90 : gWv RX6 62 RX6 yX6_fault cX6_fault 8 (some .int) 4 := ⟨qw363, qw364, qw365, qw328, qw366, by decide +kernel⟩
theorem qc91 : gWv RX6 66 RX6 yX6_ends cX6_ends 4 none 2 := ⟨qw367, qw368, qw369, qw328, qw370, by decide +kernel⟩
theorem qc92 : gWv RX6 69 RX6 yX6_pair cX6_pair 6 (some .int) 2 := ⟨qw371, qw372, qw373, qw328, qw374, by decide +kernel⟩
theorem qc93 : gWs RX6 72 yX6_isPlace cX6_isPlace 2 (some .boolean) 2 := ⟨qw375, qw376, qw377, qw378, by decide +kernel⟩
theorem qt1 : ∀ w ∈ vx_atS RX5 242 "java/lang/IndexOutOfBoundsException" ["java/lang/RuntimeException", "java/lang/Exception"], w ∈ gT ∨ w ∈ gNest := fun w h => by
  have h1 := (show ∀ w ∈ vx_atS RX5 242 "java/lang/IndexOutOfBoundsException" ["java/lang/RuntimeException", "java/lang/Exception"], (w ∈ lw_tbl ∧ goodWord w = true) ∨ w ∈ gNest by decide +kernel) w h
  exact h1.imp (fun h2 => gT_in h2.1 h2.2) id
theorem qt2 : ∀ w ∈ vx_atS RX5 89 "java/lang/IllegalStateException" ["java/lang/RuntimeException", "java/lang/Exception"], w ∈ gT ∨ w ∈ gNest := fun w h => by
  have h1 := (show ∀ w ∈ vx_atS RX5 89 "java/lang/IllegalStateException" ["java/lang/RuntimeException", "java/lang/Exception"], (w ∈ lw_tbl ∧ goodWord w = true) ∨ w ∈ gNest by decide +kernel) w h
  exact h1.imp (fun h2 => gT_in h2.1 h2.2) id
theorem qt3 : ∀ w ∈ vx_atS RX5 134 "java/lang/IllegalArgumentException" ["java/lang/RuntimeException", "java/lang/Exception"], w ∈ gT ∨ w ∈ gNest := fun w h => by
  have h1 := (show ∀ w ∈ vx_atS RX5 134 "java/lang/IllegalArgumentException" ["java/lang/RuntimeException", "java/lang/Exception"], (w ∈ lw_tbl ∧ goodWord w = true) ∨ w ∈ gNest by decide +kernel) w h
  exact h1.imp (fun h2 => gT_in h2.1 h2.2) id
end
section
def F_Game_putIn (a1 : Nat) (p2 : Int32) (p3 : Int32) (σ : gSt) : Option gSt := if p2 < (0 : Int32) then (some σ) else (if (nI (gLn a1)) ≤ p2 then (some σ) else (if p2 < 0 ∨ gLn a1 ≤ p2.toNatClampNeg then none else gl (gup σ a1 p2.toNatClampNeg p3) fun σ3 => some σ3))

set_option maxHeartbeats 4000000 in
set_option maxRecDepth 100000 in
theorem c_Game_putIn (l : Launch) (hl : l.stackTraces = false) (D : va_G) (cI cJ : ClassId) (ad : Nat → Nat) (a1 : Nat) (p2 : Int32) (p3 : Int32) (ha1 : gKd a1 = 7) : gMv l D cI cJ ad yX5_putIn cX5_putIn 3 none { frames := 0, cells := 0, slots := 0, locals := 0 } [.ref (ad a1), .int p2, .int p3] (F_Game_putIn a1 p2 p3) := by
  refine gStartV (L0 := [(0, .ref (ad a1)), (1, .int p2), (2, .int p3)]) RX5 (by decide) rfl rfl (Nat.le_of_ble_eq_true rfl) ?_
  intro p e s m args below meth c sz σ σ' C hr
  unfold F_Game_putIn
  refine g_iload_n C 1 dX5_putIn_0 rfl rfl ?_
  refine g_if_lt (tgt := 14) C dX5_putIn_1 (by decide) (fun h1 => ?_) (fun h1 => ?_)
  · exact g_retv C hr dX5_putIn_14
  · refine g_iload_n C 1 dX5_putIn_4 rfl rfl ?_
    refine g_aload_n C 0 dX5_putIn_5 rfl rfl ?_
    refine g_alen (o := a1) (n := (gLn a1)) C ha1 rfl dX5_putIn_6 ?_
    refine g_icmp_ge (tgt := 14) C dX5_putIn_7 (by decide) (fun h2 => ?_) (fun h2 => ?_)
    · exact g_retv C hr dX5_putIn_14
    · refine g_aload_n C 0 dX5_putIn_10 rfl rfl ?_
      refine g_iload_n C 1 dX5_putIn_11 rfl rfl ?_
      refine g_iload_n C 2 dX5_putIn_12 rfl rfl ?_
      refine g_iast (o := a1) (n := (gLn a1)) C ha1 rfl dX5_putIn_13 (fun σ3 => ?_)
      exact g_retv C hr dX5_putIn_14

def F_Side_startSet_B27 (k : Nat) : Nat → Int32 → gSt → Option gSt
  | 0, _, _ => none
  | n + 1, l1, σ => if (20 : Int32) < l1 then (some σ) else (gbv (F_Game_putIn (k + 2) l1 (0 : Int32) σ) fun σ2 => F_Side_startSet_B27 k n (l1 + (1 : Int32)) σ2)

def F_Side_startSet (k : Nat) (σ : gSt) : Option gSt := gl (gup σ k 4 (0 : Int32)) fun σ1 => gl (gup σ1 k 6 (0 : Int32)) fun σ2 => gl (gup σ2 k 7 (0 : Int32)) fun σ3 => gl (gup σ3 k 8 (2 : Int32)) fun σ4 => gl (gup σ4 k 9 (0 : Int32)) fun σ5 => F_Side_startSet_B27 k 100 (1 : Int32) σ5

set_option maxHeartbeats 4000000 in
set_option maxRecDepth 100000 in
theorem b_Side_startSet_B27 {p : Program} {l : Launch} {e : Env} {s : State} {m : MethodId} {args : Array Value} {below : List Frame} {meth : Method} {c : Code} {D : va_G} {cI cJ : ClassId} {ad : Nat → Nat} {sz : Nat} {σ' : gSt} (C : gC p s m args meth c D cI cJ ad (gA ad sz) cX4_startSet 2 RX4) (hr : meth.sig.returnType = none) (hl : l.stackTraces = false) (k : Nat) (hk : gIsSide k) : ∀ (n : Nat) (l1 : Int32) (σ : gSt), gX (F_Side_startSet_B27 k n l1 σ) σ' (gG p l e { frames := 1, cells := 0, slots := 0, locals := 22 } s m args below meth c D cI cJ ad (gA ad sz) 2 0 0 (MQ below (va_Qv (fun (_ : Unit) => True) (fun _ t => va_P D vwCl (gw cI cJ ad σ') t.heap) (gA ad sz)) args s 0 0 (gA ad sz)) σ 27 [(0, .ref (ad k)), (1, .int l1)] []) := by
  intro n
  induction n with
  | zero =>
    intro l1 σ
    unfold F_Side_startSet_B27
    exact gX_none
  | succ n ih =>
    intro l1 σ
    unfold F_Side_startSet_B27
    refine g_iload_n C 1 dX4_startSet_27 rfl rfl ?_
    refine g_bipush (v := (20 : Int32)) C dX4_startSet_28 (by decide) ?_
    refine g_icmp_gt (tgt := 48) C dX4_startSet_30 (by decide) (fun h1 => ?_) (fun h1 => ?_)
    · exact g_retv C hr dX4_startSet_48
    · refine g_aload_n C 0 dX4_startSet_33 rfl rfl ?_
      refine g_getR (o' := (k + 2)) C k 1 gcl4 (gSd hk).1 (by decide) (gSd hk).2.2.1 qw10 dX4_startSet_34 ?_
      refine g_iload_n C 1 dX4_startSet_37 rfl rfl ?_
      refine g_iconst (v := (0 : Int32)) C dX4_startSet_38 (by decide) ?_
      refine g_callnv (As := [.ref (ad (k + 2)), .int l1, .int (0 : Int32)]) (n := 3) C (c_Game_putIn l hl D cI cJ ad (k + 2) l1 (0 : Int32) (gSd hk).2.2.2.2.2.1) ⟨rfl, rfl⟩ qc1 (hR := ⟨Nat.le_of_ble_eq_true rfl, Nat.le_of_ble_eq_true rfl⟩) rfl rfl (Nat.le_of_ble_eq_true rfl) dX4_startSet_39 ⟨Nat.zero_le _, Nat.zero_le _⟩ (fun σ2 => ?_)
      refine g_iinc (v := (l1 + (1 : Int32))) (L' := [(1, .int (l1 + (1 : Int32))), (0, .ref (ad k))]) C 1 dX4_startSet_42 rfl (by rfl) (by decide) rfl ?_
      refine g_goto (tgt := 27) C dX4_startSet_45 (by decide) ?_
      refine g_loc [1, 0] rfl ?_
      exact ih (l1 + (1 : Int32)) σ2

set_option maxHeartbeats 4000000 in
set_option maxRecDepth 100000 in
theorem c_Side_startSet (l : Launch) (hl : l.stackTraces = false) (D : va_G) (cI cJ : ClassId) (ad : Nat → Nat) (k : Nat) (hk : gIsSide k) : gMv l D cI cJ ad yX4_startSet cX4_startSet 2 none { frames := 1, cells := 0, slots := 0, locals := 22 } [.ref (ad k)] (F_Side_startSet k) := by
  refine gStartV (L0 := [(0, .ref (ad k))]) RX4 (by decide) rfl rfl (Nat.le_of_ble_eq_true rfl) ?_
  intro p e s m args below meth c sz σ σ' C hr
  unfold F_Side_startSet
  refine g_aload_n C 0 dX4_startSet_0 rfl rfl ?_
  refine g_iconst (v := (0 : Int32)) C dX4_startSet_1 (by decide) ?_
  refine g_putI C k 4 gcl4 gft4 (gSd hk).1 (by decide) ((gSd hk).2.2.2.1 4 (by decide)) rfl rfl qw5 dX4_startSet_2 (fun σ1 => ?_)
  refine g_aload_n C 0 dX4_startSet_5 rfl rfl ?_
  refine g_iconst (v := (0 : Int32)) C dX4_startSet_6 (by decide) ?_
  refine g_putI C k 6 gcl4 gft4 (gSd hk).1 (by decide) ((gSd hk).2.2.2.1 6 (by decide)) rfl rfl qw6 dX4_startSet_7 (fun σ2 => ?_)
  refine g_aload_n C 0 dX4_startSet_10 rfl rfl ?_
  refine g_iconst (v := (0 : Int32)) C dX4_startSet_11 (by decide) ?_
  refine g_putI C k 7 gcl4 gft4 (gSd hk).1 (by decide) ((gSd hk).2.2.2.1 7 (by decide)) rfl rfl qw7 dX4_startSet_12 (fun σ3 => ?_)
  refine g_aload_n C 0 dX4_startSet_15 rfl rfl ?_
  refine g_iconst (v := (2 : Int32)) C dX4_startSet_16 (by decide) ?_
  refine g_putI C k 8 gcl4 gft4 (gSd hk).1 (by decide) ((gSd hk).2.2.2.1 8 (by decide)) rfl rfl qw8 dX4_startSet_17 (fun σ4 => ?_)
  refine g_aload_n C 0 dX4_startSet_20 rfl rfl ?_
  refine g_iconst (v := (0 : Int32)) C dX4_startSet_21 (by decide) ?_
  refine g_putZ C k 9 (by decide) gcl4 gft4 (gSd hk).1 (by decide) ((gSd hk).2.2.2.1 9 (by decide)) rfl rfl qw9 dX4_startSet_22 (fun σ5 => ?_)
  refine g_iconst (v := (1 : Int32)) C dX4_startSet_25 (by decide) ?_
  refine g_istore_n (L' := [(1, .int (1 : Int32)), (0, .ref (ad k))]) C dX4_startSet_26 rfl (by decide) rfl ?_
  refine g_loc [1, 0] rfl ?_
  exact b_Side_startSet_B27 C hr hl k hk 100 (1 : Int32) σ5

def F_Game_valueIn (a1 : Nat) (p2 : Int32) (σ : gSt) : Option (Int32 × gSt) := if p2 < (0 : Int32) then (some ((-1 : Int32), σ)) else (if (nI (gLn a1)) ≤ p2 then (some ((-1 : Int32), σ)) else (if p2 < 0 ∨ gLn a1 ≤ p2.toNatClampNeg then none else some ((σ a1 p2.toNatClampNeg), σ)))

set_option maxHeartbeats 4000000 in
set_option maxRecDepth 100000 in
theorem c_Game_valueIn (l : Launch) (hl : l.stackTraces = false) (D : va_G) (cI cJ : ClassId) (ad : Nat → Nat) (a1 : Nat) (p2 : Int32) (ha1 : gKd a1 = 7) : gMi l D cI cJ ad yX5_valueIn cX5_valueIn 2 (some .int) { frames := 0, cells := 0, slots := 0, locals := 0 } [.ref (ad a1), .int p2] (F_Game_valueIn a1 p2) := by
  refine gStartI (L0 := [(0, .ref (ad a1)), (1, .int p2)]) RX5 (by decide) rfl rfl (Nat.le_of_ble_eq_true rfl) ?_
  intro p e s m args below meth c sz σ r σ' C hr
  unfold F_Game_valueIn
  refine g_iload_n C 1 dX5_valueIn_0 rfl rfl ?_
  refine g_if_lt (tgt := 16) C dX5_valueIn_1 (by decide) (fun h1 => ?_) (fun h1 => ?_)
  · refine g_iconst (v := (-1 : Int32)) C dX5_valueIn_16 (by decide) ?_
    exact g_ireti C hr dX5_valueIn_17
  · refine g_iload_n C 1 dX5_valueIn_4 rfl rfl ?_
    refine g_aload_n C 0 dX5_valueIn_5 rfl rfl ?_
    refine g_alen (o := a1) (n := (gLn a1)) C ha1 rfl dX5_valueIn_6 ?_
    refine g_icmp_ge (tgt := 16) C dX5_valueIn_7 (by decide) (fun h2 => ?_) (fun h2 => ?_)
    · refine g_iconst (v := (-1 : Int32)) C dX5_valueIn_16 (by decide) ?_
      exact g_ireti C hr dX5_valueIn_17
    · refine g_aload_n C 0 dX5_valueIn_10 rfl rfl ?_
      refine g_iload_n C 1 dX5_valueIn_11 rfl rfl ?_
      refine g_iald (o := a1) (n := (gLn a1)) C ha1 rfl dX5_valueIn_12 ?_
      refine g_goto (tgt := 17) C dX5_valueIn_13 (by decide) ?_
      exact g_ireti C hr dX5_valueIn_17

def F_Side_shirtIn (k : Nat) (p1 : Int32) (σ : gSt) : Option (Int32 × gSt) := gbi (F_Game_valueIn (k + 1) p1 σ) fun r2 σ1 => some (r2, σ1)

set_option maxHeartbeats 4000000 in
set_option maxRecDepth 100000 in
theorem c_Side_shirtIn (l : Launch) (hl : l.stackTraces = false) (D : va_G) (cI cJ : ClassId) (ad : Nat → Nat) (k : Nat) (p1 : Int32) (hk : gIsSide k) : gMi l D cI cJ ad yX4_shirtIn cX4_shirtIn 2 (some .int) { frames := 1, cells := 0, slots := 0, locals := 21 } [.ref (ad k), .int p1] (F_Side_shirtIn k p1) := by
  refine gStartI (L0 := [(0, .ref (ad k)), (1, .int p1)]) RX4 (by decide) rfl rfl (Nat.le_of_ble_eq_true rfl) ?_
  intro p e s m args below meth c sz σ r σ' C hr
  unfold F_Side_shirtIn
  refine g_aload_n C 0 dX4_shirtIn_0 rfl rfl ?_
  refine g_getR (o' := (k + 1)) C k 0 gcl4 (gSd hk).1 (by decide) (gSd hk).2.1 qw21 dX4_shirtIn_1 ?_
  refine g_iload_n C 1 dX4_shirtIn_4 rfl rfl ?_
  refine g_callni (As := [.ref (ad (k + 1)), .int p1]) (n := 2) C (c_Game_valueIn l hl D cI cJ ad (k + 1) p1 (gSd hk).2.2.2.2.1) ⟨rfl, rfl⟩ qc3 (hR := ⟨Nat.le_of_ble_eq_true rfl, Nat.le_of_ble_eq_true rfl⟩) rfl rfl (Nat.le_of_ble_eq_true rfl) dX4_shirtIn_5 ⟨Nat.zero_le _, Nat.zero_le _⟩ (fun r2 σ1 => ?_)
  exact g_ireti C hr dX4_shirtIn_8

def F_Side_put (k : Nat) (p1 : Int32) (p2 : Int32) (σ : gSt) : Option gSt := gbv (F_Game_putIn (k + 1) p1 p2 σ) fun σ1 => some σ1

set_option maxHeartbeats 4000000 in
set_option maxRecDepth 100000 in
theorem c_Side_put (l : Launch) (hl : l.stackTraces = false) (D : va_G) (cI cJ : ClassId) (ad : Nat → Nat) (k : Nat) (p1 : Int32) (p2 : Int32) (hk : gIsSide k) : gMv l D cI cJ ad yX4_put cX4_put 3 none { frames := 1, cells := 0, slots := 0, locals := 22 } [.ref (ad k), .int p1, .int p2] (F_Side_put k p1 p2) := by
  refine gStartV (L0 := [(0, .ref (ad k)), (1, .int p1), (2, .int p2)]) RX4 (by decide) rfl rfl (Nat.le_of_ble_eq_true rfl) ?_
  intro p e s m args below meth c sz σ σ' C hr
  unfold F_Side_put
  refine g_aload_n C 0 dX4_put_0 rfl rfl ?_
  refine g_getR (o' := (k + 1)) C k 0 gcl4 (gSd hk).1 (by decide) (gSd hk).2.1 qw21 dX4_put_1 ?_
  refine g_iload_n C 1 dX4_put_4 rfl rfl ?_
  refine g_iload_n C 2 dX4_put_5 rfl rfl ?_
  refine g_callnv (As := [.ref (ad (k + 1)), .int p1, .int p2]) (n := 3) C (c_Game_putIn l hl D cI cJ ad (k + 1) p1 p2 (gSd hk).2.2.2.2.1) ⟨rfl, rfl⟩ qc1 (hR := ⟨Nat.le_of_ble_eq_true rfl, Nat.le_of_ble_eq_true rfl⟩) rfl rfl (Nat.le_of_ble_eq_true rfl) dX4_put_6 ⟨Nat.zero_le _, Nat.zero_le _⟩ (fun σ1 => ?_)
  exact g_retv C hr dX4_put_9

def F_Side_isLiberoIn (k : Nat) (σ : gSt) : Option (Int32 × gSt) := if (σ k 3) = (-1 : Int32) then (some ((0 : Int32), σ)) else (some ((1 : Int32), σ))

set_option maxHeartbeats 4000000 in
set_option maxRecDepth 100000 in
theorem c_Side_isLiberoIn (l : Launch) (hl : l.stackTraces = false) (D : va_G) (cI cJ : ClassId) (ad : Nat → Nat) (k : Nat) (hk : gIsSide k) : gMi l D cI cJ ad yX4_isLiberoIn cX4_isLiberoIn 1 (some .boolean) { frames := 0, cells := 0, slots := 0, locals := 0 } [.ref (ad k)] (F_Side_isLiberoIn k) := by
  refine gStartI (L0 := [(0, .ref (ad k))]) RX4 (by decide) rfl rfl (Nat.le_of_ble_eq_true rfl) ?_
  intro p e s m args below meth c sz σ r σ' C hr
  unfold F_Side_isLiberoIn
  refine g_aload_n C 0 dX4_isLiberoIn_0 rfl rfl ?_
  refine g_getI C k 3 gcl4 (gSd hk).1 (by decide) ((gSd hk).2.2.2.1 3 (by decide)) qw37 dX4_isLiberoIn_1 ?_
  refine g_iconst (v := (-1 : Int32)) C dX4_isLiberoIn_4 (by decide) ?_
  refine g_icmp_eq (tgt := 12) C dX4_isLiberoIn_5 (by decide) (fun h1 => ?_) (fun h1 => ?_)
  · refine g_iconst (v := (0 : Int32)) C dX4_isLiberoIn_12 (by decide) ?_
    exact g_iretz C (by decide) hr dX4_isLiberoIn_13
  · refine g_iconst (v := (1 : Int32)) C dX4_isLiberoIn_8 (by decide) ?_
    refine g_goto (tgt := 13) C dX4_isLiberoIn_9 (by decide) ?_
    exact g_iretz C (by decide) hr dX4_isLiberoIn_13

def F_Side_rotate_B8 (k : Nat) : Nat → Int32 → Int32 → gSt → Option gSt
  | 0, _, _, _ => none
  | n + 1, l1, l2, σ => if (6 : Int32) ≤ l2 then (gbv (F_Side_put k (6 : Int32) l1 σ) fun σ2 => gl (gup σ2 k 6 ((σ2 k 6) + (1 : Int32))) fun σ3 => gbi (F_Side_isLiberoIn k σ3) fun r5 σ4 => if r5 = (0 : Int32) then (some σ4) else (gbi (F_Side_shirtIn k (4 : Int32) σ4) fun r8 σ7 => if r8 = (σ7 k 2) then (gbv (F_Side_put k (4 : Int32) (σ7 k 3) σ7) fun σ10 => gl (gup σ10 k 3 (-1 : Int32)) fun σ11 => some σ11) else (some σ7))) else (gbi (F_Side_shirtIn k (l2 + (1 : Int32)) σ) fun r13 σ12 => gbv (F_Side_put k l2 r13 σ12) fun σ14 => F_Side_rotate_B8 k n l1 (l2 + (1 : Int32)) σ14)

def F_Side_rotate (k : Nat) (σ : gSt) : Option gSt := gbi (F_Side_shirtIn k (1 : Int32) σ) fun r2 σ1 => F_Side_rotate_B8 k 100 r2 (1 : Int32) σ1

set_option maxHeartbeats 4000000 in
set_option maxRecDepth 100000 in
theorem b_Side_rotate_B8 {p : Program} {l : Launch} {e : Env} {s : State} {m : MethodId} {args : Array Value} {below : List Frame} {meth : Method} {c : Code} {D : va_G} {cI cJ : ClassId} {ad : Nat → Nat} {sz : Nat} {σ' : gSt} (C : gC p s m args meth c D cI cJ ad (gA ad sz) cX4_rotate 3 RX4) (hr : meth.sig.returnType = none) (hl : l.stackTraces = false) (k : Nat) (hk : gIsSide k) : ∀ (n : Nat) (l1 : Int32) (l2 : Int32) (σ : gSt), gX (F_Side_rotate_B8 k n l1 l2 σ) σ' (gG p l e { frames := 2, cells := 0, slots := 0, locals := 44 } s m args below meth c D cI cJ ad (gA ad sz) 3 0 0 (MQ below (va_Qv (fun (_ : Unit) => True) (fun _ t => va_P D vwCl (gw cI cJ ad σ') t.heap) (gA ad sz)) args s 0 0 (gA ad sz)) σ 8 [(0, .ref (ad k)), (1, .int l1), (2, .int l2)] []) := by
  intro n
  induction n with
  | zero =>
    intro l1 l2 σ
    unfold F_Side_rotate_B8
    exact gX_none
  | succ n ih =>
    intro l1 l2 σ
    unfold F_Side_rotate_B8
    refine g_iload_n C 2 dX4_rotate_8 rfl rfl ?_
    refine g_bipush (v := (6 : Int32)) C dX4_rotate_9 (by decide) ?_
    refine g_icmp_ge (tgt := 32) C dX4_rotate_11 (by decide) (fun h1 => ?_) (fun h1 => ?_)
    · refine g_aload_n C 0 dX4_rotate_32 rfl rfl ?_
      refine g_bipush (v := (6 : Int32)) C dX4_rotate_33 (by decide) ?_
      refine g_iload_n C 1 dX4_rotate_35 rfl rfl ?_
      refine g_callvv (As := [.int (6 : Int32), .int l1]) (n := 2) C (c_Side_put l hl D cI cJ ad k (6 : Int32) l1 hk) ⟨rfl, rfl⟩ gcl4 (gSd hk).1 qc7 (hR := ⟨Nat.le_of_ble_eq_true rfl, Nat.le_of_ble_eq_true rfl⟩) rfl rfl (Nat.le_of_ble_eq_true rfl) dX4_rotate_36 ⟨Nat.zero_le _, Nat.zero_le _⟩ (fun σ2 => ?_)
      refine g_aload_n C 0 dX4_rotate_39 rfl rfl ?_
      refine g_dup C dX4_rotate_40 rfl ?_
      refine g_getI C k 6 gcl4 (gSd hk).1 (by decide) ((gSd hk).2.2.2.1 6 (by decide)) qw6 dX4_rotate_41 ?_
      refine g_iconst (v := (1 : Int32)) C dX4_rotate_44 (by decide) ?_
      refine g_iadd C dX4_rotate_45 ?_
      refine g_putI C k 6 gcl4 gft4 (gSd hk).1 (by decide) ((gSd hk).2.2.2.1 6 (by decide)) rfl rfl qw6 dX4_rotate_46 (fun σ3 => ?_)
      refine g_aload_n C 0 dX4_rotate_49 rfl rfl ?_
      refine g_callvi (As := []) (n := 0) C (c_Side_isLiberoIn l hl D cI cJ ad k hk) ⟨rfl, rfl⟩ gcl4 (gSd hk).1 qc8 (hR := ⟨Nat.le_of_ble_eq_true rfl, Nat.le_of_ble_eq_true rfl⟩) rfl rfl (Nat.le_of_ble_eq_true rfl) dX4_rotate_50 ⟨Nat.zero_le _, Nat.zero_le _⟩ (fun r5 σ4 => ?_)
      refine g_if_eq (tgt := 82) C dX4_rotate_53 (by decide) (fun h6 => ?_) (fun h6 => ?_)
      · exact g_retv C hr dX4_rotate_82
      · refine g_aload_n C 0 dX4_rotate_56 rfl rfl ?_
        refine g_iconst (v := (4 : Int32)) C dX4_rotate_57 (by decide) ?_
        refine g_callvi (As := [.int (4 : Int32)]) (n := 1) C (c_Side_shirtIn l hl D cI cJ ad k (4 : Int32) hk) ⟨rfl, rfl⟩ gcl4 (gSd hk).1 qc6 (hR := ⟨Nat.le_of_ble_eq_true rfl, Nat.le_of_ble_eq_true rfl⟩) rfl rfl (Nat.le_of_ble_eq_true rfl) dX4_rotate_58 ⟨Nat.zero_le _, Nat.zero_le _⟩ (fun r8 σ7 => ?_)
        refine g_aload_n C 0 dX4_rotate_61 rfl rfl ?_
        refine g_getI C k 2 gcl4 (gSd hk).1 (by decide) ((gSd hk).2.2.2.1 2 (by decide)) qw47 dX4_rotate_62 ?_
        refine g_icmp_ne (tgt := 82) C dX4_rotate_65 (by decide) (fun h9 => ?_) (fun h9 => ?_)
        · refine g_aload_n C 0 dX4_rotate_68 rfl rfl ?_
          refine g_iconst (v := (4 : Int32)) C dX4_rotate_69 (by decide) ?_
          refine g_aload_n C 0 dX4_rotate_70 rfl rfl ?_
          refine g_getI C k 3 gcl4 (gSd hk).1 (by decide) ((gSd hk).2.2.2.1 3 (by decide)) qw37 dX4_rotate_71 ?_
          refine g_callvv (As := [.int (4 : Int32), .int (σ7 k 3)]) (n := 2) C (c_Side_put l hl D cI cJ ad k (4 : Int32) (σ7 k 3) hk) ⟨rfl, rfl⟩ gcl4 (gSd hk).1 qc7 (hR := ⟨Nat.le_of_ble_eq_true rfl, Nat.le_of_ble_eq_true rfl⟩) rfl rfl (Nat.le_of_ble_eq_true rfl) dX4_rotate_74 ⟨Nat.zero_le _, Nat.zero_le _⟩ (fun σ10 => ?_)
          refine g_aload_n C 0 dX4_rotate_77 rfl rfl ?_
          refine g_iconst (v := (-1 : Int32)) C dX4_rotate_78 (by decide) ?_
          refine g_putI C k 3 gcl4 gft4 (gSd hk).1 (by decide) ((gSd hk).2.2.2.1 3 (by decide)) rfl rfl qw37 dX4_rotate_79 (fun σ11 => ?_)
          exact g_retv C hr dX4_rotate_82
        · exact g_retv C hr dX4_rotate_82
    · refine g_aload_n C 0 dX4_rotate_14 rfl rfl ?_
      refine g_iload_n C 2 dX4_rotate_15 rfl rfl ?_
      refine g_aload_n C 0 dX4_rotate_16 rfl rfl ?_
      refine g_iload_n C 2 dX4_rotate_17 rfl rfl ?_
      refine g_iconst (v := (1 : Int32)) C dX4_rotate_18 (by decide) ?_
      refine g_iadd C dX4_rotate_19 ?_
      refine g_callvi (As := [.int (l2 + (1 : Int32))]) (n := 1) C (c_Side_shirtIn l hl D cI cJ ad k (l2 + (1 : Int32)) hk) ⟨rfl, rfl⟩ gcl4 (gSd hk).1 qc6 (hR := ⟨Nat.le_of_ble_eq_true rfl, Nat.le_of_ble_eq_true rfl⟩) rfl rfl (Nat.le_of_ble_eq_true rfl) dX4_rotate_20 ⟨Nat.zero_le _, Nat.zero_le _⟩ (fun r13 σ12 => ?_)
      refine g_callvv (As := [.int l2, .int r13]) (n := 2) C (c_Side_put l hl D cI cJ ad k l2 r13 hk) ⟨rfl, rfl⟩ gcl4 (gSd hk).1 qc7 (hR := ⟨Nat.le_of_ble_eq_true rfl, Nat.le_of_ble_eq_true rfl⟩) rfl rfl (Nat.le_of_ble_eq_true rfl) dX4_rotate_23 ⟨Nat.zero_le _, Nat.zero_le _⟩ (fun σ14 => ?_)
      refine g_iinc (v := (l2 + (1 : Int32))) (L' := [(2, .int (l2 + (1 : Int32))), (0, .ref (ad k)), (1, .int l1)]) C 2 dX4_rotate_26 rfl (by rfl) (by decide) rfl ?_
      refine g_goto (tgt := 8) C dX4_rotate_29 (by decide) ?_
      refine g_loc [1, 2, 0] rfl ?_
      exact ih l1 (l2 + (1 : Int32)) σ14

set_option maxHeartbeats 4000000 in
set_option maxRecDepth 100000 in
theorem c_Side_rotate (l : Launch) (hl : l.stackTraces = false) (D : va_G) (cI cJ : ClassId) (ad : Nat → Nat) (k : Nat) (hk : gIsSide k) : gMv l D cI cJ ad yX4_rotate cX4_rotate 3 none { frames := 2, cells := 0, slots := 0, locals := 44 } [.ref (ad k)] (F_Side_rotate k) := by
  refine gStartV (L0 := [(0, .ref (ad k))]) RX4 (by decide) rfl rfl (Nat.le_of_ble_eq_true rfl) ?_
  intro p e s m args below meth c sz σ σ' C hr
  unfold F_Side_rotate
  refine g_aload_n C 0 dX4_rotate_0 rfl rfl ?_
  refine g_iconst (v := (1 : Int32)) C dX4_rotate_1 (by decide) ?_
  refine g_callvi (As := [.int (1 : Int32)]) (n := 1) C (c_Side_shirtIn l hl D cI cJ ad k (1 : Int32) hk) ⟨rfl, rfl⟩ gcl4 (gSd hk).1 qc6 (hR := ⟨Nat.le_of_ble_eq_true rfl, Nat.le_of_ble_eq_true rfl⟩) rfl rfl (Nat.le_of_ble_eq_true rfl) dX4_rotate_2 ⟨Nat.zero_le _, Nat.zero_le _⟩ (fun r2 σ1 => ?_)
  refine g_istore_n (L' := [(1, .int r2), (0, .ref (ad k))]) C dX4_rotate_5 rfl (by decide) rfl ?_
  refine g_iconst (v := (1 : Int32)) C dX4_rotate_6 (by decide) ?_
  refine g_istore_n (L' := [(2, .int (1 : Int32)), (1, .int r2), (0, .ref (ad k))]) C dX4_rotate_7 rfl (by decide) rfl ?_
  refine g_loc [2, 1, 0] rfl ?_
  exact b_Side_rotate_B8 C hr hl k hk 100 r2 (1 : Int32) σ1

def F_Side_clearOrder_B2 (k : Nat) : Nat → Int32 → gSt → Option gSt
  | 0, _, _ => none
  | n + 1, l1, σ => if (6 : Int32) < l1 then (gl (gup σ k 2 (-1 : Int32)) fun σ2 => gl (gup σ2 k 3 (-1 : Int32)) fun σ3 => some σ3) else (gbv (F_Side_put k l1 (-1 : Int32) σ) fun σ4 => F_Side_clearOrder_B2 k n (l1 + (1 : Int32)) σ4)

def F_Side_clearOrder (k : Nat) (σ : gSt) : Option gSt := F_Side_clearOrder_B2 k 100 (1 : Int32) σ

set_option maxHeartbeats 4000000 in
set_option maxRecDepth 100000 in
theorem b_Side_clearOrder_B2 {p : Program} {l : Launch} {e : Env} {s : State} {m : MethodId} {args : Array Value} {below : List Frame} {meth : Method} {c : Code} {D : va_G} {cI cJ : ClassId} {ad : Nat → Nat} {sz : Nat} {σ' : gSt} (C : gC p s m args meth c D cI cJ ad (gA ad sz) cX4_clearOrder 2 RX4) (hr : meth.sig.returnType = none) (hl : l.stackTraces = false) (k : Nat) (hk : gIsSide k) : ∀ (n : Nat) (l1 : Int32) (σ : gSt), gX (F_Side_clearOrder_B2 k n l1 σ) σ' (gG p l e { frames := 2, cells := 0, slots := 0, locals := 44 } s m args below meth c D cI cJ ad (gA ad sz) 2 0 0 (MQ below (va_Qv (fun (_ : Unit) => True) (fun _ t => va_P D vwCl (gw cI cJ ad σ') t.heap) (gA ad sz)) args s 0 0 (gA ad sz)) σ 2 [(0, .ref (ad k)), (1, .int l1)] []) := by
  intro n
  induction n with
  | zero =>
    intro l1 σ
    unfold F_Side_clearOrder_B2
    exact gX_none
  | succ n ih =>
    intro l1 σ
    unfold F_Side_clearOrder_B2
    refine g_iload_n C 1 dX4_clearOrder_2 rfl rfl ?_
    refine g_bipush (v := (6 : Int32)) C dX4_clearOrder_3 (by decide) ?_
    refine g_icmp_gt (tgt := 20) C dX4_clearOrder_5 (by decide) (fun h1 => ?_) (fun h1 => ?_)
    · refine g_aload_n C 0 dX4_clearOrder_20 rfl rfl ?_
      refine g_iconst (v := (-1 : Int32)) C dX4_clearOrder_21 (by decide) ?_
      refine g_putI C k 2 gcl4 gft4 (gSd hk).1 (by decide) ((gSd hk).2.2.2.1 2 (by decide)) rfl rfl qw47 dX4_clearOrder_22 (fun σ2 => ?_)
      refine g_aload_n C 0 dX4_clearOrder_25 rfl rfl ?_
      refine g_iconst (v := (-1 : Int32)) C dX4_clearOrder_26 (by decide) ?_
      refine g_putI C k 3 gcl4 gft4 (gSd hk).1 (by decide) ((gSd hk).2.2.2.1 3 (by decide)) rfl rfl qw37 dX4_clearOrder_27 (fun σ3 => ?_)
      exact g_retv C hr dX4_clearOrder_30
    · refine g_aload_n C 0 dX4_clearOrder_8 rfl rfl ?_
      refine g_iload_n C 1 dX4_clearOrder_9 rfl rfl ?_
      refine g_iconst (v := (-1 : Int32)) C dX4_clearOrder_10 (by decide) ?_
      refine g_callvv (As := [.int l1, .int (-1 : Int32)]) (n := 2) C (c_Side_put l hl D cI cJ ad k l1 (-1 : Int32) hk) ⟨rfl, rfl⟩ gcl4 (gSd hk).1 qc7 (hR := ⟨Nat.le_of_ble_eq_true rfl, Nat.le_of_ble_eq_true rfl⟩) rfl rfl (Nat.le_of_ble_eq_true rfl) dX4_clearOrder_11 ⟨Nat.zero_le _, Nat.zero_le _⟩ (fun σ4 => ?_)
      refine g_iinc (v := (l1 + (1 : Int32))) (L' := [(1, .int (l1 + (1 : Int32))), (0, .ref (ad k))]) C 1 dX4_clearOrder_14 rfl (by rfl) (by decide) rfl ?_
      refine g_goto (tgt := 2) C dX4_clearOrder_17 (by decide) ?_
      refine g_loc [1, 0] rfl ?_
      exact ih (l1 + (1 : Int32)) σ4

set_option maxHeartbeats 4000000 in
set_option maxRecDepth 100000 in
theorem c_Side_clearOrder (l : Launch) (hl : l.stackTraces = false) (D : va_G) (cI cJ : ClassId) (ad : Nat → Nat) (k : Nat) (hk : gIsSide k) : gMv l D cI cJ ad yX4_clearOrder cX4_clearOrder 2 none { frames := 2, cells := 0, slots := 0, locals := 44 } [.ref (ad k)] (F_Side_clearOrder k) := by
  refine gStartV (L0 := [(0, .ref (ad k))]) RX4 (by decide) rfl rfl (Nat.le_of_ble_eq_true rfl) ?_
  intro p e s m args below meth c sz σ σ' C hr
  unfold F_Side_clearOrder
  refine g_iconst (v := (1 : Int32)) C dX4_clearOrder_0 (by decide) ?_
  refine g_istore_n (L' := [(1, .int (1 : Int32)), (0, .ref (ad k))]) C dX4_clearOrder_1 rfl (by decide) rfl ?_
  refine g_loc [1, 0] rfl ?_
  exact b_Side_clearOrder_B2 C hr hl k hk 100 (1 : Int32) σ

def F_Side_copyFrom_B26 (k : Nat) (a1 : Nat) : Nat → Int32 → gSt → Option gSt
  | 0, _, _ => none
  | n + 1, l2, σ => if (20 : Int32) < l2 then (gl (gup σ k 2 (σ a1 2)) fun σ2 => gl (gup σ2 k 3 (σ2 a1 3)) fun σ3 => gl (gup σ3 k 4 (σ3 a1 4)) fun σ4 => gl (gup σ4 k 5 (σ4 a1 5)) fun σ5 => gl (gup σ5 k 6 (σ5 a1 6)) fun σ6 => gl (gup σ6 k 7 (σ6 a1 7)) fun σ7 => gl (gup σ7 k 8 (σ7 a1 8)) fun σ8 => if (σ8 a1 9) = 0 ∨ (σ8 a1 9) = 1 then gl (gup σ8 k 9 (σ8 a1 9)) fun σ9 => some σ9 else none) else (gbi (F_Game_valueIn (a1 + 2) l2 σ) fun r12 σ11 => gbv (F_Game_putIn (k + 2) l2 r12 σ11) fun σ13 => F_Side_copyFrom_B26 k a1 n (l2 + (1 : Int32)) σ13)

def F_Side_copyFrom_B2 (k : Nat) (a1 : Nat) : Nat → Int32 → gSt → Option gSt
  | 0, _, _ => none
  | n + 1, l2, σ => if (6 : Int32) < l2 then (F_Side_copyFrom_B26 k a1 100 (1 : Int32) σ) else (gbi (F_Side_shirtIn a1 l2 σ) fun r3 σ2 => gbv (F_Side_put k l2 r3 σ2) fun σ4 => F_Side_copyFrom_B2 k a1 n (l2 + (1 : Int32)) σ4)

def F_Side_copyFrom (k : Nat) (a1 : Nat) (σ : gSt) : Option gSt := F_Side_copyFrom_B2 k a1 100 (1 : Int32) σ

set_option maxHeartbeats 4000000 in
set_option maxRecDepth 100000 in
theorem b_Side_copyFrom_B26 {p : Program} {l : Launch} {e : Env} {s : State} {m : MethodId} {args : Array Value} {below : List Frame} {meth : Method} {c : Code} {D : va_G} {cI cJ : ClassId} {ad : Nat → Nat} {sz : Nat} {σ' : gSt} (C : gC p s m args meth c D cI cJ ad (gA ad sz) cX4_copyFrom 3 RX4) (hr : meth.sig.returnType = none) (hl : l.stackTraces = false) (k : Nat) (a1 : Nat) (hk : gIsSide k) (ha1 : gIsSide a1) : ∀ (n : Nat) (l2 : Int32) (σ : gSt), gX (F_Side_copyFrom_B26 k a1 n l2 σ) σ' (gG p l e { frames := 2, cells := 0, slots := 0, locals := 44 } s m args below meth c D cI cJ ad (gA ad sz) 3 0 0 (MQ below (va_Qv (fun (_ : Unit) => True) (fun _ t => va_P D vwCl (gw cI cJ ad σ') t.heap) (gA ad sz)) args s 0 0 (gA ad sz)) σ 26 [(0, .ref (ad k)), (1, .ref (ad a1)), (2, .int l2)] []) := by
  intro n
  induction n with
  | zero =>
    intro l2 σ
    unfold F_Side_copyFrom_B26
    exact gX_none
  | succ n ih =>
    intro l2 σ
    unfold F_Side_copyFrom_B26
    refine g_iload_n C 2 dX4_copyFrom_26 rfl rfl ?_
    refine g_bipush (v := (20 : Int32)) C dX4_copyFrom_27 (by decide) ?_
    refine g_icmp_gt (tgt := 54) C dX4_copyFrom_29 (by decide) (fun h1 => ?_) (fun h1 => ?_)
    · refine g_aload_n C 0 dX4_copyFrom_54 rfl rfl ?_
      refine g_aload_n C 1 dX4_copyFrom_55 rfl rfl ?_
      refine g_getI C a1 2 gcl4 (gSd ha1).1 (by decide) ((gSd ha1).2.2.2.1 2 (by decide)) qw47 dX4_copyFrom_56 ?_
      refine g_putI C k 2 gcl4 gft4 (gSd hk).1 (by decide) ((gSd hk).2.2.2.1 2 (by decide)) rfl rfl qw47 dX4_copyFrom_59 (fun σ2 => ?_)
      refine g_aload_n C 0 dX4_copyFrom_62 rfl rfl ?_
      refine g_aload_n C 1 dX4_copyFrom_63 rfl rfl ?_
      refine g_getI C a1 3 gcl4 (gSd ha1).1 (by decide) ((gSd ha1).2.2.2.1 3 (by decide)) qw37 dX4_copyFrom_64 ?_
      refine g_putI C k 3 gcl4 gft4 (gSd hk).1 (by decide) ((gSd hk).2.2.2.1 3 (by decide)) rfl rfl qw37 dX4_copyFrom_67 (fun σ3 => ?_)
      refine g_aload_n C 0 dX4_copyFrom_70 rfl rfl ?_
      refine g_aload_n C 1 dX4_copyFrom_71 rfl rfl ?_
      refine g_getI C a1 4 gcl4 (gSd ha1).1 (by decide) ((gSd ha1).2.2.2.1 4 (by decide)) qw5 dX4_copyFrom_72 ?_
      refine g_putI C k 4 gcl4 gft4 (gSd hk).1 (by decide) ((gSd hk).2.2.2.1 4 (by decide)) rfl rfl qw5 dX4_copyFrom_75 (fun σ4 => ?_)
      refine g_aload_n C 0 dX4_copyFrom_78 rfl rfl ?_
      refine g_aload_n C 1 dX4_copyFrom_79 rfl rfl ?_
      refine g_getI C a1 5 gcl4 (gSd ha1).1 (by decide) ((gSd ha1).2.2.2.1 5 (by decide)) qw64 dX4_copyFrom_80 ?_
      refine g_putI C k 5 gcl4 gft4 (gSd hk).1 (by decide) ((gSd hk).2.2.2.1 5 (by decide)) rfl rfl qw64 dX4_copyFrom_83 (fun σ5 => ?_)
      refine g_aload_n C 0 dX4_copyFrom_86 rfl rfl ?_
      refine g_aload_n C 1 dX4_copyFrom_87 rfl rfl ?_
      refine g_getI C a1 6 gcl4 (gSd ha1).1 (by decide) ((gSd ha1).2.2.2.1 6 (by decide)) qw6 dX4_copyFrom_88 ?_
      refine g_putI C k 6 gcl4 gft4 (gSd hk).1 (by decide) ((gSd hk).2.2.2.1 6 (by decide)) rfl rfl qw6 dX4_copyFrom_91 (fun σ6 => ?_)
      refine g_aload_n C 0 dX4_copyFrom_94 rfl rfl ?_
      refine g_aload_n C 1 dX4_copyFrom_95 rfl rfl ?_
      refine g_getI C a1 7 gcl4 (gSd ha1).1 (by decide) ((gSd ha1).2.2.2.1 7 (by decide)) qw7 dX4_copyFrom_96 ?_
      refine g_putI C k 7 gcl4 gft4 (gSd hk).1 (by decide) ((gSd hk).2.2.2.1 7 (by decide)) rfl rfl qw7 dX4_copyFrom_99 (fun σ7 => ?_)
      refine g_aload_n C 0 dX4_copyFrom_102 rfl rfl ?_
      refine g_aload_n C 1 dX4_copyFrom_103 rfl rfl ?_
      refine g_getI C a1 8 gcl4 (gSd ha1).1 (by decide) ((gSd ha1).2.2.2.1 8 (by decide)) qw8 dX4_copyFrom_104 ?_
      refine g_putI C k 8 gcl4 gft4 (gSd hk).1 (by decide) ((gSd hk).2.2.2.1 8 (by decide)) rfl rfl qw8 dX4_copyFrom_107 (fun σ8 => ?_)
      refine g_aload_n C 0 dX4_copyFrom_110 rfl rfl ?_
      refine g_aload_n C 1 dX4_copyFrom_111 rfl rfl ?_
      refine g_getI C a1 9 gcl4 (gSd ha1).1 (by decide) ((gSd ha1).2.2.2.1 9 (by decide)) qw9 dX4_copyFrom_112 ?_
      refine gX_z (fun z10 => ?_)
      refine g_putZ C k 9 z10 gcl4 gft4 (gSd hk).1 (by decide) ((gSd hk).2.2.2.1 9 (by decide)) rfl rfl qw9 dX4_copyFrom_115 (fun σ9 => ?_)
      exact g_retv C hr dX4_copyFrom_118
    · refine g_aload_n C 0 dX4_copyFrom_32 rfl rfl ?_
      refine g_getR (o' := (k + 2)) C k 1 gcl4 (gSd hk).1 (by decide) (gSd hk).2.2.1 qw10 dX4_copyFrom_33 ?_
      refine g_iload_n C 2 dX4_copyFrom_36 rfl rfl ?_
      refine g_aload_n C 1 dX4_copyFrom_37 rfl rfl ?_
      refine g_getR (o' := (a1 + 2)) C a1 1 gcl4 (gSd ha1).1 (by decide) (gSd ha1).2.2.1 qw10 dX4_copyFrom_38 ?_
      refine g_iload_n C 2 dX4_copyFrom_41 rfl rfl ?_
      refine g_callni (As := [.ref (ad (a1 + 2)), .int l2]) (n := 2) C (c_Game_valueIn l hl D cI cJ ad (a1 + 2) l2 (gSd ha1).2.2.2.2.2.1) ⟨rfl, rfl⟩ qc3 (hR := ⟨Nat.le_of_ble_eq_true rfl, Nat.le_of_ble_eq_true rfl⟩) rfl rfl (Nat.le_of_ble_eq_true rfl) dX4_copyFrom_42 ⟨Nat.zero_le _, Nat.zero_le _⟩ (fun r12 σ11 => ?_)
      refine g_callnv (As := [.ref (ad (k + 2)), .int l2, .int r12]) (n := 3) C (c_Game_putIn l hl D cI cJ ad (k + 2) l2 r12 (gSd hk).2.2.2.2.2.1) ⟨rfl, rfl⟩ qc1 (hR := ⟨Nat.le_of_ble_eq_true rfl, Nat.le_of_ble_eq_true rfl⟩) rfl rfl (Nat.le_of_ble_eq_true rfl) dX4_copyFrom_45 ⟨Nat.zero_le _, Nat.zero_le _⟩ (fun σ13 => ?_)
      refine g_iinc (v := (l2 + (1 : Int32))) (L' := [(2, .int (l2 + (1 : Int32))), (0, .ref (ad k)), (1, .ref (ad a1))]) C 2 dX4_copyFrom_48 rfl (by rfl) (by decide) rfl ?_
      refine g_goto (tgt := 26) C dX4_copyFrom_51 (by decide) ?_
      refine g_loc [1, 2, 0] rfl ?_
      exact ih (l2 + (1 : Int32)) σ13

set_option maxHeartbeats 4000000 in
set_option maxRecDepth 100000 in
theorem b_Side_copyFrom_B2 {p : Program} {l : Launch} {e : Env} {s : State} {m : MethodId} {args : Array Value} {below : List Frame} {meth : Method} {c : Code} {D : va_G} {cI cJ : ClassId} {ad : Nat → Nat} {sz : Nat} {σ' : gSt} (C : gC p s m args meth c D cI cJ ad (gA ad sz) cX4_copyFrom 3 RX4) (hr : meth.sig.returnType = none) (hl : l.stackTraces = false) (k : Nat) (a1 : Nat) (hk : gIsSide k) (ha1 : gIsSide a1) : ∀ (n : Nat) (l2 : Int32) (σ : gSt), gX (F_Side_copyFrom_B2 k a1 n l2 σ) σ' (gG p l e { frames := 2, cells := 0, slots := 0, locals := 44 } s m args below meth c D cI cJ ad (gA ad sz) 3 0 0 (MQ below (va_Qv (fun (_ : Unit) => True) (fun _ t => va_P D vwCl (gw cI cJ ad σ') t.heap) (gA ad sz)) args s 0 0 (gA ad sz)) σ 2 [(0, .ref (ad k)), (1, .ref (ad a1)), (2, .int l2)] []) := by
  intro n
  induction n with
  | zero =>
    intro l2 σ
    unfold F_Side_copyFrom_B2
    exact gX_none
  | succ n ih =>
    intro l2 σ
    unfold F_Side_copyFrom_B2
    refine g_iload_n C 2 dX4_copyFrom_2 rfl rfl ?_
    refine g_bipush (v := (6 : Int32)) C dX4_copyFrom_3 (by decide) ?_
    refine g_icmp_gt (tgt := 24) C dX4_copyFrom_5 (by decide) (fun h1 => ?_) (fun h1 => ?_)
    · refine g_iconst (v := (1 : Int32)) C dX4_copyFrom_24 (by decide) ?_
      refine g_istore_n (L' := [(2, .int (1 : Int32)), (0, .ref (ad k)), (1, .ref (ad a1))]) C dX4_copyFrom_25 rfl (by decide) rfl ?_
      refine g_loc [1, 2, 0] rfl ?_
      exact b_Side_copyFrom_B26 C hr hl k a1 hk ha1 100 (1 : Int32) σ
    · refine g_aload_n C 0 dX4_copyFrom_8 rfl rfl ?_
      refine g_iload_n C 2 dX4_copyFrom_9 rfl rfl ?_
      refine g_aload_n C 1 dX4_copyFrom_10 rfl rfl ?_
      refine g_iload_n C 2 dX4_copyFrom_11 rfl rfl ?_
      refine g_callvi (As := [.int l2]) (n := 1) C (c_Side_shirtIn l hl D cI cJ ad a1 l2 ha1) ⟨rfl, rfl⟩ gcl4 (gSd ha1).1 qc6 (hR := ⟨Nat.le_of_ble_eq_true rfl, Nat.le_of_ble_eq_true rfl⟩) rfl rfl (Nat.le_of_ble_eq_true rfl) dX4_copyFrom_12 ⟨Nat.zero_le _, Nat.zero_le _⟩ (fun r3 σ2 => ?_)
      refine g_callvv (As := [.int l2, .int r3]) (n := 2) C (c_Side_put l hl D cI cJ ad k l2 r3 hk) ⟨rfl, rfl⟩ gcl4 (gSd hk).1 qc7 (hR := ⟨Nat.le_of_ble_eq_true rfl, Nat.le_of_ble_eq_true rfl⟩) rfl rfl (Nat.le_of_ble_eq_true rfl) dX4_copyFrom_15 ⟨Nat.zero_le _, Nat.zero_le _⟩ (fun σ4 => ?_)
      refine g_iinc (v := (l2 + (1 : Int32))) (L' := [(2, .int (l2 + (1 : Int32))), (0, .ref (ad k)), (1, .ref (ad a1))]) C 2 dX4_copyFrom_18 rfl (by rfl) (by decide) rfl ?_
      refine g_goto (tgt := 2) C dX4_copyFrom_21 (by decide) ?_
      refine g_loc [1, 2, 0] rfl ?_
      exact ih (l2 + (1 : Int32)) σ4

set_option maxHeartbeats 4000000 in
set_option maxRecDepth 100000 in
theorem c_Side_copyFrom (l : Launch) (hl : l.stackTraces = false) (D : va_G) (cI cJ : ClassId) (ad : Nat → Nat) (k : Nat) (a1 : Nat) (hk : gIsSide k) (ha1 : gIsSide a1) : gMv l D cI cJ ad yX4_copyFrom cX4_copyFrom 3 none { frames := 2, cells := 0, slots := 0, locals := 44 } [.ref (ad k), .ref (ad a1)] (F_Side_copyFrom k a1) := by
  refine gStartV (L0 := [(0, .ref (ad k)), (1, .ref (ad a1))]) RX4 (by decide) rfl rfl (Nat.le_of_ble_eq_true rfl) ?_
  intro p e s m args below meth c sz σ σ' C hr
  unfold F_Side_copyFrom
  refine g_iconst (v := (1 : Int32)) C dX4_copyFrom_0 (by decide) ?_
  refine g_istore_n (L' := [(2, .int (1 : Int32)), (0, .ref (ad k)), (1, .ref (ad a1))]) C dX4_copyFrom_1 rfl (by decide) rfl ?_
  refine g_loc [1, 2, 0] rfl ?_
  exact b_Side_copyFrom_B2 C hr hl k a1 hk ha1 100 (1 : Int32) σ

def F_Side_placeOf_B2 (k : Nat) (p1 : Int32) : Nat → Int32 → Int32 → gSt → Option (Int32 × gSt)
  | 0, _, _, _ => none
  | n + 1, l1, l2, σ => if (6 : Int32) < l2 then (some ((-1 : Int32), σ)) else (gbi (F_Side_shirtIn k l2 σ) fun r3 σ2 => if r3 = l1 then (some (l2, σ2)) else (F_Side_placeOf_B2 k p1 n l1 (l2 + (1 : Int32)) σ2))

def F_Side_placeOf (k : Nat) (p1 : Int32) (σ : gSt) : Option (Int32 × gSt) := F_Side_placeOf_B2 k p1 100 p1 (1 : Int32) σ

set_option maxHeartbeats 4000000 in
set_option maxRecDepth 100000 in
theorem b_Side_placeOf_B2 {p : Program} {l : Launch} {e : Env} {s : State} {m : MethodId} {args : Array Value} {below : List Frame} {meth : Method} {c : Code} {D : va_G} {cI cJ : ClassId} {ad : Nat → Nat} {sz : Nat} {r : Int32} {σ' : gSt} (C : gC p s m args meth c D cI cJ ad (gA ad sz) cX4_placeOf 3 RX4) (hr : meth.sig.returnType = (some .int)) (hl : l.stackTraces = false) (k : Nat) (p1 : Int32) (hk : gIsSide k) : ∀ (n : Nat) (l1 : Int32) (l2 : Int32) (σ : gSt), gX (F_Side_placeOf_B2 k p1 n l1 l2 σ) (r, σ') (gG p l e { frames := 2, cells := 0, slots := 0, locals := 42 } s m args below meth c D cI cJ ad (gA ad sz) 3 0 0 (MQ below (va_Qi (fun r1 (_ : Unit) => r1 = r) (fun _ t => va_P D vwCl (gw cI cJ ad σ') t.heap) (gA ad sz)) args s 0 0 (gA ad sz)) σ 2 [(0, .ref (ad k)), (1, .int l1), (2, .int l2)] []) := by
  intro n
  induction n with
  | zero =>
    intro l1 l2 σ
    unfold F_Side_placeOf_B2
    exact gX_none
  | succ n ih =>
    intro l1 l2 σ
    unfold F_Side_placeOf_B2
    refine g_iload_n C 2 dX4_placeOf_2 rfl rfl ?_
    refine g_bipush (v := (6 : Int32)) C dX4_placeOf_3 (by decide) ?_
    refine g_icmp_gt (tgt := 25) C dX4_placeOf_5 (by decide) (fun h1 => ?_) (fun h1 => ?_)
    · refine g_iconst (v := (-1 : Int32)) C dX4_placeOf_25 (by decide) ?_
      exact g_ireti C hr dX4_placeOf_26
    · refine g_aload_n C 0 dX4_placeOf_8 rfl rfl ?_
      refine g_iload_n C 2 dX4_placeOf_9 rfl rfl ?_
      refine g_callvi (As := [.int l2]) (n := 1) C (c_Side_shirtIn l hl D cI cJ ad k l2 hk) ⟨rfl, rfl⟩ gcl4 (gSd hk).1 qc6 (hR := ⟨Nat.le_of_ble_eq_true rfl, Nat.le_of_ble_eq_true rfl⟩) rfl rfl (Nat.le_of_ble_eq_true rfl) dX4_placeOf_10 ⟨Nat.zero_le _, Nat.zero_le _⟩ (fun r3 σ2 => ?_)
      refine g_iload_n C 1 dX4_placeOf_13 rfl rfl ?_
      refine g_icmp_ne (tgt := 19) C dX4_placeOf_14 (by decide) (fun h4 => ?_) (fun h4 => ?_)
      · refine g_iload_n C 2 dX4_placeOf_17 rfl rfl ?_
        exact g_ireti C hr dX4_placeOf_18
      · refine g_iinc (v := (l2 + (1 : Int32))) (L' := [(2, .int (l2 + (1 : Int32))), (0, .ref (ad k)), (1, .int l1)]) C 2 dX4_placeOf_19 rfl (by rfl) (by decide) rfl ?_
        refine g_goto (tgt := 2) C dX4_placeOf_22 (by decide) ?_
        refine g_loc [1, 2, 0] rfl ?_
        exact ih l1 (l2 + (1 : Int32)) σ2

set_option maxHeartbeats 4000000 in
set_option maxRecDepth 100000 in
theorem c_Side_placeOf (l : Launch) (hl : l.stackTraces = false) (D : va_G) (cI cJ : ClassId) (ad : Nat → Nat) (k : Nat) (p1 : Int32) (hk : gIsSide k) : gMi l D cI cJ ad yX4_placeOf cX4_placeOf 3 (some .int) { frames := 2, cells := 0, slots := 0, locals := 42 } [.ref (ad k), .int p1] (F_Side_placeOf k p1) := by
  refine gStartI (L0 := [(0, .ref (ad k)), (1, .int p1)]) RX4 (by decide) rfl rfl (Nat.le_of_ble_eq_true rfl) ?_
  intro p e s m args below meth c sz σ r σ' C hr
  unfold F_Side_placeOf
  refine g_iconst (v := (1 : Int32)) C dX4_placeOf_0 (by decide) ?_
  refine g_istore_n (L' := [(2, .int (1 : Int32)), (0, .ref (ad k)), (1, .int p1)]) C dX4_placeOf_1 rfl (by decide) rfl ?_
  refine g_loc [1, 2, 0] rfl ?_
  exact b_Side_placeOf_B2 C hr hl k p1 hk 100 p1 (1 : Int32) σ

def F_Side_swapLibero (k : Nat) (p1 : Int32) (σ : gSt) : Option gSt := gbi (F_Side_isLiberoIn k σ) fun r2 σ1 => if r2 = (0 : Int32) then (gbi (F_Side_placeOf k p1 σ1) fun r5 σ4 => gbv (F_Side_put k r5 (σ4 k 2) σ4) fun σ6 => gl (gup σ6 k 3 p1) fun σ7 => gl (gup σ7 k 9 (1 : Int32)) fun σ8 => some σ8) else (gbi (F_Side_placeOf k (σ1 k 2) σ1) fun r10 σ9 => gbv (F_Side_put k r10 p1 σ9) fun σ11 => gl (gup σ11 k 3 (-1 : Int32)) fun σ12 => gl (gup σ12 k 9 (1 : Int32)) fun σ13 => some σ13)

set_option maxHeartbeats 4000000 in
set_option maxRecDepth 100000 in
theorem c_Side_swapLibero (l : Launch) (hl : l.stackTraces = false) (D : va_G) (cI cJ : ClassId) (ad : Nat → Nat) (k : Nat) (p1 : Int32) (hk : gIsSide k) : gMv l D cI cJ ad yX4_swapLibero cX4_swapLibero 2 none { frames := 3, cells := 0, slots := 0, locals := 64 } [.ref (ad k), .int p1] (F_Side_swapLibero k p1) := by
  refine gStartV (L0 := [(0, .ref (ad k)), (1, .int p1)]) RX4 (by decide) rfl rfl (Nat.le_of_ble_eq_true rfl) ?_
  intro p e s m args below meth c sz σ σ' C hr
  unfold F_Side_swapLibero
  refine g_aload_n C 0 dX4_swapLibero_0 rfl rfl ?_
  refine g_callvi (As := []) (n := 0) C (c_Side_isLiberoIn l hl D cI cJ ad k hk) ⟨rfl, rfl⟩ gcl4 (gSd hk).1 qc8 (hR := ⟨Nat.le_of_ble_eq_true rfl, Nat.le_of_ble_eq_true rfl⟩) rfl rfl (Nat.le_of_ble_eq_true rfl) dX4_swapLibero_1 ⟨Nat.zero_le _, Nat.zero_le _⟩ (fun r2 σ1 => ?_)
  refine g_if_eq (tgt := 28) C dX4_swapLibero_4 (by decide) (fun h3 => ?_) (fun h3 => ?_)
  · refine g_aload_n C 0 dX4_swapLibero_28 rfl rfl ?_
    refine g_aload_n C 0 dX4_swapLibero_29 rfl rfl ?_
    refine g_iload_n C 1 dX4_swapLibero_30 rfl rfl ?_
    refine g_callvi (As := [.int p1]) (n := 1) C (c_Side_placeOf l hl D cI cJ ad k p1 hk) ⟨rfl, rfl⟩ gcl4 (gSd hk).1 qc21 (hR := ⟨Nat.le_of_ble_eq_true rfl, Nat.le_of_ble_eq_true rfl⟩) rfl rfl (Nat.le_of_ble_eq_true rfl) dX4_swapLibero_31 ⟨Nat.zero_le _, Nat.zero_le _⟩ (fun r5 σ4 => ?_)
    refine g_aload_n C 0 dX4_swapLibero_34 rfl rfl ?_
    refine g_getI C k 2 gcl4 (gSd hk).1 (by decide) ((gSd hk).2.2.2.1 2 (by decide)) qw47 dX4_swapLibero_35 ?_
    refine g_callvv (As := [.int r5, .int (σ4 k 2)]) (n := 2) C (c_Side_put l hl D cI cJ ad k r5 (σ4 k 2) hk) ⟨rfl, rfl⟩ gcl4 (gSd hk).1 qc7 (hR := ⟨Nat.le_of_ble_eq_true rfl, Nat.le_of_ble_eq_true rfl⟩) rfl rfl (Nat.le_of_ble_eq_true rfl) dX4_swapLibero_38 ⟨Nat.zero_le _, Nat.zero_le _⟩ (fun σ6 => ?_)
    refine g_aload_n C 0 dX4_swapLibero_41 rfl rfl ?_
    refine g_iload_n C 1 dX4_swapLibero_42 rfl rfl ?_
    refine g_putI C k 3 gcl4 gft4 (gSd hk).1 (by decide) ((gSd hk).2.2.2.1 3 (by decide)) rfl rfl qw37 dX4_swapLibero_43 (fun σ7 => ?_)
    refine g_aload_n C 0 dX4_swapLibero_46 rfl rfl ?_
    refine g_iconst (v := (1 : Int32)) C dX4_swapLibero_47 (by decide) ?_
    refine g_putZ C k 9 (by decide) gcl4 gft4 (gSd hk).1 (by decide) ((gSd hk).2.2.2.1 9 (by decide)) rfl rfl qw9 dX4_swapLibero_48 (fun σ8 => ?_)
    exact g_retv C hr dX4_swapLibero_51
  · refine g_aload_n C 0 dX4_swapLibero_7 rfl rfl ?_
    refine g_aload_n C 0 dX4_swapLibero_8 rfl rfl ?_
    refine g_aload_n C 0 dX4_swapLibero_9 rfl rfl ?_
    refine g_getI C k 2 gcl4 (gSd hk).1 (by decide) ((gSd hk).2.2.2.1 2 (by decide)) qw47 dX4_swapLibero_10 ?_
    refine g_callvi (As := [.int (σ1 k 2)]) (n := 1) C (c_Side_placeOf l hl D cI cJ ad k (σ1 k 2) hk) ⟨rfl, rfl⟩ gcl4 (gSd hk).1 qc21 (hR := ⟨Nat.le_of_ble_eq_true rfl, Nat.le_of_ble_eq_true rfl⟩) rfl rfl (Nat.le_of_ble_eq_true rfl) dX4_swapLibero_13 ⟨Nat.zero_le _, Nat.zero_le _⟩ (fun r10 σ9 => ?_)
    refine g_iload_n C 1 dX4_swapLibero_16 rfl rfl ?_
    refine g_callvv (As := [.int r10, .int p1]) (n := 2) C (c_Side_put l hl D cI cJ ad k r10 p1 hk) ⟨rfl, rfl⟩ gcl4 (gSd hk).1 qc7 (hR := ⟨Nat.le_of_ble_eq_true rfl, Nat.le_of_ble_eq_true rfl⟩) rfl rfl (Nat.le_of_ble_eq_true rfl) dX4_swapLibero_17 ⟨Nat.zero_le _, Nat.zero_le _⟩ (fun σ11 => ?_)
    refine g_aload_n C 0 dX4_swapLibero_20 rfl rfl ?_
    refine g_iconst (v := (-1 : Int32)) C dX4_swapLibero_21 (by decide) ?_
    refine g_putI C k 3 gcl4 gft4 (gSd hk).1 (by decide) ((gSd hk).2.2.2.1 3 (by decide)) rfl rfl qw37 dX4_swapLibero_22 (fun σ12 => ?_)
    refine g_goto (tgt := 46) C dX4_swapLibero_25 (by decide) ?_
    refine g_aload_n C 0 dX4_swapLibero_46 rfl rfl ?_
    refine g_iconst (v := (1 : Int32)) C dX4_swapLibero_47 (by decide) ?_
    refine g_putZ C k 9 (by decide) gcl4 gft4 (gSd hk).1 (by decide) ((gSd hk).2.2.2.1 9 (by decide)) rfl rfl qw9 dX4_swapLibero_48 (fun σ13 => ?_)
    exact g_retv C hr dX4_swapLibero_51

def F_Side_swapByPair_B41 (k : Nat) (p1 : Int32) (p2 : Int32) (l1 : Int32) (l2 : Int32) (s0 : Int32) (s1 : Int32) (σ : gSt) : Option gSt := gbv (F_Game_putIn (k + 2) s1 s0 σ) fun σ1 => gbi (F_Side_placeOf k l1 σ1) fun r3 σ2 => gbv (F_Side_put k r3 l2 σ2) fun σ4 => gl (gup σ4 k 7 ((σ4 k 7) + (1 : Int32))) fun σ5 => some σ5

def F_Side_swapByPair_B17 (k : Nat) (p1 : Int32) (p2 : Int32) (l1 : Int32) (l2 : Int32) (s0 : Int32) (σ : gSt) : Option gSt := gbv (F_Game_putIn (k + 2) l1 (-1 : Int32) σ) fun σ1 => if s0 = (0 : Int32) then (F_Side_swapByPair_B41 k p1 p2 l1 l2 l1 l2 σ1) else (F_Side_swapByPair_B41 k p1 p2 l1 l2 (-1 : Int32) l2 σ1)

def F_Side_swapByPair (k : Nat) (p1 : Int32) (p2 : Int32) (σ : gSt) : Option gSt := gbi (F_Game_valueIn (k + 2) p1 σ) fun r2 σ1 => if r2 = p2 then (F_Side_swapByPair_B17 k p1 p2 p1 p2 (1 : Int32) σ1) else (F_Side_swapByPair_B17 k p1 p2 p1 p2 (0 : Int32) σ1)

set_option maxHeartbeats 4000000 in
set_option maxRecDepth 100000 in
theorem b_Side_swapByPair_B41 {p : Program} {l : Launch} {e : Env} {s : State} {m : MethodId} {args : Array Value} {below : List Frame} {meth : Method} {c : Code} {D : va_G} {cI cJ : ClassId} {ad : Nat → Nat} {sz : Nat} {σ' : gSt} (C : gC p s m args meth c D cI cJ ad (gA ad sz) cX4_swapByPair 4 RX4) (hr : meth.sig.returnType = none) (hl : l.stackTraces = false) (k : Nat) (p1 : Int32) (p2 : Int32) (hk : gIsSide k) (l1 : Int32) (l2 : Int32) (s0 : Int32) (s1 : Int32) (σ : gSt) : gX (F_Side_swapByPair_B41 k p1 p2 l1 l2 s0 s1 σ) σ' (gG p l e { frames := 3, cells := 0, slots := 0, locals := 64 } s m args below meth c D cI cJ ad (gA ad sz) 4 0 0 (MQ below (va_Qv (fun (_ : Unit) => True) (fun _ t => va_P D vwCl (gw cI cJ ad σ') t.heap) (gA ad sz)) args s 0 0 (gA ad sz)) σ 41 [(0, .ref (ad k)), (1, .int l1), (2, .int l2)] [.int s0, .int s1, .ref (ad (k + 2))]) := by
  unfold F_Side_swapByPair_B41
  refine g_callnv (As := [.ref (ad (k + 2)), .int s1, .int s0]) (n := 3) C (c_Game_putIn l hl D cI cJ ad (k + 2) s1 s0 (gSd hk).2.2.2.2.2.1) ⟨rfl, rfl⟩ qc1 (hR := ⟨Nat.le_of_ble_eq_true rfl, Nat.le_of_ble_eq_true rfl⟩) rfl rfl (Nat.le_of_ble_eq_true rfl) dX4_swapByPair_41 ⟨Nat.zero_le _, Nat.zero_le _⟩ (fun σ1 => ?_)
  refine g_aload_n C 0 dX4_swapByPair_44 rfl rfl ?_
  refine g_aload_n C 0 dX4_swapByPair_45 rfl rfl ?_
  refine g_iload_n C 1 dX4_swapByPair_46 rfl rfl ?_
  refine g_callvi (As := [.int l1]) (n := 1) C (c_Side_placeOf l hl D cI cJ ad k l1 hk) ⟨rfl, rfl⟩ gcl4 (gSd hk).1 qc21 (hR := ⟨Nat.le_of_ble_eq_true rfl, Nat.le_of_ble_eq_true rfl⟩) rfl rfl (Nat.le_of_ble_eq_true rfl) dX4_swapByPair_47 ⟨Nat.zero_le _, Nat.zero_le _⟩ (fun r3 σ2 => ?_)
  refine g_iload_n C 2 dX4_swapByPair_50 rfl rfl ?_
  refine g_callvv (As := [.int r3, .int l2]) (n := 2) C (c_Side_put l hl D cI cJ ad k r3 l2 hk) ⟨rfl, rfl⟩ gcl4 (gSd hk).1 qc7 (hR := ⟨Nat.le_of_ble_eq_true rfl, Nat.le_of_ble_eq_true rfl⟩) rfl rfl (Nat.le_of_ble_eq_true rfl) dX4_swapByPair_51 ⟨Nat.zero_le _, Nat.zero_le _⟩ (fun σ4 => ?_)
  refine g_aload_n C 0 dX4_swapByPair_54 rfl rfl ?_
  refine g_dup C dX4_swapByPair_55 rfl ?_
  refine g_getI C k 7 gcl4 (gSd hk).1 (by decide) ((gSd hk).2.2.2.1 7 (by decide)) qw7 dX4_swapByPair_56 ?_
  refine g_iconst (v := (1 : Int32)) C dX4_swapByPair_59 (by decide) ?_
  refine g_iadd C dX4_swapByPair_60 ?_
  refine g_putI C k 7 gcl4 gft4 (gSd hk).1 (by decide) ((gSd hk).2.2.2.1 7 (by decide)) rfl rfl qw7 dX4_swapByPair_61 (fun σ5 => ?_)
  exact g_retv C hr dX4_swapByPair_64

set_option maxHeartbeats 4000000 in
set_option maxRecDepth 100000 in
theorem b_Side_swapByPair_B17 {p : Program} {l : Launch} {e : Env} {s : State} {m : MethodId} {args : Array Value} {below : List Frame} {meth : Method} {c : Code} {D : va_G} {cI cJ : ClassId} {ad : Nat → Nat} {sz : Nat} {σ' : gSt} (C : gC p s m args meth c D cI cJ ad (gA ad sz) cX4_swapByPair 4 RX4) (hr : meth.sig.returnType = none) (hl : l.stackTraces = false) (k : Nat) (p1 : Int32) (p2 : Int32) (hk : gIsSide k) (l1 : Int32) (l2 : Int32) (s0 : Int32) (σ : gSt) : gX (F_Side_swapByPair_B17 k p1 p2 l1 l2 s0 σ) σ' (gG p l e { frames := 3, cells := 0, slots := 0, locals := 64 } s m args below meth c D cI cJ ad (gA ad sz) 4 0 0 (MQ below (va_Qv (fun (_ : Unit) => True) (fun _ t => va_P D vwCl (gw cI cJ ad σ') t.heap) (gA ad sz)) args s 0 0 (gA ad sz)) σ 17 [(0, .ref (ad k)), (1, .int l1), (2, .int l2)] [.int s0]) := by
  unfold F_Side_swapByPair_B17
  refine g_istore_n (L' := [(3, .int s0), (0, .ref (ad k)), (1, .int l1), (2, .int l2)]) C dX4_swapByPair_17 rfl (by decide) rfl ?_
  refine g_aload_n C 1 dX4_swapByPair_18 rfl rfl ?_
  refine g_getR (o' := (k + 2)) C k 1 gcl4 (gSd hk).1 (by decide) (gSd hk).2.2.1 qw10 dX4_swapByPair_19 ?_
  refine g_iload_n C 2 dX4_swapByPair_22 rfl rfl ?_
  refine g_iconst (v := (-1 : Int32)) C dX4_swapByPair_23 (by decide) ?_
  refine g_callnv (As := [.ref (ad (k + 2)), .int l1, .int (-1 : Int32)]) (n := 3) C (c_Game_putIn l hl D cI cJ ad (k + 2) l1 (-1 : Int32) (gSd hk).2.2.2.2.2.1) ⟨rfl, rfl⟩ qc1 (hR := ⟨Nat.le_of_ble_eq_true rfl, Nat.le_of_ble_eq_true rfl⟩) rfl rfl (Nat.le_of_ble_eq_true rfl) dX4_swapByPair_24 ⟨Nat.zero_le _, Nat.zero_le _⟩ (fun σ1 => ?_)
  refine g_aload_n C 1 dX4_swapByPair_27 rfl rfl ?_
  refine g_getR (o' := (k + 2)) C k 1 gcl4 (gSd hk).1 (by decide) (gSd hk).2.2.1 qw10 dX4_swapByPair_28 ?_
  refine g_iload_n C 3 dX4_swapByPair_31 rfl rfl ?_
  refine g_iload_n C 0 dX4_swapByPair_32 rfl rfl ?_
  refine g_if_eq (tgt := 40) C dX4_swapByPair_33 (by decide) (fun h2 => ?_) (fun h2 => ?_)
  · refine g_iload_n C 2 dX4_swapByPair_40 rfl rfl ?_
    refine g_loc [1, 2, 3] rfl ?_
    exact b_Side_swapByPair_B41 C hr hl k p1 p2 hk l1 l2 l1 l2 σ1
  · refine g_iconst (v := (-1 : Int32)) C dX4_swapByPair_36 (by decide) ?_
    refine g_goto (tgt := 41) C dX4_swapByPair_37 (by decide) ?_
    refine g_loc [1, 2, 3] rfl ?_
    exact b_Side_swapByPair_B41 C hr hl k p1 p2 hk l1 l2 (-1 : Int32) l2 σ1

set_option maxHeartbeats 4000000 in
set_option maxRecDepth 100000 in
theorem c_Side_swapByPair (l : Launch) (hl : l.stackTraces = false) (D : va_G) (cI cJ : ClassId) (ad : Nat → Nat) (k : Nat) (p1 : Int32) (p2 : Int32) (hk : gIsSide k) : gMv l D cI cJ ad yX4_swapByPair cX4_swapByPair 4 none { frames := 3, cells := 0, slots := 0, locals := 64 } [.ref (ad k), .int p1, .int p2] (F_Side_swapByPair k p1 p2) := by
  refine gStartV (L0 := [(0, .ref (ad k)), (1, .int p1), (2, .int p2)]) RX4 (by decide) rfl rfl (Nat.le_of_ble_eq_true rfl) ?_
  intro p e s m args below meth c sz σ σ' C hr
  unfold F_Side_swapByPair
  refine g_aload_n C 0 dX4_swapByPair_0 rfl rfl ?_
  refine g_getR (o' := (k + 2)) C k 1 gcl4 (gSd hk).1 (by decide) (gSd hk).2.2.1 qw10 dX4_swapByPair_1 ?_
  refine g_iload_n C 1 dX4_swapByPair_4 rfl rfl ?_
  refine g_callni (As := [.ref (ad (k + 2)), .int p1]) (n := 2) C (c_Game_valueIn l hl D cI cJ ad (k + 2) p1 (gSd hk).2.2.2.2.2.1) ⟨rfl, rfl⟩ qc3 (hR := ⟨Nat.le_of_ble_eq_true rfl, Nat.le_of_ble_eq_true rfl⟩) rfl rfl (Nat.le_of_ble_eq_true rfl) dX4_swapByPair_5 ⟨Nat.zero_le _, Nat.zero_le _⟩ (fun r2 σ1 => ?_)
  refine g_iload_n C 2 dX4_swapByPair_8 rfl rfl ?_
  refine g_icmp_ne (tgt := 16) C dX4_swapByPair_9 (by decide) (fun h3 => ?_) (fun h3 => ?_)
  · refine g_iconst (v := (1 : Int32)) C dX4_swapByPair_12 (by decide) ?_
    refine g_goto (tgt := 17) C dX4_swapByPair_13 (by decide) ?_
    refine g_loc [0, 1, 2] rfl ?_
    exact b_Side_swapByPair_B17 C hr hl k p1 p2 hk p1 p2 (1 : Int32) σ1
  · refine g_iconst (v := (0 : Int32)) C dX4_swapByPair_16 (by decide) ?_
    refine g_loc [0, 1, 2] rfl ?_
    exact b_Side_swapByPair_B17 C hr hl k p1 p2 hk p1 p2 (0 : Int32) σ1

def F_Side_isBehind (k : Nat) (p1 : Int32) (σ : gSt) : Option (Int32 × gSt) := gbi (F_Side_placeOf k p1 σ) fun r2 σ1 => if r2 = (1 : Int32) then (some ((1 : Int32), σ1)) else (if r2 ≤ (4 : Int32) then (some ((0 : Int32), σ1)) else (some ((1 : Int32), σ1)))

set_option maxHeartbeats 4000000 in
set_option maxRecDepth 100000 in
theorem c_Side_isBehind (l : Launch) (hl : l.stackTraces = false) (D : va_G) (cI cJ : ClassId) (ad : Nat → Nat) (k : Nat) (p1 : Int32) (hk : gIsSide k) : gMi l D cI cJ ad yX4_isBehind cX4_isBehind 3 (some .boolean) { frames := 3, cells := 0, slots := 0, locals := 64 } [.ref (ad k), .int p1] (F_Side_isBehind k p1) := by
  refine gStartI (L0 := [(0, .ref (ad k)), (1, .int p1)]) RX4 (by decide) rfl rfl (Nat.le_of_ble_eq_true rfl) ?_
  intro p e s m args below meth c sz σ r σ' C hr
  unfold F_Side_isBehind
  refine g_aload_n C 0 dX4_isBehind_0 rfl rfl ?_
  refine g_iload_n C 1 dX4_isBehind_1 rfl rfl ?_
  refine g_callvi (As := [.int p1]) (n := 1) C (c_Side_placeOf l hl D cI cJ ad k p1 hk) ⟨rfl, rfl⟩ gcl4 (gSd hk).1 qc21 (hR := ⟨Nat.le_of_ble_eq_true rfl, Nat.le_of_ble_eq_true rfl⟩) rfl rfl (Nat.le_of_ble_eq_true rfl) dX4_isBehind_2 ⟨Nat.zero_le _, Nat.zero_le _⟩ (fun r2 σ1 => ?_)
  refine g_istore_n (L' := [(2, .int r2), (0, .ref (ad k)), (1, .int p1)]) C dX4_isBehind_5 rfl (by decide) rfl ?_
  refine g_iload_n C 0 dX4_isBehind_6 rfl rfl ?_
  refine g_iconst (v := (1 : Int32)) C dX4_isBehind_7 (by decide) ?_
  refine g_icmp_eq (tgt := 16) C dX4_isBehind_8 (by decide) (fun h3 => ?_) (fun h3 => ?_)
  · refine g_iconst (v := (1 : Int32)) C dX4_isBehind_16 (by decide) ?_
    refine g_goto (tgt := 21) C dX4_isBehind_17 (by decide) ?_
    exact g_iretz C (by decide) hr dX4_isBehind_21
  · refine g_iload_n C 0 dX4_isBehind_11 rfl rfl ?_
    refine g_iconst (v := (4 : Int32)) C dX4_isBehind_12 (by decide) ?_
    refine g_icmp_le (tgt := 20) C dX4_isBehind_13 (by decide) (fun h4 => ?_) (fun h4 => ?_)
    · refine g_iconst (v := (0 : Int32)) C dX4_isBehind_20 (by decide) ?_
      exact g_iretz C (by decide) hr dX4_isBehind_21
    · refine g_iconst (v := (1 : Int32)) C dX4_isBehind_16 (by decide) ?_
      refine g_goto (tgt := 21) C dX4_isBehind_17 (by decide) ?_
      exact g_iretz C (by decide) hr dX4_isBehind_21

def F_Side_isReady_B2 (k : Nat) : Nat → Int32 → gSt → Option (Int32 × gSt)
  | 0, _, _ => none
  | n + 1, l1, σ => if (6 : Int32) < l1 then (some ((1 : Int32), σ)) else (gbi (F_Side_shirtIn k l1 σ) fun r3 σ2 => if r3 = (-1 : Int32) then (some ((0 : Int32), σ2)) else (if r3 = (σ2 k 2) then (some ((0 : Int32), σ2)) else (gbi (F_Side_placeOf k r3 σ2) fun r7 σ6 => if r7 = l1 then (F_Side_isReady_B2 k n (l1 + (1 : Int32)) σ6) else (some ((0 : Int32), σ6)))))

def F_Side_isReady (k : Nat) (σ : gSt) : Option (Int32 × gSt) := F_Side_isReady_B2 k 100 (1 : Int32) σ

set_option maxHeartbeats 4000000 in
set_option maxRecDepth 100000 in
theorem b_Side_isReady_B2 {p : Program} {l : Launch} {e : Env} {s : State} {m : MethodId} {args : Array Value} {below : List Frame} {meth : Method} {c : Code} {D : va_G} {cI cJ : ClassId} {ad : Nat → Nat} {sz : Nat} {r : Int32} {σ' : gSt} (C : gC p s m args meth c D cI cJ ad (gA ad sz) cX4_isReady 3 RX4) (hr : meth.sig.returnType = (some .boolean)) (hl : l.stackTraces = false) (k : Nat) (hk : gIsSide k) : ∀ (n : Nat) (l1 : Int32) (σ : gSt), gX (F_Side_isReady_B2 k n l1 σ) (r, σ') (gG p l e { frames := 3, cells := 0, slots := 0, locals := 64 } s m args below meth c D cI cJ ad (gA ad sz) 3 0 0 (MQ below (va_Qi (fun r1 (_ : Unit) => r1 = r) (fun _ t => va_P D vwCl (gw cI cJ ad σ') t.heap) (gA ad sz)) args s 0 0 (gA ad sz)) σ 2 [(0, .ref (ad k)), (1, .int l1)] []) := by
  intro n
  induction n with
  | zero =>
    intro l1 σ
    unfold F_Side_isReady_B2
    exact gX_none
  | succ n ih =>
    intro l1 σ
    unfold F_Side_isReady_B2
    refine g_iload_n C 1 dX4_isReady_2 rfl rfl ?_
    refine g_bipush (v := (6 : Int32)) C dX4_isReady_3 (by decide) ?_
    refine g_icmp_gt (tgt := 44) C dX4_isReady_5 (by decide) (fun h1 => ?_) (fun h1 => ?_)
    · refine g_iconst (v := (1 : Int32)) C dX4_isReady_44 (by decide) ?_
      exact g_iretz C (by decide) hr dX4_isReady_45
    · refine g_aload_n C 0 dX4_isReady_8 rfl rfl ?_
      refine g_iload_n C 1 dX4_isReady_9 rfl rfl ?_
      refine g_callvi (As := [.int l1]) (n := 1) C (c_Side_shirtIn l hl D cI cJ ad k l1 hk) ⟨rfl, rfl⟩ gcl4 (gSd hk).1 qc6 (hR := ⟨Nat.le_of_ble_eq_true rfl, Nat.le_of_ble_eq_true rfl⟩) rfl rfl (Nat.le_of_ble_eq_true rfl) dX4_isReady_10 ⟨Nat.zero_le _, Nat.zero_le _⟩ (fun r3 σ2 => ?_)
      refine g_istore_n (L' := [(2, .int r3), (0, .ref (ad k)), (1, .int l1)]) C dX4_isReady_13 rfl (by decide) rfl ?_
      refine g_iload_n C 0 dX4_isReady_14 rfl rfl ?_
      refine g_iconst (v := (-1 : Int32)) C dX4_isReady_15 (by decide) ?_
      refine g_icmp_eq (tgt := 36) C dX4_isReady_16 (by decide) (fun h4 => ?_) (fun h4 => ?_)
      · refine g_iconst (v := (0 : Int32)) C dX4_isReady_36 (by decide) ?_
        exact g_iretz C (by decide) hr dX4_isReady_37
      · refine g_iload_n C 0 dX4_isReady_19 rfl rfl ?_
        refine g_aload_n C 1 dX4_isReady_20 rfl rfl ?_
        refine g_getI C k 2 gcl4 (gSd hk).1 (by decide) ((gSd hk).2.2.2.1 2 (by decide)) qw47 dX4_isReady_21 ?_
        refine g_icmp_eq (tgt := 36) C dX4_isReady_24 (by decide) (fun h5 => ?_) (fun h5 => ?_)
        · refine g_iconst (v := (0 : Int32)) C dX4_isReady_36 (by decide) ?_
          exact g_iretz C (by decide) hr dX4_isReady_37
        · refine g_aload_n C 1 dX4_isReady_27 rfl rfl ?_
          refine g_iload_n C 0 dX4_isReady_28 rfl rfl ?_
          refine g_callvi (As := [.int r3]) (n := 1) C (c_Side_placeOf l hl D cI cJ ad k r3 hk) ⟨rfl, rfl⟩ gcl4 (gSd hk).1 qc21 (hR := ⟨Nat.le_of_ble_eq_true rfl, Nat.le_of_ble_eq_true rfl⟩) rfl rfl (Nat.le_of_ble_eq_true rfl) dX4_isReady_29 ⟨Nat.zero_le _, Nat.zero_le _⟩ (fun r7 σ6 => ?_)
          refine g_iload_n C 2 dX4_isReady_32 rfl rfl ?_
          refine g_icmp_eq (tgt := 38) C dX4_isReady_33 (by decide) (fun h8 => ?_) (fun h8 => ?_)
          · refine g_iinc (v := (l1 + (1 : Int32))) (L' := [(1, .int (l1 + (1 : Int32))), (2, .int r3), (0, .ref (ad k))]) C 2 dX4_isReady_38 rfl (by rfl) (by decide) rfl ?_
            refine g_goto (tgt := 2) C dX4_isReady_41 (by decide) ?_
            refine g_loc [2, 0] rfl ?_
            exact ih (l1 + (1 : Int32)) σ6
          · refine g_iconst (v := (0 : Int32)) C dX4_isReady_36 (by decide) ?_
            exact g_iretz C (by decide) hr dX4_isReady_37

set_option maxHeartbeats 4000000 in
set_option maxRecDepth 100000 in
theorem c_Side_isReady (l : Launch) (hl : l.stackTraces = false) (D : va_G) (cI cJ : ClassId) (ad : Nat → Nat) (k : Nat) (hk : gIsSide k) : gMi l D cI cJ ad yX4_isReady cX4_isReady 3 (some .boolean) { frames := 3, cells := 0, slots := 0, locals := 64 } [.ref (ad k)] (F_Side_isReady k) := by
  refine gStartI (L0 := [(0, .ref (ad k))]) RX4 (by decide) rfl rfl (Nat.le_of_ble_eq_true rfl) ?_
  intro p e s m args below meth c sz σ r σ' C hr
  unfold F_Side_isReady
  refine g_iconst (v := (1 : Int32)) C dX4_isReady_0 (by decide) ?_
  refine g_istore_n (L' := [(1, .int (1 : Int32)), (0, .ref (ad k))]) C dX4_isReady_1 rfl (by decide) rfl ?_
  refine g_loc [1, 0] rfl ?_
  exact b_Side_isReady_B2 C hr hl k hk 100 (1 : Int32) σ

def F_Side_faultOf_B36 (k : Nat) (p1 : Int32) (p2 : Int32) (p3 : Int32) (l1 : Int32) (l2 : Int32) (σ : gSt) : Option (Int32 × gSt) := if l2 = (1 : Int32) then (if l1 = (σ k 2) then (some ((5 : Int32), σ)) else (some ((0 : Int32), σ))) else (some ((0 : Int32), σ))

def F_Side_faultOf_B19 (k : Nat) (p1 : Int32) (p2 : Int32) (p3 : Int32) (l1 : Int32) (l2 : Int32) (s0 : Int32) (σ : gSt) : Option (Int32 × gSt) := if s0 = (0 : Int32) then (F_Side_faultOf_B36 k p1 p2 p3 l1 l2 σ) else (gbi (F_Side_isBehind k l1 σ) fun r3 σ2 => if r3 = (0 : Int32) then (F_Side_faultOf_B36 k p1 p2 p3 l1 l2 σ2) else (some ((4 : Int32), σ2)))

def F_Side_faultOf_B14 (k : Nat) (p1 : Int32) (p2 : Int32) (p3 : Int32) (l1 : Int32) (l2 : Int32) (σ : gSt) : Option (Int32 × gSt) := F_Side_faultOf_B19 k p1 p2 p3 l1 l2 (1 : Int32) σ

def F_Side_faultOf_B18 (k : Nat) (p1 : Int32) (p2 : Int32) (p3 : Int32) (l1 : Int32) (l2 : Int32) (σ : gSt) : Option (Int32 × gSt) := F_Side_faultOf_B19 k p1 p2 p3 l1 l2 (0 : Int32) σ

def F_Side_faultOf (k : Nat) (p1 : Int32) (p2 : Int32) (p3 : Int32) (σ : gSt) : Option (Int32 × gSt) := if p2 = (2 : Int32) then (F_Side_faultOf_B14 k p1 p2 p3 p1 p2 σ) else (if p2 = (1 : Int32) then (if p3 = (0 : Int32) then (F_Side_faultOf_B18 k p1 p2 p3 p1 p2 σ) else (F_Side_faultOf_B14 k p1 p2 p3 p1 p2 σ)) else (F_Side_faultOf_B18 k p1 p2 p3 p1 p2 σ))

set_option maxHeartbeats 4000000 in
set_option maxRecDepth 100000 in
theorem b_Side_faultOf_B36 {p : Program} {l : Launch} {e : Env} {s : State} {m : MethodId} {args : Array Value} {below : List Frame} {meth : Method} {c : Code} {D : va_G} {cI cJ : ClassId} {ad : Nat → Nat} {sz : Nat} {r : Int32} {σ' : gSt} (C : gC p s m args meth c D cI cJ ad (gA ad sz) cX4_faultOf 5 RX4) (hr : meth.sig.returnType = (some .int)) (hl : l.stackTraces = false) (k : Nat) (p1 : Int32) (p2 : Int32) (p3 : Int32) (hk : gIsSide k) (l1 : Int32) (l2 : Int32) (σ : gSt) : gX (F_Side_faultOf_B36 k p1 p2 p3 l1 l2 σ) (r, σ') (gG p l e { frames := 4, cells := 0, slots := 0, locals := 86 } s m args below meth c D cI cJ ad (gA ad sz) 5 0 0 (MQ below (va_Qi (fun r1 (_ : Unit) => r1 = r) (fun _ t => va_P D vwCl (gw cI cJ ad σ') t.heap) (gA ad sz)) args s 0 0 (gA ad sz)) σ 36 [(0, .ref (ad k)), (1, .int l1), (2, .int l2)] []) := by
  unfold F_Side_faultOf_B36
  refine g_iload_n C 2 dX4_faultOf_36 rfl rfl ?_
  refine g_iconst (v := (1 : Int32)) C dX4_faultOf_37 (by decide) ?_
  refine g_icmp_ne (tgt := 53) C dX4_faultOf_38 (by decide) (fun h1 => ?_) (fun h1 => ?_)
  · refine g_iload_n C 1 dX4_faultOf_41 rfl rfl ?_
    refine g_aload_n C 0 dX4_faultOf_42 rfl rfl ?_
    refine g_getI C k 2 gcl4 (gSd hk).1 (by decide) ((gSd hk).2.2.2.1 2 (by decide)) qw47 dX4_faultOf_43 ?_
    refine g_icmp_ne (tgt := 53) C dX4_faultOf_46 (by decide) (fun h2 => ?_) (fun h2 => ?_)
    · refine g_iconst (v := (5 : Int32)) C dX4_faultOf_49 (by decide) ?_
      refine g_goto (tgt := 54) C dX4_faultOf_50 (by decide) ?_
      exact g_ireti C hr dX4_faultOf_54
    · refine g_iconst (v := (0 : Int32)) C dX4_faultOf_53 (by decide) ?_
      exact g_ireti C hr dX4_faultOf_54
  · refine g_iconst (v := (0 : Int32)) C dX4_faultOf_53 (by decide) ?_
    exact g_ireti C hr dX4_faultOf_54

set_option maxHeartbeats 4000000 in
set_option maxRecDepth 100000 in
theorem b_Side_faultOf_B19 {p : Program} {l : Launch} {e : Env} {s : State} {m : MethodId} {args : Array Value} {below : List Frame} {meth : Method} {c : Code} {D : va_G} {cI cJ : ClassId} {ad : Nat → Nat} {sz : Nat} {r : Int32} {σ' : gSt} (C : gC p s m args meth c D cI cJ ad (gA ad sz) cX4_faultOf 5 RX4) (hr : meth.sig.returnType = (some .int)) (hl : l.stackTraces = false) (k : Nat) (p1 : Int32) (p2 : Int32) (p3 : Int32) (hk : gIsSide k) (l1 : Int32) (l2 : Int32) (s0 : Int32) (σ : gSt) : gX (F_Side_faultOf_B19 k p1 p2 p3 l1 l2 s0 σ) (r, σ') (gG p l e { frames := 4, cells := 0, slots := 0, locals := 86 } s m args below meth c D cI cJ ad (gA ad sz) 5 0 0 (MQ below (va_Qi (fun r1 (_ : Unit) => r1 = r) (fun _ t => va_P D vwCl (gw cI cJ ad σ') t.heap) (gA ad sz)) args s 0 0 (gA ad sz)) σ 19 [(0, .ref (ad k)), (1, .int l1), (2, .int l2)] [.int s0]) := by
  unfold F_Side_faultOf_B19
  refine g_istore (L' := [(4, .int s0), (0, .ref (ad k)), (1, .int l1), (2, .int l2)]) C dX4_faultOf_19 (by decide) rfl ?_
  refine g_iload C 0 dX4_faultOf_21 rfl ?_
  refine g_if_eq (tgt := 36) C dX4_faultOf_23 (by decide) (fun h1 => ?_) (fun h1 => ?_)
  · refine g_loc [1, 2, 3] rfl ?_
    exact b_Side_faultOf_B36 C hr hl k p1 p2 p3 hk l1 l2 σ
  · refine g_aload_n C 1 dX4_faultOf_26 rfl rfl ?_
    refine g_iload_n C 2 dX4_faultOf_27 rfl rfl ?_
    refine g_callvi (As := [.int l1]) (n := 1) C (c_Side_isBehind l hl D cI cJ ad k l1 hk) ⟨rfl, rfl⟩ gcl4 (gSd hk).1 qc38 (hR := ⟨Nat.le_of_ble_eq_true rfl, Nat.le_of_ble_eq_true rfl⟩) rfl rfl (Nat.le_of_ble_eq_true rfl) dX4_faultOf_28 ⟨Nat.zero_le _, Nat.zero_le _⟩ (fun r3 σ2 => ?_)
    refine g_if_eq (tgt := 36) C dX4_faultOf_31 (by decide) (fun h4 => ?_) (fun h4 => ?_)
    · refine g_loc [1, 2, 3] rfl ?_
      exact b_Side_faultOf_B36 C hr hl k p1 p2 p3 hk l1 l2 σ2
    · refine g_iconst (v := (4 : Int32)) C dX4_faultOf_34 (by decide) ?_
      exact g_ireti C hr dX4_faultOf_35

set_option maxHeartbeats 4000000 in
set_option maxRecDepth 100000 in
theorem b_Side_faultOf_B14 {p : Program} {l : Launch} {e : Env} {s : State} {m : MethodId} {args : Array Value} {below : List Frame} {meth : Method} {c : Code} {D : va_G} {cI cJ : ClassId} {ad : Nat → Nat} {sz : Nat} {r : Int32} {σ' : gSt} (C : gC p s m args meth c D cI cJ ad (gA ad sz) cX4_faultOf 5 RX4) (hr : meth.sig.returnType = (some .int)) (hl : l.stackTraces = false) (k : Nat) (p1 : Int32) (p2 : Int32) (p3 : Int32) (hk : gIsSide k) (l1 : Int32) (l2 : Int32) (σ : gSt) : gX (F_Side_faultOf_B14 k p1 p2 p3 l1 l2 σ) (r, σ') (gG p l e { frames := 4, cells := 0, slots := 0, locals := 86 } s m args below meth c D cI cJ ad (gA ad sz) 5 0 0 (MQ below (va_Qi (fun r1 (_ : Unit) => r1 = r) (fun _ t => va_P D vwCl (gw cI cJ ad σ') t.heap) (gA ad sz)) args s 0 0 (gA ad sz)) σ 14 [(0, .ref (ad k)), (1, .int l1), (2, .int l2)] []) := by
  unfold F_Side_faultOf_B14
  refine g_iconst (v := (1 : Int32)) C dX4_faultOf_14 (by decide) ?_
  refine g_goto (tgt := 19) C dX4_faultOf_15 (by decide) ?_
  refine g_loc [0, 1, 2] rfl ?_
  exact b_Side_faultOf_B19 C hr hl k p1 p2 p3 hk l1 l2 (1 : Int32) σ

set_option maxHeartbeats 4000000 in
set_option maxRecDepth 100000 in
theorem b_Side_faultOf_B18 {p : Program} {l : Launch} {e : Env} {s : State} {m : MethodId} {args : Array Value} {below : List Frame} {meth : Method} {c : Code} {D : va_G} {cI cJ : ClassId} {ad : Nat → Nat} {sz : Nat} {r : Int32} {σ' : gSt} (C : gC p s m args meth c D cI cJ ad (gA ad sz) cX4_faultOf 5 RX4) (hr : meth.sig.returnType = (some .int)) (hl : l.stackTraces = false) (k : Nat) (p1 : Int32) (p2 : Int32) (p3 : Int32) (hk : gIsSide k) (l1 : Int32) (l2 : Int32) (σ : gSt) : gX (F_Side_faultOf_B18 k p1 p2 p3 l1 l2 σ) (r, σ') (gG p l e { frames := 4, cells := 0, slots := 0, locals := 86 } s m args below meth c D cI cJ ad (gA ad sz) 5 0 0 (MQ below (va_Qi (fun r1 (_ : Unit) => r1 = r) (fun _ t => va_P D vwCl (gw cI cJ ad σ') t.heap) (gA ad sz)) args s 0 0 (gA ad sz)) σ 18 [(0, .ref (ad k)), (1, .int l1), (2, .int l2)] []) := by
  unfold F_Side_faultOf_B18
  refine g_iconst (v := (0 : Int32)) C dX4_faultOf_18 (by decide) ?_
  refine g_loc [0, 1, 2] rfl ?_
  exact b_Side_faultOf_B19 C hr hl k p1 p2 p3 hk l1 l2 (0 : Int32) σ

set_option maxHeartbeats 4000000 in
set_option maxRecDepth 100000 in
theorem c_Side_faultOf (l : Launch) (hl : l.stackTraces = false) (D : va_G) (cI cJ : ClassId) (ad : Nat → Nat) (k : Nat) (p1 : Int32) (p2 : Int32) (p3 : Int32) (hk : gIsSide k) : gMi l D cI cJ ad yX4_faultOf cX4_faultOf 5 (some .int) { frames := 4, cells := 0, slots := 0, locals := 86 } [.ref (ad k), .int p1, .int p2, .int p3] (F_Side_faultOf k p1 p2 p3) := by
  refine gStartI (L0 := [(0, .ref (ad k)), (1, .int p1), (2, .int p2), (3, .int p3)]) RX4 (by decide) rfl rfl (Nat.le_of_ble_eq_true rfl) ?_
  intro p e s m args below meth c sz σ r σ' C hr
  unfold F_Side_faultOf
  refine g_iload_n C 2 dX4_faultOf_0 rfl rfl ?_
  refine g_iconst (v := (2 : Int32)) C dX4_faultOf_1 (by decide) ?_
  refine g_icmp_eq (tgt := 14) C dX4_faultOf_2 (by decide) (fun h1 => ?_) (fun h1 => ?_)
  · refine g_loc [0, 1, 2] rfl ?_
    exact b_Side_faultOf_B14 C hr hl k p1 p2 p3 hk p1 p2 σ
  · refine g_iload_n C 2 dX4_faultOf_5 rfl rfl ?_
    refine g_iconst (v := (1 : Int32)) C dX4_faultOf_6 (by decide) ?_
    refine g_icmp_ne (tgt := 18) C dX4_faultOf_7 (by decide) (fun h2 => ?_) (fun h2 => ?_)
    · refine g_iload_n C 3 dX4_faultOf_10 rfl rfl ?_
      refine g_if_eq (tgt := 18) C dX4_faultOf_11 (by decide) (fun h3 => ?_) (fun h3 => ?_)
      · refine g_loc [0, 1, 2] rfl ?_
        exact b_Side_faultOf_B18 C hr hl k p1 p2 p3 hk p1 p2 σ
      · refine g_loc [0, 1, 2] rfl ?_
        exact b_Side_faultOf_B14 C hr hl k p1 p2 p3 hk p1 p2 σ
    · refine g_loc [0, 1, 2] rfl ?_
      exact b_Side_faultOf_B18 C hr hl k p1 p2 p3 hk p1 p2 σ

def F_Side_canExchange (k : Nat) (p1 : Int32) (σ : gSt) : Option (Int32 × gSt) := if (σ k 2) = (-1 : Int32) then (some ((0 : Int32), σ)) else (if (σ k 9) = (0 : Int32) then (gbi (F_Side_isLiberoIn k σ) fun r4 σ3 => if r4 = (0 : Int32) then (gbi (F_Side_isBehind k p1 σ3) fun r7 σ6 => if r7 = 0 ∨ r7 = 1 then some (r7, σ6) else none) else (if p1 = (σ3 k 3) then (some ((1 : Int32), σ3)) else (some ((0 : Int32), σ3)))) else (some ((0 : Int32), σ)))

set_option maxHeartbeats 4000000 in
set_option maxRecDepth 100000 in
theorem c_Side_canExchange (l : Launch) (hl : l.stackTraces = false) (D : va_G) (cI cJ : ClassId) (ad : Nat → Nat) (k : Nat) (p1 : Int32) (hk : gIsSide k) : gMi l D cI cJ ad yX4_canExchange cX4_canExchange 2 (some .boolean) { frames := 4, cells := 0, slots := 0, locals := 86 } [.ref (ad k), .int p1] (F_Side_canExchange k p1) := by
  refine gStartI (L0 := [(0, .ref (ad k)), (1, .int p1)]) RX4 (by decide) rfl rfl (Nat.le_of_ble_eq_true rfl) ?_
  intro p e s m args below meth c sz σ r σ' C hr
  unfold F_Side_canExchange
  refine g_aload_n C 0 dX4_canExchange_0 rfl rfl ?_
  refine g_getI C k 2 gcl4 (gSd hk).1 (by decide) ((gSd hk).2.2.2.1 2 (by decide)) qw47 dX4_canExchange_1 ?_
  refine g_iconst (v := (-1 : Int32)) C dX4_canExchange_4 (by decide) ?_
  refine g_icmp_eq (tgt := 15) C dX4_canExchange_5 (by decide) (fun h1 => ?_) (fun h1 => ?_)
  · refine g_iconst (v := (0 : Int32)) C dX4_canExchange_15 (by decide) ?_
    exact g_iretz C (by decide) hr dX4_canExchange_16
  · refine g_aload_n C 0 dX4_canExchange_8 rfl rfl ?_
    refine g_getI C k 9 gcl4 (gSd hk).1 (by decide) ((gSd hk).2.2.2.1 9 (by decide)) qw9 dX4_canExchange_9 ?_
    refine g_if_eq (tgt := 17) C dX4_canExchange_12 (by decide) (fun h2 => ?_) (fun h2 => ?_)
    · refine g_aload_n C 0 dX4_canExchange_17 rfl rfl ?_
      refine g_callvi (As := []) (n := 0) C (c_Side_isLiberoIn l hl D cI cJ ad k hk) ⟨rfl, rfl⟩ gcl4 (gSd hk).1 qc8 (hR := ⟨Nat.le_of_ble_eq_true rfl, Nat.le_of_ble_eq_true rfl⟩) rfl rfl (Nat.le_of_ble_eq_true rfl) dX4_canExchange_18 ⟨Nat.zero_le _, Nat.zero_le _⟩ (fun r4 σ3 => ?_)
      refine g_if_eq (tgt := 40) C dX4_canExchange_21 (by decide) (fun h5 => ?_) (fun h5 => ?_)
      · refine g_aload_n C 0 dX4_canExchange_40 rfl rfl ?_
        refine g_iload_n C 1 dX4_canExchange_41 rfl rfl ?_
        refine g_callvi (As := [.int p1]) (n := 1) C (c_Side_isBehind l hl D cI cJ ad k p1 hk) ⟨rfl, rfl⟩ gcl4 (gSd hk).1 qc38 (hR := ⟨Nat.le_of_ble_eq_true rfl, Nat.le_of_ble_eq_true rfl⟩) rfl rfl (Nat.le_of_ble_eq_true rfl) dX4_canExchange_42 ⟨Nat.zero_le _, Nat.zero_le _⟩ (fun r7 σ6 => ?_)
        refine gX_z (fun z8 => ?_)
        exact g_iretz C z8 hr dX4_canExchange_45
      · refine g_iload_n C 1 dX4_canExchange_24 rfl rfl ?_
        refine g_aload_n C 0 dX4_canExchange_25 rfl rfl ?_
        refine g_getI C k 3 gcl4 (gSd hk).1 (by decide) ((gSd hk).2.2.2.1 3 (by decide)) qw37 dX4_canExchange_26 ?_
        refine g_icmp_ne (tgt := 36) C dX4_canExchange_29 (by decide) (fun h9 => ?_) (fun h9 => ?_)
        · refine g_iconst (v := (1 : Int32)) C dX4_canExchange_32 (by decide) ?_
          refine g_goto (tgt := 45) C dX4_canExchange_33 (by decide) ?_
          exact g_iretz C (by decide) hr dX4_canExchange_45
        · refine g_iconst (v := (0 : Int32)) C dX4_canExchange_36 (by decide) ?_
          refine g_goto (tgt := 45) C dX4_canExchange_37 (by decide) ?_
          exact g_iretz C (by decide) hr dX4_canExchange_45
    · refine g_iconst (v := (0 : Int32)) C dX4_canExchange_15 (by decide) ?_
      exact g_iretz C (by decide) hr dX4_canExchange_16

def F_Side_canSubstitute_B82 (k : Nat) (p1 : Int32) (p2 : Int32) (l1 : Int32) (l2 : Int32) (s0 : Int32) (σ : gSt) : Option (Int32 × gSt) := if s0 = (0 : Int32) then (gbi (F_Game_valueIn (k + 2) l1 σ) fun r3 σ2 => if r3 = l2 then (some ((1 : Int32), σ2)) else (some ((0 : Int32), σ2))) else (some ((1 : Int32), σ))

def F_Side_canSubstitute_B81 (k : Nat) (p1 : Int32) (p2 : Int32) (l1 : Int32) (l2 : Int32) (σ : gSt) : Option (Int32 × gSt) := F_Side_canSubstitute_B82 k p1 p2 l1 l2 (0 : Int32) σ

def F_Side_canSubstitute (k : Nat) (p1 : Int32) (p2 : Int32) (σ : gSt) : Option (Int32 × gSt) := if (6 : Int32) ≤ (σ k 7) then (some ((0 : Int32), σ)) else (if p1 = (σ k 2) then (some ((0 : Int32), σ)) else (if p2 = (σ k 2) then (some ((0 : Int32), σ)) else (if p2 = (σ k 3) then (some ((0 : Int32), σ)) else (gbi (F_Side_placeOf k p1 σ) fun r6 σ5 => if r6 = (-1 : Int32) then (some ((0 : Int32), σ5)) else (gbi (F_Side_placeOf k p2 σ5) fun r9 σ8 => if r9 = (-1 : Int32) then (gbi (F_Game_valueIn (k + 2) p1 σ8) fun r12 σ11 => if r12 = (0 : Int32) then (gbi (F_Game_valueIn (k + 2) p2 σ11) fun r15 σ14 => if r15 = (0 : Int32) then (F_Side_canSubstitute_B82 k p1 p2 p1 p2 (1 : Int32) σ14) else (F_Side_canSubstitute_B81 k p1 p2 p1 p2 σ14)) else (F_Side_canSubstitute_B81 k p1 p2 p1 p2 σ11)) else (some ((0 : Int32), σ8)))))))

set_option maxHeartbeats 4000000 in
set_option maxRecDepth 100000 in
theorem b_Side_canSubstitute_B82 {p : Program} {l : Launch} {e : Env} {s : State} {m : MethodId} {args : Array Value} {below : List Frame} {meth : Method} {c : Code} {D : va_G} {cI cJ : ClassId} {ad : Nat → Nat} {sz : Nat} {r : Int32} {σ' : gSt} (C : gC p s m args meth c D cI cJ ad (gA ad sz) cX4_canSubstitute 4 RX4) (hr : meth.sig.returnType = (some .boolean)) (hl : l.stackTraces = false) (k : Nat) (p1 : Int32) (p2 : Int32) (hk : gIsSide k) (l1 : Int32) (l2 : Int32) (s0 : Int32) (σ : gSt) : gX (F_Side_canSubstitute_B82 k p1 p2 l1 l2 s0 σ) (r, σ') (gG p l e { frames := 3, cells := 0, slots := 0, locals := 64 } s m args below meth c D cI cJ ad (gA ad sz) 4 0 0 (MQ below (va_Qi (fun r1 (_ : Unit) => r1 = r) (fun _ t => va_P D vwCl (gw cI cJ ad σ') t.heap) (gA ad sz)) args s 0 0 (gA ad sz)) σ 82 [(0, .ref (ad k)), (1, .int l1), (2, .int l2)] [.int s0]) := by
  unfold F_Side_canSubstitute_B82
  refine g_istore_n (L' := [(3, .int s0), (0, .ref (ad k)), (1, .int l1), (2, .int l2)]) C dX4_canSubstitute_82 rfl (by decide) rfl ?_
  refine g_iload_n C 0 dX4_canSubstitute_83 rfl rfl ?_
  refine g_if_ne (tgt := 99) C dX4_canSubstitute_84 (by decide) (fun h1 => ?_) (fun h1 => ?_)
  · refine g_aload_n C 1 dX4_canSubstitute_87 rfl rfl ?_
    refine g_getR (o' := (k + 2)) C k 1 gcl4 (gSd hk).1 (by decide) (gSd hk).2.2.1 qw10 dX4_canSubstitute_88 ?_
    refine g_iload_n C 2 dX4_canSubstitute_91 rfl rfl ?_
    refine g_callni (As := [.ref (ad (k + 2)), .int l1]) (n := 2) C (c_Game_valueIn l hl D cI cJ ad (k + 2) l1 (gSd hk).2.2.2.2.2.1) ⟨rfl, rfl⟩ qc3 (hR := ⟨Nat.le_of_ble_eq_true rfl, Nat.le_of_ble_eq_true rfl⟩) rfl rfl (Nat.le_of_ble_eq_true rfl) dX4_canSubstitute_92 ⟨Nat.zero_le _, Nat.zero_le _⟩ (fun r3 σ2 => ?_)
    refine g_iload_n C 3 dX4_canSubstitute_95 rfl rfl ?_
    refine g_icmp_ne (tgt := 103) C dX4_canSubstitute_96 (by decide) (fun h4 => ?_) (fun h4 => ?_)
    · refine g_iconst (v := (1 : Int32)) C dX4_canSubstitute_99 (by decide) ?_
      refine g_goto (tgt := 104) C dX4_canSubstitute_100 (by decide) ?_
      exact g_iretz C (by decide) hr dX4_canSubstitute_104
    · refine g_iconst (v := (0 : Int32)) C dX4_canSubstitute_103 (by decide) ?_
      exact g_iretz C (by decide) hr dX4_canSubstitute_104
  · refine g_iconst (v := (1 : Int32)) C dX4_canSubstitute_99 (by decide) ?_
    refine g_goto (tgt := 104) C dX4_canSubstitute_100 (by decide) ?_
    exact g_iretz C (by decide) hr dX4_canSubstitute_104

set_option maxHeartbeats 4000000 in
set_option maxRecDepth 100000 in
theorem b_Side_canSubstitute_B81 {p : Program} {l : Launch} {e : Env} {s : State} {m : MethodId} {args : Array Value} {below : List Frame} {meth : Method} {c : Code} {D : va_G} {cI cJ : ClassId} {ad : Nat → Nat} {sz : Nat} {r : Int32} {σ' : gSt} (C : gC p s m args meth c D cI cJ ad (gA ad sz) cX4_canSubstitute 4 RX4) (hr : meth.sig.returnType = (some .boolean)) (hl : l.stackTraces = false) (k : Nat) (p1 : Int32) (p2 : Int32) (hk : gIsSide k) (l1 : Int32) (l2 : Int32) (σ : gSt) : gX (F_Side_canSubstitute_B81 k p1 p2 l1 l2 σ) (r, σ') (gG p l e { frames := 3, cells := 0, slots := 0, locals := 64 } s m args below meth c D cI cJ ad (gA ad sz) 4 0 0 (MQ below (va_Qi (fun r1 (_ : Unit) => r1 = r) (fun _ t => va_P D vwCl (gw cI cJ ad σ') t.heap) (gA ad sz)) args s 0 0 (gA ad sz)) σ 81 [(0, .ref (ad k)), (1, .int l1), (2, .int l2)] []) := by
  unfold F_Side_canSubstitute_B81
  refine g_iconst (v := (0 : Int32)) C dX4_canSubstitute_81 (by decide) ?_
  refine g_loc [0, 1, 2] rfl ?_
  exact b_Side_canSubstitute_B82 C hr hl k p1 p2 hk l1 l2 (0 : Int32) σ

set_option maxHeartbeats 4000000 in
set_option maxRecDepth 100000 in
theorem c_Side_canSubstitute (l : Launch) (hl : l.stackTraces = false) (D : va_G) (cI cJ : ClassId) (ad : Nat → Nat) (k : Nat) (p1 : Int32) (p2 : Int32) (hk : gIsSide k) : gMi l D cI cJ ad yX4_canSubstitute cX4_canSubstitute 4 (some .boolean) { frames := 3, cells := 0, slots := 0, locals := 64 } [.ref (ad k), .int p1, .int p2] (F_Side_canSubstitute k p1 p2) := by
  refine gStartI (L0 := [(0, .ref (ad k)), (1, .int p1), (2, .int p2)]) RX4 (by decide) rfl rfl (Nat.le_of_ble_eq_true rfl) ?_
  intro p e s m args below meth c sz σ r σ' C hr
  unfold F_Side_canSubstitute
  refine g_aload_n C 0 dX4_canSubstitute_0 rfl rfl ?_
  refine g_getI C k 7 gcl4 (gSd hk).1 (by decide) ((gSd hk).2.2.2.1 7 (by decide)) qw7 dX4_canSubstitute_1 ?_
  refine g_bipush (v := (6 : Int32)) C dX4_canSubstitute_4 (by decide) ?_
  refine g_icmp_ge (tgt := 33) C dX4_canSubstitute_6 (by decide) (fun h1 => ?_) (fun h1 => ?_)
  · refine g_iconst (v := (0 : Int32)) C dX4_canSubstitute_33 (by decide) ?_
    exact g_iretz C (by decide) hr dX4_canSubstitute_34
  · refine g_iload_n C 1 dX4_canSubstitute_9 rfl rfl ?_
    refine g_aload_n C 0 dX4_canSubstitute_10 rfl rfl ?_
    refine g_getI C k 2 gcl4 (gSd hk).1 (by decide) ((gSd hk).2.2.2.1 2 (by decide)) qw47 dX4_canSubstitute_11 ?_
    refine g_icmp_eq (tgt := 33) C dX4_canSubstitute_14 (by decide) (fun h2 => ?_) (fun h2 => ?_)
    · refine g_iconst (v := (0 : Int32)) C dX4_canSubstitute_33 (by decide) ?_
      exact g_iretz C (by decide) hr dX4_canSubstitute_34
    · refine g_iload_n C 2 dX4_canSubstitute_17 rfl rfl ?_
      refine g_aload_n C 0 dX4_canSubstitute_18 rfl rfl ?_
      refine g_getI C k 2 gcl4 (gSd hk).1 (by decide) ((gSd hk).2.2.2.1 2 (by decide)) qw47 dX4_canSubstitute_19 ?_
      refine g_icmp_eq (tgt := 33) C dX4_canSubstitute_22 (by decide) (fun h3 => ?_) (fun h3 => ?_)
      · refine g_iconst (v := (0 : Int32)) C dX4_canSubstitute_33 (by decide) ?_
        exact g_iretz C (by decide) hr dX4_canSubstitute_34
      · refine g_iload_n C 2 dX4_canSubstitute_25 rfl rfl ?_
        refine g_aload_n C 0 dX4_canSubstitute_26 rfl rfl ?_
        refine g_getI C k 3 gcl4 (gSd hk).1 (by decide) ((gSd hk).2.2.2.1 3 (by decide)) qw37 dX4_canSubstitute_27 ?_
        refine g_icmp_ne (tgt := 35) C dX4_canSubstitute_30 (by decide) (fun h4 => ?_) (fun h4 => ?_)
        · refine g_iconst (v := (0 : Int32)) C dX4_canSubstitute_33 (by decide) ?_
          exact g_iretz C (by decide) hr dX4_canSubstitute_34
        · refine g_aload_n C 0 dX4_canSubstitute_35 rfl rfl ?_
          refine g_iload_n C 1 dX4_canSubstitute_36 rfl rfl ?_
          refine g_callvi (As := [.int p1]) (n := 1) C (c_Side_placeOf l hl D cI cJ ad k p1 hk) ⟨rfl, rfl⟩ gcl4 (gSd hk).1 qc21 (hR := ⟨Nat.le_of_ble_eq_true rfl, Nat.le_of_ble_eq_true rfl⟩) rfl rfl (Nat.le_of_ble_eq_true rfl) dX4_canSubstitute_37 ⟨Nat.zero_le _, Nat.zero_le _⟩ (fun r6 σ5 => ?_)
          refine g_iconst (v := (-1 : Int32)) C dX4_canSubstitute_40 (by decide) ?_
          refine g_icmp_eq (tgt := 53) C dX4_canSubstitute_41 (by decide) (fun h7 => ?_) (fun h7 => ?_)
          · refine g_iconst (v := (0 : Int32)) C dX4_canSubstitute_53 (by decide) ?_
            exact g_iretz C (by decide) hr dX4_canSubstitute_54
          · refine g_aload_n C 0 dX4_canSubstitute_44 rfl rfl ?_
            refine g_iload_n C 2 dX4_canSubstitute_45 rfl rfl ?_
            refine g_callvi (As := [.int p2]) (n := 1) C (c_Side_placeOf l hl D cI cJ ad k p2 hk) ⟨rfl, rfl⟩ gcl4 (gSd hk).1 qc21 (hR := ⟨Nat.le_of_ble_eq_true rfl, Nat.le_of_ble_eq_true rfl⟩) rfl rfl (Nat.le_of_ble_eq_true rfl) dX4_canSubstitute_46 ⟨Nat.zero_le _, Nat.zero_le _⟩ (fun r9 σ8 => ?_)
            refine g_iconst (v := (-1 : Int32)) C dX4_canSubstitute_49 (by decide) ?_
            refine g_icmp_eq (tgt := 55) C dX4_canSubstitute_50 (by decide) (fun h10 => ?_) (fun h10 => ?_)
            · refine g_aload_n C 0 dX4_canSubstitute_55 rfl rfl ?_
              refine g_getR (o' := (k + 2)) C k 1 gcl4 (gSd hk).1 (by decide) (gSd hk).2.2.1 qw10 dX4_canSubstitute_56 ?_
              refine g_iload_n C 1 dX4_canSubstitute_59 rfl rfl ?_
              refine g_callni (As := [.ref (ad (k + 2)), .int p1]) (n := 2) C (c_Game_valueIn l hl D cI cJ ad (k + 2) p1 (gSd hk).2.2.2.2.2.1) ⟨rfl, rfl⟩ qc3 (hR := ⟨Nat.le_of_ble_eq_true rfl, Nat.le_of_ble_eq_true rfl⟩) rfl rfl (Nat.le_of_ble_eq_true rfl) dX4_canSubstitute_60 ⟨Nat.zero_le _, Nat.zero_le _⟩ (fun r12 σ11 => ?_)
              refine g_if_ne (tgt := 81) C dX4_canSubstitute_63 (by decide) (fun h13 => ?_) (fun h13 => ?_)
              · refine g_aload_n C 0 dX4_canSubstitute_66 rfl rfl ?_
                refine g_getR (o' := (k + 2)) C k 1 gcl4 (gSd hk).1 (by decide) (gSd hk).2.2.1 qw10 dX4_canSubstitute_67 ?_
                refine g_iload_n C 2 dX4_canSubstitute_70 rfl rfl ?_
                refine g_callni (As := [.ref (ad (k + 2)), .int p2]) (n := 2) C (c_Game_valueIn l hl D cI cJ ad (k + 2) p2 (gSd hk).2.2.2.2.2.1) ⟨rfl, rfl⟩ qc3 (hR := ⟨Nat.le_of_ble_eq_true rfl, Nat.le_of_ble_eq_true rfl⟩) rfl rfl (Nat.le_of_ble_eq_true rfl) dX4_canSubstitute_71 ⟨Nat.zero_le _, Nat.zero_le _⟩ (fun r15 σ14 => ?_)
                refine g_if_ne (tgt := 81) C dX4_canSubstitute_74 (by decide) (fun h16 => ?_) (fun h16 => ?_)
                · refine g_iconst (v := (1 : Int32)) C dX4_canSubstitute_77 (by decide) ?_
                  refine g_goto (tgt := 82) C dX4_canSubstitute_78 (by decide) ?_
                  refine g_loc [0, 1, 2] rfl ?_
                  exact b_Side_canSubstitute_B82 C hr hl k p1 p2 hk p1 p2 (1 : Int32) σ14
                · refine g_loc [0, 1, 2] rfl ?_
                  exact b_Side_canSubstitute_B81 C hr hl k p1 p2 hk p1 p2 σ14
              · refine g_loc [0, 1, 2] rfl ?_
                exact b_Side_canSubstitute_B81 C hr hl k p1 p2 hk p1 p2 σ11
            · refine g_iconst (v := (0 : Int32)) C dX4_canSubstitute_53 (by decide) ?_
              exact g_iretz C (by decide) hr dX4_canSubstitute_54
end
