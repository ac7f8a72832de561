/-! a method that throws costs its cell only where it throws: vz_ is vx_ (exceptions that leave a method) with no new cell on the way that returns; vz_back, vz_runV, vz_runS, vz_ofW follow vx_back, vx_runV, vx_runS, vx_ofW -/
section VZ
def vz_Q (Qc : Array Value → State → Outcome → State → Prop) (XC : String → State → State → Prop) (mc ms : Nat) (free : Addr → Prop) : Array Value → State → Outcome → State → Prop := fun a st o t =>
  (Qc a st o t ∧ ∃ L, FrameEnd st o t L 0 0 ∧ ∀ q ∈ L, free q.base) ∨ ∃ q, o = .threw q ∧ vx_T XC st q t mc ms free
def vz_Met (l : Launch) (y : MethodName) (ws : List Cond) (rm : Room) (Pc : Array Value → State → Prop) (Qc : Array Value → State → Outcome → State → Prop) (XC : String → State → State → Prop) (mc ms : Nat) (free : Addr → Prop) : Prop :=
  MetFree l y (headSpec ws rm) Pc (fun _ _ _ _ _ => True) (vz_Q Qc XC mc ms free)
section PayerZ
variable {l : Launch} {R : Room} {p : Program} {e : Env} {below : List Frame} {s : State} {sargs : Array Value} {y : MethodName} {len W9 : Nat}
theorem vz_back {ws : List Cond} {rm : Room} {Pc : Array Value → State → Prop} {Qc : Array Value → State → Outcome → State → Prop} {XC : String → State → State → Prop} {mc ms : Nat} {free : Addr → Prop} {bytes : ByteArray} {maxL : Nat} {ret : Option FieldType}
    (hM : vz_Met l y ws rm Pc Qc XC mc ms free) (hblind : FrameBlind Pc) (hrc : rm.cells = mc) (hrs : rm.slots = ms)
    (hframes : rm.frames + 1 ≤ R.frames) (hlocals : W9 + (maxL + 11) + rm.locals ≤ R.locals)
    (hws : ∀ w ∈ ws, ∀ a' U, s.WarmedH U.vm → w.before a' U = true) (hcode : Cond.code y bytes maxL ret ∈ ws) (hinit : ∀ a' U, s.WarmedH U.vm → (Cond.initialized y.cls).before a' U = true) :
    vx_Back l R p e below s sargs y len W9 (PreOf R mc ms Pc) (PostOf Qc 0 0 free) (vx_Post XC mc ms free) := by
  intro m meth c A g ig mk a X hg hsize hdg hW hn hp
  have h1 : (headSpec ws rm).pre.before a A.U = true := atoms_intro fun w hw => hws w hw _ _ X.warmed
  have h2 : (Cond.code y bytes maxL ret).before a A.U = true := hws _ hcode _ _ X.warmed
  have h3 : (Cond.initialized y.cls).before a A.U = true := hinit _ _ X.warmed
  have h4 : A.cells + (headSpec ws rm).room.cells ≤ R.cells := by rw [show (headSpec ws rm).room.cells = mc from hrc]; exact hp.1
  have h5 : A.slots + (headSpec ws rm).room.slots ≤ R.slots := by rw [show (headSpec ws rm).room.slots = ms from hrs]; exact hp.2.1
  have hPc : Pc a (A.U.calling g mk a) := hblind _ _ _ _ hp.2.2
  obtain ⟨U, Ls, c0, s0⟩ := A
  dsimp only [Pt.U, Pt.locs, Pt.cells, Pt.slots] at h1 h2 h3 h4 h5 X hn hPc ⊢
  obtain ⟨methY, cY, hmY, hcY, -, hlY, -, -, -, -⟩ := Cond.code_spec hn h2
  obtain ⟨kY, hkY, -⟩ := className_of_methodNamed hn
  have hinitY : kY.init = .initialized := Cond.initialized_spec (findClass_of_methodNamed hn) hkY h3
  have h : At U g.method c below := by rw [hg]; exact X.here
  have hlocals9 : W9 + (maxL + 11) + (headSpec ws rm).room.locals ≤ R.locals := hlocals
  have happ : (headSpec ws rm).appliesLoose y e.platform (U.calling g mk a) = true :=
    Spec.appliesLoose_calling (g := g) h hdg hn hkY hinitY
      (X.room_calling (g := g) (R' := (headSpec ws rm).room) hsize hmY hcY hframes (by rw [hlY]; omega) h4 h5) h1
  obtain ⟨mid, hmid⟩ := h.above
  have hfr : (U.setTop g).frames = (.java g :: mid) ++ below := by rw [State.frames_setTop' g h.top, hmid]; rfl
  obtain ⟨o, s₂, hsteps, -, hend, hq⟩ := Steps.callFree hM p X.admits X.cas X.clock (acts := []) hfr happ hPc trivial
  have hq' : vz_Q Qc XC mc ms free a (U.calling g mk a) o s₂ := hq
  rw [State.frames_setTop' g h.top] at hend
  obtain ⟨g₀, hg0⟩ := Option.isSome_iff_exists.mp h.top
  obtain ⟨r, hr⟩ := State.topJava?_eq_some.mp hg0
  have hr' : (({ U with heap := s₂.heap, slotsUsed := s₂.slotsUsed } : State).setVm s₂.vm).frames = .java g₀ :: r := hr
  rcases hq' with ⟨hqc, L, hfe, hL⟩ | ⟨q, rfl, E, ce, L, hx, hce, hcv, hcl, hW₂, hsm, hL⟩
  · obtain ⟨⟨v, rfl⟩, hW₂, e2, q2, q3, q4, q5, q6⟩ := id hfe
    have e3 : s₂ = ({ (U.calling g mk a).setFrames s₂.frames with heap := s₂.heap, slotsUsed := s₂.slotsUsed } : State).setVm s₂.vm := by
      have : s₂ = ({ s₂ with vm := (U.calling g mk a).vm } : State).setVm s₂.vm := rfl
      rw [e2] at this
      exact this
    obtain ⟨c₂, i₂, len₂, hc₂, hd₂, hf₂⟩ := hend
    have hW' : U.WarmedH s₂.vm := hW₂
    have hcc : c₂ = c := by
      have h1 : s₂.code? g.method = U.code? g.method := by
        rw [State.code?_eq, State.code?_eq, hW'.alike.method?]
      exact Option.some.inj (hc₂.symm.trans (h1.trans h.code))
    subst hcc
    have hlen : len₂ = len := by rw [hdg] at hd₂; cases hd₂; rfl
    subst hlen
    have hs₂ : s₂ = (({ U with heap := s₂.heap, slotsUsed := s₂.slotsUsed } : State).setVm s₂.vm).setTop { g with pc := g.pc + len₂, stack := v.toList ++ g.stack } := by
      refine e3.trans ?_
      rw [hf₂, State.calling_eq h.top, State.setFrames_setFrames, State.setTop_of_frames _ hr', hr]
      rfl
    have hsame : U.sameButNew ({ U with heap := s₂.heap, slotsUsed := s₂.slotsUsed } : State) L 0 0 := by
      refine ⟨?_, q2, q3, q4, q5, q6⟩
      obtain ⟨t, ht, -⟩ := State.frames_cons hr
      show ({ U with heap := s₂.heap, slotsUsed := s₂.slotsUsed } : State) = { U.setFrames U.frames with heap := s₂.heap, slotsUsed := s₂.slotsUsed }
      rw [State.setFrames_self ht]
    subst hg
    refine Or.inl ⟨v, ⟨(({ U with heap := s₂.heap, slotsUsed := s₂.slotsUsed } : State).setVm s₂.vm), Ls ++ L, c0 + 0, s0 + 0⟩,
      ⟨X.admits, X.cas, X.clock, X.frames, X.room, X.hears, X.method, X.code, (X.here.setHeapUsed s₂.heap s₂.slotsUsed).setVm hW'.alike, X.tail, State.WarmedH.trans X.warmed hW', X.limits, X.bytes, X.same.trans (hsame.setVm s.vm)⟩,
      ⟨g, mk, s₂, L, rfl, rfl, hqc, rfl, hL, rfl, rfl⟩, ?_⟩
    show Steps p.tables e below _ ((({ U with heap := s₂.heap, slotsUsed := s₂.slotsUsed } : State).setVm s₂.vm).setTop { g with pc := g.pc + len₂, stack := v.toList ++ g.stack })
    rw [← hs₂]
    exact hsteps
  · obtain ⟨e2, q2, q3, q4, q5, q6⟩ := id hsm
    have e3 : s₂ = ({ (U.calling g mk a).setFrames s₂.frames with heap := s₂.heap, slotsUsed := s₂.slotsUsed } : State).setVm s₂.vm := by
      have : s₂ = ({ s₂ with vm := (U.calling g mk a).vm } : State).setVm s₂.vm := rfl
      rw [e2] at this
      exact this
    have hf₂ : s₂.frames = .throwing q :: .java g :: U.frames.tail := hend
    have hW' : U.WarmedH s₂.vm := hW₂
    have hs₂ : s₂ = ((({ U with heap := s₂.heap, slotsUsed := s₂.slotsUsed } : State).setVm s₂.vm).setTop g).pushFrame (.throwing q) := by
      refine e3.trans ?_
      rw [hf₂, State.calling_eq h.top, State.setFrames_setFrames, State.pushFrame, State.frames_setTop _ hr', State.setTop_of_frames _ hr', State.setFrames_setFrames, hr]
      rfl
    have hsame : U.sameButNew ({ U with heap := s₂.heap, slotsUsed := s₂.slotsUsed } : State) L mc ms := by
      refine ⟨?_, q2, q3, q4, q5, q6⟩
      obtain ⟨t, ht, -⟩ := State.frames_cons hr
      show ({ U with heap := s₂.heap, slotsUsed := s₂.slotsUsed } : State) = { U.setFrames U.frames with heap := s₂.heap, slotsUsed := s₂.slotsUsed }
      rw [State.setFrames_self ht]
    subst hg
    refine Or.inr ⟨q, ⟨(({ U with heap := s₂.heap, slotsUsed := s₂.slotsUsed } : State).setVm s₂.vm), Ls ++ L, c0 + mc, s0 + ms⟩,
      ⟨X.admits, X.cas, X.clock, X.frames, X.room, X.hears, X.method, X.code, (X.here.setHeapUsed s₂.heap s₂.slotsUsed).setVm hW'.alike, X.tail, State.WarmedH.trans X.warmed hW', X.limits, X.bytes, X.same.trans (hsame.setVm s.vm)⟩,
      ⟨g, mk, s₂, L, E, ce, rfl, rfl, hx, hce, hcv, hcl, rfl, hL, rfl, rfl⟩, ?_⟩
    show Steps p.tables e below _ (((({ U with heap := s₂.heap, slotsUsed := s₂.slotsUsed } : State).setVm s₂.vm).setTop g).pushFrame (.throwing q))
    rw [← hs₂]
    exact hsteps
end PayerZ
def vz_Run (p : Program) (l : Launch) (e : Env) (R : Room) (s : State) (m : MethodId) (args : Array Value) (below : List Frame) (meth : Method) (c : Code) (H : Heap) (locs : List Loc) (cells slots mc ms : Nat) (g : JFrame) (rest : List Value) (Qa : State → Outcome → State → Prop) (XC : String → State → State → Prop) (free : Addr → Prop) : Prop :=
  ∀ T : State, T.heap = H → Stand p l e R s m args below meth c T locs cells slots →
    (∃ (v : Option Value) (st₀ t T' : State) (L : List Loc), st₀.heap = H ∧ Stand p l e R s m args below meth c T' (locs ++ L) cells slots ∧ (∀ q ∈ L, free q.base) ∧ T'.heap = t.heap ∧ T'.vm = t.vm ∧ Qa st₀ (.returned v) t ∧
      Goes p e below T g T' { g with pc := g.pc + 3, stack := v.toList ++ rest }) ∨
    (∃ (q : Addr) (st₀ t T' : State) (L : List Loc) (E : String) (ce : Cell), st₀.heap = H ∧ Stand p l e R s m args below meth c T' (locs ++ L) (cells + mc) (slots + ms) ∧ (∀ z ∈ L, free z.base) ∧ T'.heap = t.heap ∧ T'.vm = t.vm ∧ XC E st₀ t ∧ t.heap[q]? = some ce ∧ ce.vm = .none ∧ s.vm.findClass E = some ce.cls ∧
      Steps p.tables e below (T.setTop g) ((T'.setTop { g with stack := rest }).pushFrame (.throwing q)))
section RunsZ
variable {p : Program} {l : Launch} {e : Env} {R : Room} {s : State} {m : MethodId} {args : Array Value} {below : List Frame} {meth : Method} {c : Code} {H : Heap} {locs : List Loc} {cells slots : Nat}
variable {y : MethodName} {bytes cc : ByteArray} {maxL nL mc ms n index : Nat} {ret : Option FieldType} {ws : List Cond} {rm : Room} {Pc : Array Value → State → Prop} {Qc : Array Value → State → Outcome → State → Prop} {XC : String → State → State → Prop} {free : Addr → Prop} {Ts : List Cond} {own C : String} {b : Addr} {As rest : List Value} {g : JFrame}
theorem vz_callBack (cb : CallB R s args own index y bytes maxL ret ws rm mc ms n) (hM : vz_Met l y ws rm Pc Qc XC mc ms free) (hbl : FrameBlind Pc) : vx_Back l R p e below s args y 3 8 (PreOf R mc ms Pc) (PostOf Qc 0 0 free) (vx_Post XC mc ms free) := by
  obtain ⟨hrc, hrs, hfr, hlo, hws, hcw, -, hini, -⟩ := cb
  exact vz_back (bytes := bytes) (maxL := maxL) (ret := ret) hM hbl hrc hrs hfr hlo hws hcw (fun a' U hW => word_at hW (Or.inl (by first | rfl | simp [Cond.onTables, Cond.keeps, Cond.steady])) hini)
theorem vz_runV (S : CallFix p m c cc nL s args Ts own) (hM : vz_Met l y ws rm Pc Qc XC mc ms free) (cw : CallW R s args own C index y bytes maxL ret ws rm mc ms n) (hp : PreV s H C b Pc As)
    (hg : g.method = m) (hn : As.length = n) (hsize : g.locals.size = nL) (hstack : g.stack = As.reverse ++ .ref b :: rest) (hW : 2 * g.monitorRoom + (rest.map fun v => v.category).sum ≤ 8) (hdg : decode cc g.pc = .ok (.invokevirtual index, 3)) (hf : cells + mc ≤ R.cells ∧ slots + ms ≤ R.slots) :
    vz_Run p l e R s m args below meth c H locs cells slots mc ms g rest (Qc (Value.ref b :: As).toArray) XC free := by
  have hK : vx_Back l R p e below s args y 3 8 (PreOf R mc ms Pc) (PostOf Qc 0 0 free) (vx_Post XC mc ms free) := vz_callBack cw.1 hM hp.1
  obtain ⟨⟨-, -, -, -, -, -, hcode, -, hy, hlen, hl⟩, hin, hse⟩ := cw
  obtain ⟨hx, hb, hml, ho, -⟩ := S
  obtain ⟨-, ⟨cellB, hcB, hoB, hclB⟩, hPc⟩ := hp
  intro T hT X
  rcases vx_callV X hx (C := C) (bytes := bytes) (maxL := maxL) (ret := ret) ho hl hin hse hcode hy hK (by rw [hT]; exact hcB) hoB hclB hg (hsize.trans hml.symm) (argsL := As) (rest := rest) (fun sig h => hn.trans (hlen sig h)) hstack hW (by rw [hb]; exact hdg)
    (fun vm₁ hW₁ => ⟨hf.1, hf.2, hPc (T.setVm vm₁) hT hW₁⟩) with ⟨v, vm₁, ⟨U', l2, c2, s2⟩, hW₁, X', ⟨g', mk, t, L, e1, e2, hq, h1, hL, h2, h3⟩, st⟩ | ⟨q, vm₁, ⟨U', l2, c2, s2⟩, hW₁, X', ⟨g', mk, t, L, E, ce, e1, e2, hq, hce, hcv, hcl, h1, hL, h2, h3⟩, st⟩
  · dsimp only [Pt.U, Pt.locs, Pt.cells, Pt.slots] at X' e1 e2 h1 h2 h3 st
    subst h1; subst h2; subst h3
    exact Or.inl ⟨v, (T.setVm vm₁).calling g' mk (Value.ref b :: As).toArray, t, U', L, hT, X', hL, e1, e2, hq, st⟩
  · dsimp only [Pt.U, Pt.locs, Pt.cells, Pt.slots] at X' e1 e2 h1 h2 h3 st hcl
    subst h1; subst h2; subst h3
    exact Or.inr ⟨q, (T.setVm vm₁).calling g' mk (Value.ref b :: As).toArray, t, U', L, E, ce, hT, X', hL, e1, e2, hq, hce, hcv, vx_cls hW₁ hcl, st⟩
theorem vz_runS (S : CallFix p m c cc nL s args Ts own) (hM : vz_Met l y ws rm Pc Qc XC mc ms free) (cw : CallB R s args own index y bytes maxL ret ws rm mc ms n ∧ (Cond.static y).before args s = true) (hp : PreS s H Pc As)
    (hg : g.method = m) (hn : As.length = n) (hsize : g.locals.size = nL) (hstack : g.stack = As.reverse ++ rest) (hW : 2 * g.monitorRoom + (rest.map fun v => v.category).sum ≤ 8) (hdg : decode cc g.pc = .ok (.invokestatic index, 3)) (hf : cells + mc ≤ R.cells ∧ slots + ms ≤ R.slots) :
    vz_Run p l e R s m args below meth c H locs cells slots mc ms g rest (Qc As.toArray) XC free := by
  have hK : vx_Back l R p e below s args y 3 8 (PreOf R mc ms Pc) (PostOf Qc 0 0 free) (vx_Post XC mc ms free) := vz_callBack cw.1 hM hp.1
  obtain ⟨⟨-, -, -, -, -, -, hcode, hini, hy, hlen, hl⟩, hstt⟩ := cw
  obtain ⟨hx, hb, hml, ho, -⟩ := S
  intro T hT X
  rcases vx_callS X hx (bytes := bytes) (maxL := maxL) (ret := ret) ho hl hstt hini hcode hy hK hg (hsize.trans hml.symm) (argsL := As) (rest := rest) (fun sig h => hn.trans (hlen sig h)) hstack hW (by rw [hb]; exact hdg)
    (fun vm₁ hW₁ => ⟨hf.1, hf.2, hp.2 (T.setVm vm₁) hT hW₁⟩) with ⟨v, vm₁, ⟨U', l2, c2, s2⟩, hW₁, X', ⟨g', mk, t, L, e1, e2, hq, h1, hL, h2, h3⟩, st⟩ | ⟨q, vm₁, ⟨U', l2, c2, s2⟩, hW₁, X', ⟨g', mk, t, L, E, ce, e1, e2, hq, hce, hcv, hcl, h1, hL, h2, h3⟩, st⟩
  · dsimp only [Pt.U, Pt.locs, Pt.cells, Pt.slots] at X' e1 e2 h1 h2 h3 st
    subst h1; subst h2; subst h3
    exact Or.inl ⟨v, (T.setVm vm₁).calling g' mk As.toArray, t, U', L, hT, X', hL, e1, e2, hq, st⟩
  · dsimp only [Pt.U, Pt.locs, Pt.cells, Pt.slots] at X' e1 e2 h1 h2 h3 st hcl
    subst h1; subst h2; subst h3
    exact Or.inr ⟨q, (T.setVm vm₁).calling g' mk As.toArray, t, U', L, E, ce, hT, X', hL, e1, e2, hq, hce, hcv, vx_cls hW₁ hcl, st⟩
end RunsZ
section EndsZ
variable {p : Program} {l : Launch} {e : Env} {R : Room} {s : State} {m : MethodId} {args : Array Value} {below : List Frame} {meth : Method} {c : Code} {H : Heap} {locs : List Loc} {cells slots : Nat} {Q : State → Prop}
variable {mc ms : Nat} {free : Addr → Prop} {ls : Array Slot} {st0 rest : List Value}
variable {Qc : Array Value → State → Outcome → State → Prop} {XC : String → State → State → Prop}
def vz_MQ (below : List Frame) (Qc : Array Value → State → Outcome → State → Prop) (XC : String → State → State → Prop) (a : Array Value) (s : State) (mc ms : Nat) (free : Addr → Prop) : State → Prop := fun t =>
  ∃ o, t.status = .running ∧ Ended t below o ∧ vz_Q Qc XC mc ms free a s o t
theorem vz_ret {g : JFrame} {mc ms : Nat} (k : W p l e R s m args below meth c H locs cells slots (MQ below Qc args s 0 0 free) g) : W p l e R s m args below meth c H locs cells slots (vz_MQ below Qc XC args s mc ms free) g := by
  intro T hT X
  obtain ⟨t, a1, o, b1, b2, b3, b4⟩ := k T hT X
  exact ⟨t, a1, o, b1, b2, Or.inl ⟨b3, b4⟩⟩
theorem vz_thr {g : JFrame} {mc ms : Nat} (k : W p l e R s m args below meth c H locs cells slots (vx_MQ below (fun _ _ _ _ => False) XC args s mc ms free) g) : W p l e R s m args below meth c H locs cells slots (vz_MQ below Qc XC args s mc ms free) g := by
  intro T hT X
  obtain ⟨t, a1, o, b1, b2, b3⟩ := k T hT X
  refine ⟨t, a1, o, b1, b2, Or.inr ?_⟩
  rcases b3 with b3 | b3
  · exact b3.1.elim
  · exact b3
end EndsZ
section BodiesZ
variable {l : Launch}
theorem vz_ofW {y : MethodName} {ws ws' : List Cond} {rm : Room} {Pc : Array Value → State → Prop} {Qc : Array Value → State → Outcome → State → Prop} {XC : String → State → State → Prop} {mc ms : Nat} {free : Addr → Prop} {cc : ByteArray} {maxL : Nat} {ret : Option FieldType}
    (hy : plainName y.cls = true) (hw : ws = Cond.code y cc maxL ret :: ws')
    (body : ∀ p e s m args below meth c s₁, BodyLoose p l y (headSpec ws rm) cc maxL ret e s m args below meth c s₁ → c.maxLocals = maxL → (∀ x ∈ c.exceptionTable.toList, False) → Pc args s →
      W p l e (headSpec ws rm).room s m args below meth c s.heap [] 0 0 (vz_MQ below Qc XC args s mc ms free) (entryFrame m args maxL)) : vz_Met l y ws rm Pc Qc XC mc ms free := by
  refine MetFree.of_bodyS (code := cc) (maxLocals := maxL) (ret := ret) hy ?_ ?_
  · intro args s m h hn
    obtain ⟨meth, c, h1, h2, h3, h4, h5, h6, -, -⟩ := Cond.code_spec hn (atoms_spec (ws := ws) h _ (by rw [hw]; exact List.mem_cons_self))
    exact ⟨meth, c, h1, h2, h3, h4, h5, h6⟩
  · intro p e s m args below meth c s₁ B hml hP _
    have hh0 : s₁.heap = s.heap := by rw [B.state]; rfl
    have ht : ∀ x ∈ c.exceptionTable.toList, False := by
      obtain ⟨meth9, c9, h1, h2, -, -, -, -, h7, -⟩ := Cond.code_spec B.named (atoms_spec (ws := ws) B.pre _ (by rw [hw]; exact List.mem_cons_self))
      cases Option.some.inj (h1.symm.trans B.method)
      cases Option.some.inj (h2.symm.trans (Stand.of_body B).code)
      intro x hx
      rw [Array.isEmpty_iff.mp h7] at hx
      cases hx
    obtain ⟨t, a1, o, b1, b2, b3⟩ := body p e s m args below meth c s₁ B hml ht hP s₁ hh0 (Stand.of_body B)
    exact ⟨t, o, a1, b1, b2, b3⟩end BodiesZ
end VZ
/-! methods that throw: the answer is (0, value, world) or (number of the exception, 0, world) -/
def gEx (k : Int32) : String := if k = 1 then "java/lang/IndexOutOfBoundsException" else if k = 2 then "java/lang/IllegalArgumentException" else "java/lang/IllegalStateException"
abbrev gXC (D : va_G) (cI cJ : ClassId) (ad : Nat → Nat) (lo : Nat) (A : Nat → Prop) (q : Int32 × Int32 × gSt) : String → State → State → Prop := vx_X (fun (_ : Unit) => q.1 ≠ 0) (fun E _ t => E = gEx q.1 ∧ lo < t.heap.size ∧ va_P D vwCl (gw cI cJ ad q.2.2) t.heap) A
abbrev gQi (D : va_G) (cI cJ : ClassId) (ad : Nat → Nat) (A : Nat → Prop) (q : Int32 × Int32 × gSt) : Array Value → State → Outcome → State → Prop := va_Qi (fun r1 (_ : Unit) => q.1 = 0 ∧ r1 = q.2.1) (fun _ t => va_P D vwCl (gw cI cJ ad q.2.2) t.heap) A
abbrev gQv (D : va_G) (cI cJ : ClassId) (ad : Nat → Nat) (A : Nat → Prop) (q : Int32 × Int32 × gSt) : Array Value → State → Outcome → State → Prop := va_Qv (fun (_ : Unit) => q.1 = 0) (fun _ t => va_P D vwCl (gw cI cJ ad q.2.2) t.heap) A
def gMxi (l : Launch) (D : va_G) (cI cJ : ClassId) (ad : Nat → Nat) (y : MethodName) (yb : ByteArray) (yn : Nat) (yret : Option FieldType) (rm : Room) (av : List Value) (F : gSt → Option (Int32 × Int32 × gSt)) : Prop :=
  ∀ (σ : gSt) (q : Int32 × Int32 × gSt) (sz : Nat), F σ = some q → vz_Met l y (.code y yb yn yret :: gT) rm (va_Pc av (gPre D cI cJ ad σ sz)) (gQi D cI cJ ad (gA ad sz) q) (gXC D cI cJ ad sz (gA ad sz) q) 1 6 (gA ad sz)
def gMxv (l : Launch) (D : va_G) (cI cJ : ClassId) (ad : Nat → Nat) (y : MethodName) (yb : ByteArray) (yn : Nat) (yret : Option FieldType) (rm : Room) (av : List Value) (F : gSt → Option (Int32 × Int32 × gSt)) : Prop :=
  ∀ (σ : gSt) (q : Int32 × Int32 × gSt) (sz : Nat), F σ = some q → vz_Met l y (.code y yb yn yret :: gT) rm (va_Pc av (gPre D cI cJ ad σ sz)) (gQv D cI cJ ad (gA ad sz) q) (gXC D cI cJ ad sz (gA ad sz) q) 1 6 (gA ad sz)
/-- a call of a method that throws, in one that lets it go on -/
def gbx (X0 : Option (Int32 × Int32 × gSt)) (K : gSt → Option (Int32 × Int32 × gSt)) : Option (Int32 × Int32 × gSt) := match X0 with
  | none => none
  | some q => if q.1 = 0 then K q.2.2 else some (q.1, 0, q.2.2)
section GT
variable {p : Program} {l : Launch} {e : Env} {R : Room} {s : State} {m : MethodId} {args : Array Value} {below : List Frame} {meth : Method} {c : Code} {D : va_G} {cI cJ : ClassId} {ad : Nat → Nat} {A : Nat → Prop} {cc : ByteArray} {nL : Nat} {own : String} {cells slots : Nat} {Q : State → Prop} {σ : gSt} {pc : Nat} {L L' : List (Nat × Value)} {st : List Value}
theorem gP_kept {H H1 : Heap} {ws : va_W} (hP : va_P D vwCl ws H) (h : ∀ q : Nat, q < H.size → H1[q]? = H[q]?) : va_P D vwCl ws H1 := fun k q hq => (hP k q hq).kept (h q.1 (hP k q hq).lt)
theorem g_throw {Qc : Array Value → State → Outcome → State → Prop} {q : Int32 × Int32 × gSt} (C : gC p s m args meth c D cI cJ ad A cc nL own) (hl : l.stackTraces = false) (hnt : ∀ x ∈ c.exceptionTable.toList, False) {cls text : String} {names : List String} {ik is ic : Nat} (k : Int32) (hk0 : k ≠ 0) (hE : gEx k = cls)
    (hcls : Bundle.fit cls = true) (hnames : ∀ n ∈ names, Bundle.fit n = true) (hk : Cond.classLink own ik cls ∈ gT) (hini : Cond.initialized cls ∈ gT) (hstr : (own, is, text) ∈ gStr) (hat : ∀ w ∈ vx_atS own ic cls names, w ∈ gT ∨ w ∈ gNest)
    (d0 : decode cc pc = .ok (.new ik, 3)) (d3 : decode cc (pc + 3) = .ok (.dup, 1)) (d4 : decode cc (pc + 4) = .ok (.ldc is, 2)) (d6 : decode cc (pc + 6) = .ok (.invokespecial ic, 3)) (d9 : decode cc (pc + 9) = .ok (.athrow, 1))
    (hR1 : names.length + 3 < R.frames) (hR2 : (st.map fun v => v.category).sum + (13 * (names.length + 1) + 43) ≤ R.locals) (hR3 : 1 ≤ R.cells ∧ 6 ≤ R.slots) :
    gX (some (k, 0, σ)) q (gG p l e R s m args below meth c D cI cJ ad A nL 0 0 (vz_MQ below Qc (gXC D cI cJ ad s.heap.size A q) args s 1 6 A) σ pc L st) := by
  intro hX H locs ls hls hP hS
  cases hX
  obtain ⟨hx, hb, hml, hown, hts, hK, hA, hA2, hi, hB, hZ, hlk⟩ := C
  have hn : ∀ w, w ∈ gT ∨ w ∈ gNest → w.before args s = true := fun w h => h.elim (hts w) (fun h2 => va_Nw.use (gNest_tab w h2) (gB_nest hB h2))
  have ho : ∀ w, w ∈ gT ∨ w ∈ gNest → vx_ot w = true := fun w h => by
    unfold vx_ot
    rcases h with h | h
    · rw [gT_good h, Bool.or_true]
    · rw [gNest_tab w h, Bool.true_or]
  obtain ⟨sa, hsa⟩ := hB.2.2 _ hstr
  refine vz_thr ?_
  refine vx_throwS hx hb hl hown hcls hnames (hts _ hk) (hts _ hini) hsa (fun w hw => hn w (hat w hw)) (fun w hw => ?_) hZ.1 hZ.2 hS (hls.1.trans hml.symm) d0 d3 d4 d6 d9 (fun x hx => (hnt x hx).elim) hR1 hR2 (by omega) (by omega) hlk (fun t hvm hsz hh => ⟨(), hk0, ⟨hE.symm, Nat.lt_of_le_of_lt hS.1 hsz, gP_kept hP hh⟩, ?_⟩) hS.2.2 (Nat.le_refl _) (Nat.le_refl _)
  · rcases List.mem_cons.mp hw with rfl | hw
    · exact ho _ (Or.inl hk)
    · rcases List.mem_cons.mp hw with rfl | hw
      · exact ho _ (Or.inl hini)
      · exact ho w (hat w hw)
  · exact ⟨Nat.le_trans hS.1 (Nat.le_of_lt hsz), fun q h1 h2 => by rw [hh q (Nat.lt_of_lt_of_le h1 hS.1)]; exact hS.2.1 q h1 h2⟩
theorem g_xireti {q : Int32 × Int32 × gSt} (C : gC p s m args meth c D cI cJ ad A cc nL own) {v : Int32} (hr : meth.sig.returnType = some .int) (hdg : decode cc pc = .ok (.ireturn, 1)) : gX (some ((0 : Int32), v, σ)) q (gG p l e R s m args below meth c D cI cJ ad A nL 0 0 (vz_MQ below (gQi D cI cJ ad A q) (gXC D cI cJ ad s.heap.size A q) args s 1 6 A) σ pc L [.int v]) := by
  intro hX H locs ls hl hP hS
  cases hX
  have hlk : meth.locks = false := C.2.2.2.2.2.2.2.2.2.2.2
  exact vz_ret ((W.iret C.1 C.2.1 hr (fun t ht hW => ⟨⟨v, (), rfl, ⟨rfl, rfl⟩, by show va_P D vwCl _ t.heap; rw [ht]; exact hP⟩, hS.F ht⟩) hS.2.2 hdg hlk))
theorem g_xiretz {q : Int32 × Int32 × gSt} (C : gC p s m args meth c D cI cJ ad A cc nL own) {v : Int32} (hv : v = 0 ∨ v = 1) (hr : meth.sig.returnType = some .boolean) (hdg : decode cc pc = .ok (.ireturn, 1)) : gX (some ((0 : Int32), v, σ)) q (gG p l e R s m args below meth c D cI cJ ad A nL 0 0 (vz_MQ below (gQi D cI cJ ad A q) (gXC D cI cJ ad s.heap.size A q) args s 1 6 A) σ pc L [.int v]) := by
  intro hX H locs ls hl hP hS
  cases hX
  have hlk : meth.locks = false := C.2.2.2.2.2.2.2.2.2.2.2
  exact vz_ret ((W.zret C.1 C.2.1 hr (gz_n hv) (fun t ht hW => ⟨⟨v, (), rfl, ⟨rfl, rfl⟩, by show va_P D vwCl _ t.heap; rw [ht]; exact hP⟩, hS.F ht⟩) hS.2.2 hdg hlk))
theorem g_xretv {q : Int32 × Int32 × gSt} (C : gC p s m args meth c D cI cJ ad A cc nL own) (hr : meth.sig.returnType = none) (hdg : decode cc pc = .ok (.return_, 1)) : gX (some ((0 : Int32), (0 : Int32), σ)) q (gG p l e R s m args below meth c D cI cJ ad A nL 0 0 (vz_MQ below (gQv D cI cJ ad A q) (gXC D cI cJ ad s.heap.size A q) args s 1 6 A) σ pc L []) := by
  intro hX H locs ls hl hP hS
  cases hX
  have hlk : meth.locks = false := C.2.2.2.2.2.2.2.2.2.2.2
  exact vz_ret ((W.vret C.1 C.2.1 hr (fun t ht hW => ⟨⟨(), rfl, rfl, by show va_P D vwCl _ t.heap; rw [ht]; exact hP⟩, hS.F ht⟩) hS.2.2 hdg hlk))
theorem gRunVx (C : gC p s m args meth c D cI cJ ad A cc nL own) {idx c0 o n : Nat} {CN : String} {T : u_T} {y : MethodName} {yb : ByteArray} {yn : Nat} {yret : Option FieldType} {rm : Room} {As : List Value} {Qc : Array Value → State → Outcome → State → Prop} {XC : String → State → State → Prop} {free : Addr → Prop} {H : Heap} {locs : List Loc} {ls : Array Slot} {stk : List Value}
    (hM : vz_Met l y (.code y yb yn yret :: gT) rm (va_Pc (.ref (ad o) :: As) (gPre D cI cJ ad σ H.size)) Qc XC 1 6 free) (hrm : rm.cells = 1 ∧ rm.slots = 6) (hcl : gCl c0 CN T) (ho : gKd o = c0) (hw : gWv own idx CN y yb yn yret n) (hR : rm.frames + 1 ≤ R.frames ∧ 8 + (yn + 11) + rm.locals ≤ R.locals) (hn : As.length = n)
    (hl : lv_has ls nL L) (hP : va_P D vwCl (gw cI cJ ad σ) H) (hS : va_S A s.heap H locs) (hstk : stk = As.reverse ++ .ref (ad o) :: st) (hcat : (st.map fun v => v.category).sum ≤ 8) (hdg : decode cc pc = .ok (.invokevirtual idx, 3)) (hf : cells + 1 ≤ R.cells ∧ slots + 6 ≤ R.slots) :
    vz_Run p l e R s m args below meth c H locs cells slots 1 6 (F0 m pc ls stk) st (Qc (Value.ref (ad o) :: As).toArray) XC free := by
  obtain ⟨w1, w2, w3, w4, w5, w6⟩ := hw
  have hts := C.2.2.2.2.1
  have cw : CallW R s args own CN idx y yb yn yret (.code y yb yn yret :: gT) rm 1 6 n :=
    ⟨callB_of n hts (gGood (fun _ h => h) w5) rfl hrm.1 hrm.2 (by rw [w6.1]; exact hts _ w4) (hts _ w1) w6.2 hR, hts _ w2, hts _ w3⟩
  exact vz_runV ⟨C.1, C.2.1, C.2.2.1, C.2.2.2.1, hts⟩ hM cw ⟨gPre_blind, va_recv (q := (CN, T, gNf c0)) C.2.2.2.2.2.1 hP hcl.2.1 (gw_obj ho hcl.2.2), fun U hU hW => ⟨rfl, gPre_at C hP hS hU hW⟩⟩ rfl hn hl.1 hstk (lv_room hcat) hdg hf
theorem gRunSx (C : gC p s m args meth c D cI cJ ad A cc nL own) {idx n : Nat} {y : MethodName} {yb : ByteArray} {yn : Nat} {yret : Option FieldType} {rm : Room} {As : List Value} {Qc : Array Value → State → Outcome → State → Prop} {XC : String → State → State → Prop} {free : Addr → Prop} {H : Heap} {locs : List Loc} {ls : Array Slot} {stk : List Value}
    (hM : vz_Met l y (.code y yb yn yret :: gT) rm (va_Pc As (gPre D cI cJ ad σ H.size)) Qc XC 1 6 free) (hrm : rm.cells = 1 ∧ rm.slots = 6) (hw : gWs own idx y yb yn yret n) (hR : rm.frames + 1 ≤ R.frames ∧ 8 + (yn + 11) + rm.locals ≤ R.locals) (hn : As.length = n)
    (hl : lv_has ls nL L) (hP : va_P D vwCl (gw cI cJ ad σ) H) (hS : va_S A s.heap H locs) (hstk : stk = As.reverse ++ st) (hcat : (st.map fun v => v.category).sum ≤ 8) (hdg : decode cc pc = .ok (.invokestatic idx, 3)) (hf : cells + 1 ≤ R.cells ∧ slots + 6 ≤ R.slots) :
    vz_Run p l e R s m args below meth c H locs cells slots 1 6 (F0 m pc ls stk) st (Qc As.toArray) XC free := by
  obtain ⟨w1, w2, w3, w4, w6⟩ := hw
  have hts := C.2.2.2.2.1
  exact vz_runS ⟨C.1, C.2.1, C.2.2.1, C.2.2.2.1, hts⟩ hM ⟨callB_of n hts (gGood (fun _ h => h) w4) rfl hrm.1 hrm.2 (hts _ w3) (hts _ w1) w6 hR, hts _ w2⟩ ⟨gPre_blind, fun U hU hW => ⟨rfl, gPre_at C hP hS hU hW⟩⟩ rfl hn hl.1 hstk (lv_room hcat) hdg hf
/-- behind such a call, where nothing is caught: on, or out -/
theorem gConXv (C : gC p s m args meth c D cI cJ ad A cc nL own) (hnt : ∀ x ∈ c.exceptionTable.toList, False) {H : Heap} {locs : List Loc} {ls : Array Slot} {stk : List Value} {q0 q : Int32 × Int32 × gSt} {a : Array Value} {Qc : Array Value → State → Outcome → State → Prop} {K : gSt → Option (Int32 × Int32 × gSt)} (hl : lv_has ls nL L) (hS : va_S A s.heap H locs)
    (hr : vz_Run p l e R s m args below meth c H locs 0 0 1 6 (F0 m pc ls stk) st (gQv D cI cJ ad (gA ad H.size) q0 a) (gXC D cI cJ ad H.size (gA ad H.size) q0) (gA ad H.size))
    (hX : gbx (some q0) K = some q)
    (k : ∀ σ', gX (K σ') q (gG p l e R s m args below meth c D cI cJ ad A nL 0 0 (vz_MQ below Qc (gXC D cI cJ ad s.heap.size A q) args s 1 6 A) σ' (pc + 3) L st)) : W p l e R s m args below meth c H locs 0 0 (vz_MQ below Qc (gXC D cI cJ ad s.heap.size A q) args s 1 6 A) (F0 m pc ls stk) := by
  intro T hT X
  rcases hr T hT X with ⟨v, st₀, t, T', L9, h0, X', hL, e1, e2, ⟨⟨u, hv, hp, hb⟩, hF⟩, stp⟩ | ⟨q9, st₀, t, T', L9, E, ce, h0, X', hL, e1, e2, ⟨u, hp, ⟨hE, hgr, hb⟩, hF⟩, hce, hcv, hcl, stp⟩
  · cases hv
    obtain ⟨k1, k2, k3⟩ := vx_keep h0 e1 hS (fun q _ h => gA_sub C hS q h) (gA_sub C hS) hL hF
    have hX2 : K q0.2.2 = some q := by
      have h9 : gbx (some q0) K = K q0.2.2 := if_pos hp
      rw [← h9]; exact hX
    obtain ⟨t2, a1, b1⟩ := k _ hX2 T'.heap (locs ++ L9) ls hl (by rw [e1]; exact hb) k3 T' rfl X'
    exact ⟨t2, stp t2 a1, b1⟩
  · obtain ⟨k1, k2, k3⟩ := vx_keep h0 e1 hS (fun q _ h => gA_sub C hS q h) (gA_sub C hS) hL hF
    have hX2 : some (q0.1, (0 : Int32), q0.2.2) = some q := by
      have h9 : gbx (some q0) K = some (q0.1, (0 : Int32), q0.2.2) := if_neg hp
      rw [← h9]; exact hX
    cases hX2
    have hlk : meth.locks = false := C.2.2.2.2.2.2.2.2.2.2.2
    have h1 := vx_out (p := p) (l := l) (e := e) (R := R) (s := s) (m := m) (args := args) (below := below) (meth := meth) (c := c) (H := T'.heap) (locs := locs ++ L9) (cells := 0 + 1) (slots := 0 + 6) (free := A) (ls := ls) (rest := st) (Qc := fun _ _ _ _ => False) (XC := gXC D cI cJ ad s.heap.size A (q0.1, (0 : Int32), q0.2.2)) (pc := pc) (E := E) (ce := ce) (q := q9) (mc := 1) (ms := 6) (fun x hx => (hnt x hx).elim) hlk (by rw [e1]; exact hce) hcv hcl
      (fun t1 ht1 _ => ⟨(), hp, ⟨hE, by rw [ht1, e1]; exact Nat.lt_of_le_of_lt hS.1 hgr, by show va_P D vwCl _ t1.heap; rw [ht1, e1]; exact hb⟩, k3.F ht1⟩) k3.2.2 (Nat.le_refl _) (Nat.le_refl _)
    obtain ⟨t2, a1, o, b1, b2, b3⟩ := h1 T' rfl X'
    refine ⟨t2, stp.trans a1, o, b1, b2, Or.inr ?_⟩
    rcases b3 with b3 | b3
    · exact b3.1.elim
    · exact b3
theorem g_callvx (C : gC p s m args meth c D cI cJ ad A cc nL own) (hnt : ∀ x ∈ c.exceptionTable.toList, False) {idx c0 o n : Nat} {CN : String} {T : u_T} {y : MethodName} {yb : ByteArray} {yn : Nat} {yret : Option FieldType} {rm : Room} {As : List Value} {F : gSt → Option (Int32 × Int32 × gSt)} {K : gSt → Option (Int32 × Int32 × gSt)} {stk : List Value} {q : Int32 × Int32 × gSt} {Qc : Array Value → State → Outcome → State → Prop}
    (hM : gMxv l D cI cJ ad y yb yn yret rm (.ref (ad o) :: As) F) (hrm : rm.cells = 1 ∧ rm.slots = 6) (hcl : gCl c0 CN T) (ho : gKd o = c0) (hw : gWv own idx CN y yb yn yret n) (hR : rm.frames + 1 ≤ R.frames ∧ 8 + (yn + 11) + rm.locals ≤ R.locals) (hn : As.length = n) (hstk : stk = As.reverse ++ .ref (ad o) :: st) (hcat : (st.map fun v => v.category).sum ≤ 8) (hdg : decode cc pc = .ok (.invokevirtual idx, 3)) (hf : 0 + 1 ≤ R.cells ∧ 0 + 6 ≤ R.slots)
    (k : ∀ σ', gX (K σ') q (gG p l e R s m args below meth c D cI cJ ad A nL 0 0 (vz_MQ below Qc (gXC D cI cJ ad s.heap.size A q) args s 1 6 A) σ' (pc + 3) L st)) : gX (gbx (F σ) K) q (gG p l e R s m args below meth c D cI cJ ad A nL 0 0 (vz_MQ below Qc (gXC D cI cJ ad s.heap.size A q) args s 1 6 A) σ pc L stk) := by
  intro hX
  cases hF : F σ with
  | none => rw [hF] at hX; cases hX
  | some q0 =>
    rw [hF] at hX
    intro H locs ls hl hP hS
    exact gConXv C hnt hl hS (gRunVx C (hM _ _ _ hF) hrm hcl ho hw hR hn hl hP hS hstk hcat hdg hf) hX k
theorem g_callsx (C : gC p s m args meth c D cI cJ ad A cc nL own) (hnt : ∀ x ∈ c.exceptionTable.toList, False) {idx n : Nat} {y : MethodName} {yb : ByteArray} {yn : Nat} {yret : Option FieldType} {rm : Room} {As : List Value} {F : gSt → Option (Int32 × Int32 × gSt)} {K : gSt → Option (Int32 × Int32 × gSt)} {stk : List Value} {q : Int32 × Int32 × gSt} {Qc : Array Value → State → Outcome → State → Prop}
    (hM : gMxv l D cI cJ ad y yb yn yret rm As F) (hrm : rm.cells = 1 ∧ rm.slots = 6) (hw : gWs own idx y yb yn yret n) (hR : rm.frames + 1 ≤ R.frames ∧ 8 + (yn + 11) + rm.locals ≤ R.locals) (hn : As.length = n) (hstk : stk = As.reverse ++ st) (hcat : (st.map fun v => v.category).sum ≤ 8) (hdg : decode cc pc = .ok (.invokestatic idx, 3)) (hf : 0 + 1 ≤ R.cells ∧ 0 + 6 ≤ R.slots)
    (k : ∀ σ', gX (K σ') q (gG p l e R s m args below meth c D cI cJ ad A nL 0 0 (vz_MQ below Qc (gXC D cI cJ ad s.heap.size A q) args s 1 6 A) σ' (pc + 3) L st)) : gX (gbx (F σ) K) q (gG p l e R s m args below meth c D cI cJ ad A nL 0 0 (vz_MQ below Qc (gXC D cI cJ ad s.heap.size A q) args s 1 6 A) σ pc L stk) := by
  intro hX
  cases hF : F σ with
  | none => rw [hF] at hX; cases hX
  | some q0 =>
    rw [hF] at hX
    intro H locs ls hl hP hS
    exact gConXv C hnt hl hS (gRunSx C (hM _ _ _ hF) hrm hw hR hn hl hP hS hstk hcat hdg hf) hX k
theorem gStartXi {y : MethodName} {yb : ByteArray} {yn : Nat} {yret : Option FieldType} {rm : Room} {av : List Value} {F : gSt → Option (Int32 × Int32 × gSt)} {L0 : List (Nat × Value)} (own : String) (hy : plainName y.cls = true) (hyc : y.cls = own) (hL0 : lv_args 0 av = L0) (hlen : (lg_sl av).length ≤ yn)
    (body : ∀ (p : Program) (e : Env) (s : State) (m : MethodId) (args : Array Value) (below : List Frame) (meth : Method) (c : Code) (sz : Nat) (σ : gSt) (q : Int32 × Int32 × gSt), gC p s m args meth c D cI cJ ad (gA ad sz) yb yn own → meth.sig.returnType = yret → (∀ x ∈ c.exceptionTable.toList, False) →
      gX (F σ) q (gG p l e rm s m args below meth c D cI cJ ad (gA ad sz) yn 0 0 (vz_MQ below (gQi D cI cJ ad (gA ad sz) q) (gXC D cI cJ ad s.heap.size (gA ad sz) q) args s 1 6 (gA ad sz)) σ 0 L0 [])) : gMxi l D cI cJ ad y yb yn yret rm av F := by
  intro σ q sz hF
  refine vz_ofW (cc := yb) (maxL := yn) (ret := yret) hy rfl ?_
  intro p e s m args below meth c s₁ B hml hnt hv
  obtain ⟨rfl, hsz, hP, hK, hi, hB, hZ⟩ := hv
  have hts := atoms_spec (ws := .code y yb yn yret :: gT) B.pre
  have hown : s.vm.findClass own = some m.cls := by rw [← hyc]; exact findClass_of_methodNamed B.named
  have hl := lv_entry av (n := yn) hlen
  rw [lg_entry_eq]
  rw [hL0] at hl
  subst hsz
  exact body p e s m _ below meth c s.heap.size σ q ⟨B.exec, B.bytes, hml, hown, fun w hw => hts w (List.mem_cons_of_mem _ hw), hK, fun q h => Or.inr h, fun k hk => Or.inl ⟨k, hk, rfl⟩, hi, hB, hZ, B.notSynchronized⟩ B.returns hnt hF s.heap [] _ hl hP va_S.rf
theorem gStartXv {y : MethodName} {yb : ByteArray} {yn : Nat} {yret : Option FieldType} {rm : Room} {av : List Value} {F : gSt → Option (Int32 × Int32 × gSt)} {L0 : List (Nat × Value)} (own : String) (hy : plainName y.cls = true) (hyc : y.cls = own) (hL0 : lv_args 0 av = L0) (hlen : (lg_sl av).length ≤ yn)
    (body : ∀ (p : Program) (e : Env) (s : State) (m : MethodId) (args : Array Value) (below : List Frame) (meth : Method) (c : Code) (sz : Nat) (σ : gSt) (q : Int32 × Int32 × gSt), gC p s m args meth c D cI cJ ad (gA ad sz) yb yn own → meth.sig.returnType = yret → (∀ x ∈ c.exceptionTable.toList, False) →
      gX (F σ) q (gG p l e rm s m args below meth c D cI cJ ad (gA ad sz) yn 0 0 (vz_MQ below (gQv D cI cJ ad (gA ad sz) q) (gXC D cI cJ ad s.heap.size (gA ad sz) q) args s 1 6 (gA ad sz)) σ 0 L0 [])) : gMxv l D cI cJ ad y yb yn yret rm av F := by
  intro σ q sz hF
  refine vz_ofW (cc := yb) (maxL := yn) (ret := yret) hy rfl ?_
  intro p e s m args below meth c s₁ B hml hnt hv
  obtain ⟨rfl, hsz, hP, hK, hi, hB, hZ⟩ := hv
  have hts := atoms_spec (ws := .code y yb yn yret :: gT) B.pre
  have hown : s.vm.findClass own = some m.cls := by rw [← hyc]; exact findClass_of_methodNamed B.named
  have hl := lv_entry av (n := yn) hlen
  rw [lg_entry_eq]
  rw [hL0] at hl
  subst hsz
  exact body p e s m _ below meth c s.heap.size σ q ⟨B.exec, B.bytes, hml, hown, fun w hw => hts w (List.mem_cons_of_mem _ hw), hK, fun q h => Or.inr h, fun k hk => Or.inl ⟨k, hk, rfl⟩, hi, hB, hZ, B.notSynchronized⟩ B.returns hnt hF s.heap [] _ hl hP va_S.rf
end GT
/-! places: the sides and the courts -/
def gIsSide (k : Nat) : Prop := k = 2 ∨ k = 5 ∨ k = 9 ∨ k = 12 ∨ k = 20 ∨ k = 23
def gIsCourt (k : Nat) : Prop := k = 1 ∨ k = 8 ∨ k = 19
theorem gRs_2 {k a b : Nat} (h : gRs.getD k [] = [some a, some b]) : ∀ j, 2 ≤ j → gRf k j = none := by
  intro j hj
  unfold gRf
  rw [h, List.getD_eq_getElem?_getD, List.getElem?_eq_none (by simpa using hj)]
  rfl
theorem gSd {k : Nat} (h : gIsSide k) : gKd k = 4 ∧ gRf k 0 = some (k + 1) ∧ gRf k 1 = some (k + 2) ∧ (∀ j, 2 ≤ j → gRf k j = none) ∧ gKd (k + 1) = 7 ∧ gKd (k + 2) = 7 ∧ gLn (k + 1) = 7 ∧ gLn (k + 2) = 21 := by
  rcases h with rfl | rfl | rfl | rfl | rfl | rfl <;> exact ⟨rfl, rfl, rfl, gRs_2 rfl, rfl, rfl, rfl, rfl⟩
theorem gs2 : gIsSide 2 := Or.inl rfl
theorem gs5 : gIsSide 5 := Or.inr (Or.inl rfl)
theorem gs9 : gIsSide 9 := Or.inr (Or.inr (Or.inl rfl))
theorem gs12 : gIsSide 12 := Or.inr (Or.inr (Or.inr (Or.inl rfl)))
theorem gs20 : gIsSide 20 := Or.inr (Or.inr (Or.inr (Or.inr (Or.inl rfl))))
theorem gs23 : gIsSide 23 := Or.inr (Or.inr (Or.inr (Or.inr (Or.inr rfl))))
theorem gc1 : gIsCourt 1 := Or.inl rfl
theorem gc8 : gIsCourt 8 := Or.inr (Or.inl rfl)
theorem gc19 : gIsCourt 19 := Or.inr (Or.inr rfl)
theorem gCt {k : Nat} (h : gIsCourt k) : gKd k = 0 ∧ gRf k 0 = some (k + 1) ∧ gRf k 1 = some (k + 4) ∧ (∀ j, 2 ≤ j → gRf k j = none) ∧ gIsSide (k + 1) ∧ gIsSide (k + 4) := by
  rcases h with rfl | rfl | rfl
  · exact ⟨rfl, rfl, rfl, gRs_2 rfl, gs2, gs5⟩
  · exact ⟨rfl, rfl, rfl, gRs_2 rfl, gs9, gs12⟩
  · exact ⟨rfl, rfl, rfl, gRs_2 rfl, gs20, gs23⟩
section GN
variable {p : Program} {l : Launch} {e : Env} {R : Room} {s : State} {m : MethodId} {args : Array Value} {below : List Frame} {meth : Method} {c : Code} {D : va_G} {cI cJ : ClassId} {ad : Nat → Nat} {A : Nat → Prop} {cc : ByteArray} {nL : Nat} {own : String} {cells slots : Nat} {Q : State → Prop} {σ : gSt} {pc : Nat} {L L' : List (Nat × Value)} {st : List Value}
variable {ρ : Type} {X X1 X2 : Option ρ} {res : ρ}
theorem g_name {v : Int32} {K : Int32 → Option ρ} (k : ∀ x : Int32, gX (K x) res (gG p l e R s m args below meth c D cI cJ ad A nL cells slots Q σ pc L (.int x :: st))) : gX (gl v K) res (gG p l e R s m args below meth c D cI cJ ad A nL cells slots Q σ pc L (.int v :: st)) := k v
theorem g_iaddK (C : gC p s m args meth c D cI cJ ad A cc nL own) {x y v : Int32} (hdg : decode cc pc = .ok (.iadd, 1)) (hv : x + y = v) (k : gX X res (gG p l e R s m args below meth c D cI cJ ad A nL cells slots Q σ (pc + 1) L (.int v :: st))) : gX X res (gG p l e R s m args below meth c D cI cJ ad A nL cells slots Q σ pc L (.int y :: .int x :: st)) := by
  subst hv
  exact g_iadd C hdg k
theorem g_isubK (C : gC p s m args meth c D cI cJ ad A cc nL own) {x y v : Int32} (hdg : decode cc pc = .ok (.isub, 1)) (hv : x - y = v) (k : gX X res (gG p l e R s m args below meth c D cI cJ ad A nL cells slots Q σ (pc + 1) L (.int v :: st))) : gX X res (gG p l e R s m args below meth c D cI cJ ad A nL cells slots Q σ pc L (.int y :: .int x :: st)) := by
  subst hv
  exact g_isub C hdg k
theorem g_imulK (C : gC p s m args meth c D cI cJ ad A cc nL own) {x y v : Int32} (hdg : decode cc pc = .ok (.imul, 1)) (hv : x * y = v) (k : gX X res (gG p l e R s m args below meth c D cI cJ ad A nL cells slots Q σ (pc + 1) L (.int v :: st))) : gX X res (gG p l e R s m args below meth c D cI cJ ad A nL cells slots Q σ pc L (.int y :: .int x :: st)) := by
  subst hv
  exact g_imul C hdg k
end GN
