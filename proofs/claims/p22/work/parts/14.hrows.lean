/-! constructors: the world is a list that grows -/
def hC (p : Program) (s : State) (m : MethodId) (args : Array Value) (meth : Method) (c : Code) (D : va_G) (cI cJ : ClassId) (A : Nat → Prop) (cc : ByteArray) (nL : Nat) (own : String) : Prop :=
  p.tables.exec = Jvm.exec ∧ c.code = cc ∧ c.maxLocals = nL ∧ s.vm.findClass own = some m.cls ∧ (∀ w ∈ gT, w.before args s = true) ∧ va_K D vwCl [(cI, .int)] s ∧ (∀ q, s.heap.size ≤ q → A q) ∧ gB s ∧ meth.locks = false
def hG (p : Program) (l : Launch) (e : Env) (R : Room) (s : State) (m : MethodId) (args : Array Value) (below : List Frame) (meth : Method) (c : Code) (D : va_G) (A : Nat → Prop) (nL cells slots : Nat) (Q : State → Prop) (ws : va_W) (pc : Nat) (L : List (Nat × Value)) (st : List Value) : Prop :=
  ∀ (H : Heap) (locs : List Loc) (ls : Array Slot), lv_has ls nL L → va_P D vwCl ws H → va_D A ws → va_S A s.heap H locs → W p l e R s m args below meth c H locs cells slots Q (F0 m pc ls st)
def kPre (D : va_G) (cI cJ : ClassId) (ws : va_W) (sz : Nat) (U : State) : Prop :=
  U.heap.size = sz ∧ va_P D vwCl ws U.heap ∧ va_K D vwCl [(cI, .int)] U ∧ va_D (fun _ => True) ws ∧ gB U
def kM (l : Launch) (D : va_G) (cI cJ : ClassId) (y : MethodName) (yb : ByteArray) (yn : Nat) (rm : Room) (av : List Value) (mc ms : Nat) (ws : va_W) (Pw : va_W → Prop) : Prop :=
  ∀ sz : Nat, Met l y (.code y yb yn none :: gT) rm (va_Pc av (kPre D cI cJ ws sz)) (va_Qv (fun w1 : va_W => Pw w1) (fun w1 t => va_P D vwCl w1 t.heap ∧ va_D (va_A ws sz) w1) (va_A ws sz)) mc ms (va_A ws sz)
theorem kPre_blind {D : va_G} {cI cJ : ClassId} {ws : va_W} {sz : Nat} {av : List Value} : FrameBlind (va_Pc av (kPre D cI cJ ws sz)) := by
  intro a U g mk q
  obtain ⟨q0, q1, qP, qK, qD, qB⟩ := q
  exact ⟨q0, q1, qP, va_K.moved (u := U) (U := U.calling g mk a) (Vm.Alike.refl U.vm) qK, qD, gB_warm (s := U) (U := U.calling g mk a) (State.WarmedH.refl U) qB⟩
/-- what comes back stands in the place of what was given, the last of the list -/
theorem kJoin {A0 : Nat → Prop} {D : va_G} {ws0 wc w1 : va_W} {H H1 : Heap} (hP : va_P D vwCl (ws0 ++ wc) H) (hD : va_D A0 (ws0 ++ wc)) (hk : ∀ q : Nat, q < H.size → ¬ va_A wc H.size q → H1[q]? = H[q]?) (hF : ∀ q, va_A wc H.size q → A0 q) (hP1 : va_P D vwCl w1 H1) (hD1 : va_D (va_A wc H.size) w1) : va_P D vwCl (ws0 ++ w1) H1 ∧ va_D A0 (ws0 ++ w1) := by
  have at0 : ∀ (k : Nat) (q : Nat × va_E), ws0[k]? = some q → (ws0 ++ wc)[k]? = some q := fun k q h => by
    rw [List.getElem?_append_left (List.getElem?_eq_some_iff.mp h).1]; exact h
  have at1 : ∀ (k : Nat) (q : Nat × va_E), wc[k]? = some q → (ws0 ++ wc)[ws0.length + k]? = some q := fun k q h => by
    rw [List.getElem?_append_right (by omega), Nat.add_sub_cancel_left]; exact h
  have apart : ∀ (k : Nat) (q : Nat × va_E), ws0[k]? = some q → q.1 < H.size ∧ ¬ va_A wc H.size q.1 := by
    intro k q hq
    have hl := (hP k q (at0 k q hq)).lt
    refine ⟨hl, fun h => ?_⟩
    rcases h with ⟨k2, e, h⟩ | h
    · have h9 := hD.1 k (ws0.length + k2) q (q.1, e) (at0 k q hq) (at1 k2 _ h) rfl
      have := (List.getElem?_eq_some_iff.mp hq).1
      omega
    · omega
  refine ⟨va_P.app (fun k q hq => (hP k q (at0 k q hq)).kept (hk q.1 (apart k q hq).1 (apart k q hq).2)) hP1, va_D.app ⟨fun i j p q h1 h2 h3 => hD.1 i j p q (at0 i p h1) (at0 j q h2) h3, fun k q hq => hD.2 k q (at0 k q hq)⟩ (hD1.weaken (fun k q _ h => hF q.1 h)) (fun i j x y hx hy hxy => ?_)⟩
  exact (apart i x hx).2 (by rw [hxy]; exact hD1.2 j y hy)
section HR
variable {p : Program} {l : Launch} {e : Env} {R : Room} {s : State} {m : MethodId} {args : Array Value} {below : List Frame} {meth : Method} {c : Code} {D : va_G} {cI cJ : ClassId} {A : Nat → Prop} {cc : ByteArray} {nL : Nat} {own : String} {cells slots : Nat} {Q : State → Prop} {ws ws' : va_W} {pc : Nat} {L L' : List (Nat × Value)} {st : List Value}
theorem h_ws (h : ws = ws') (k : hG p l e R s m args below meth c D A nL cells slots Q ws' pc L st) : hG p l e R s m args below meth c D A nL cells slots Q ws pc L st := h ▸ k
theorem h_iconst (C : hC p s m args meth c D cI cJ A cc nL own) {n : Int} {v : Int32} (hdg : decode cc pc = .ok (.iconst n, 1)) (hv : Int32.ofInt n = v) (k : hG p l e R s m args below meth c D A nL cells slots Q ws (pc + 1) L (.int v :: st)) : hG p l e R s m args below meth c D A nL cells slots Q ws pc L st :=
  fun H locs ls hl hP hD hS => lv_iconst C.1 C.2.1 hdg hv (k H locs ls hl hP hD hS)
theorem h_bipush (C : hC p s m args meth c D cI cJ A cc nL own) {n : Int} {v : Int32} (hdg : decode cc pc = .ok (.bipush n, 2)) (hv : (Int8.ofInt n).toInt32 = v) (k : hG p l e R s m args below meth c D A nL cells slots Q ws (pc + 2) L (.int v :: st)) : hG p l e R s m args below meth c D A nL cells slots Q ws pc L st :=
  fun H locs ls hl hP hD hS => lv_bipush C.1 C.2.1 hdg hv (k H locs ls hl hP hD hS)
theorem h_sipush (C : hC p s m args meth c D cI cJ A cc nL own) {n : Int} {v : Int32} (hdg : decode cc pc = .ok (.sipush n, 3)) (hv : (Int16.ofInt n).toInt32 = v) (k : hG p l e R s m args below meth c D A nL cells slots Q ws (pc + 3) L (.int v :: st)) : hG p l e R s m args below meth c D A nL cells slots Q ws pc L st :=
  fun H locs ls hl hP hD hS => lv_sipush C.1 C.2.1 hdg hv (k H locs ls hl hP hD hS)
theorem h_iload_n (C : hC p s m args meth c D cI cJ A cc nL own) {q : Fin 4} {i : Nat} {x : Int32} (j : Nat) (hdg : decode cc pc = .ok (.iload_n q, 1)) (hi : (q : Nat) = i) (hj : L[j]? = some (i, .int x)) (k : hG p l e R s m args below meth c D A nL cells slots Q ws (pc + 1) L (.int x :: st)) : hG p l e R s m args below meth c D A nL cells slots Q ws pc L st :=
  fun H locs ls hl hP hD hS => lv_iload_n C.1 C.2.1 hdg hi (lv_at hl j hj) (k H locs ls hl hP hD hS)
theorem h_aload_n (C : hC p s m args meth c D cI cJ A cc nL own) {q : Fin 4} {i : Nat} {x : Nat} (j : Nat) (hdg : decode cc pc = .ok (.aload_n q, 1)) (hi : (q : Nat) = i) (hj : L[j]? = some (i, .ref x)) (k : hG p l e R s m args below meth c D A nL cells slots Q ws (pc + 1) L (.ref x :: st)) : hG p l e R s m args below meth c D A nL cells slots Q ws pc L st :=
  fun H locs ls hl hP hD hS => lv_aload_n C.1 C.2.1 hdg hi (lv_at hl j hj) (k H locs ls hl hP hD hS)
theorem h_istore_n (C : hC p s m args meth c D cI cJ A cc nL own) {q : Fin 4} {i : Nat} {x : Int32} (hdg : decode cc pc = .ok (.istore_n q, 1)) (hi : (q : Nat) = i) (hn : i < nL) (hl' : (i, Value.int x) :: L.filter (fun q => !(q.1 == i) && !(q.1 + 1 == i && q.2.category == 2)) = L') (k : hG p l e R s m args below meth c D A nL cells slots Q ws (pc + 1) L' st) : hG p l e R s m args below meth c D A nL cells slots Q ws pc L (.int x :: st) :=
  fun H locs ls hl hP hD hS => lv_istore_n C.1 C.2.1 hdg hi hl hn hl' (fun ls' hl2 => k H locs ls' hl2 hP hD hS)
theorem h_iinc (C : hC p s m args meth c D cI cJ A cc nL own) {i : Nat} {n : Int} {x v : Int32} (j : Nat) (hdg : decode cc pc = .ok (.iinc i n, 3)) (hj : L[j]? = some (i, .int x)) (hv : x + Int32.ofInt n = v) (hn : i < nL) (hl' : (i, Value.int v) :: L.filter (fun q => !(q.1 == i) && !(q.1 + 1 == i && q.2.category == 2)) = L') (k : hG p l e R s m args below meth c D A nL cells slots Q ws (pc + 3) L' st) : hG p l e R s m args below meth c D A nL cells slots Q ws pc L st :=
  fun H locs ls hl hP hD hS => lv_iinc C.1 C.2.1 hdg hl (k := j) hj hv hn hl' (fun ls' hl2 => k H locs ls' hl2 hP hD hS)
theorem h_iaddK (C : hC p s m args meth c D cI cJ A cc nL own) {x y v : Int32} (hdg : decode cc pc = .ok (.iadd, 1)) (hv : x + y = v) (k : hG p l e R s m args below meth c D A nL cells slots Q ws (pc + 1) L (.int v :: st)) : hG p l e R s m args below meth c D A nL cells slots Q ws pc L (.int y :: .int x :: st) := by
  subst hv
  exact fun H locs ls hl hP hD hS => lv_iadd C.1 C.2.1 hdg (k H locs ls hl hP hD hS)
theorem h_goto (C : hC p s m args meth c D cI cJ A cc nL own) {off : Int} {tgt : Nat} (hdg : decode cc pc = .ok (.goto off, 3)) (ht : (pc : Int) + off = (tgt : Int)) (k : hG p l e R s m args below meth c D A nL cells slots Q ws tgt L st) : hG p l e R s m args below meth c D A nL cells slots Q ws pc L st :=
  fun H locs ls hl hP hD hS => lv_goto C.1 C.2.1 hdg ht (k H locs ls hl hP hD hS)
theorem h_dup (C : hC p s m args meth c D cI cJ A cc nL own) {a : Value} (hdg : decode cc pc = .ok (.dup, 1)) (ha : a.category = 1) (k : hG p l e R s m args below meth c D A nL cells slots Q ws (pc + 1) L (a :: a :: st)) : hG p l e R s m args below meth c D A nL cells slots Q ws pc L (a :: st) :=
  fun H locs ls hl hP hD hS => lv_dup C.1 C.2.1 hdg ha (k H locs ls hl hP hD hS)
theorem h_icmp_gt_t (C : hC p s m args meth c D cI cJ A cc nL own) {x y : Int32} {off : Int} {tgt : Nat} (hdg : decode cc pc = .ok (.if_icmp .gt off, 3)) (ht : (pc : Int) + off = (tgt : Int)) (h : y < x) (k : hG p l e R s m args below meth c D A nL cells slots Q ws tgt L st) : hG p l e R s m args below meth c D A nL cells slots Q ws pc L (.int y :: .int x :: st) :=
  fun H locs ls hl hP hD hS => lv_icmp_gt C.1 C.2.1 hdg ht (fun _ => k H locs ls hl hP hD hS) (fun h2 => absurd h h2)
theorem h_icmp_gt_f (C : hC p s m args meth c D cI cJ A cc nL own) {x y : Int32} {off : Int} {tgt : Nat} (hdg : decode cc pc = .ok (.if_icmp .gt off, 3)) (ht : (pc : Int) + off = (tgt : Int)) (h : ¬ y < x) (k : hG p l e R s m args below meth c D A nL cells slots Q ws (pc + 3) L st) : hG p l e R s m args below meth c D A nL cells slots Q ws pc L (.int y :: .int x :: st) :=
  fun H locs ls hl hP hD hS => lv_icmp_gt C.1 C.2.1 hdg ht (fun h2 => absurd h2 h) (fun _ => k H locs ls hl hP hD hS)
theorem h_icmp_ge_t (C : hC p s m args meth c D cI cJ A cc nL own) {x y : Int32} {off : Int} {tgt : Nat} (hdg : decode cc pc = .ok (.if_icmp .ge off, 3)) (ht : (pc : Int) + off = (tgt : Int)) (h : y ≤ x) (k : hG p l e R s m args below meth c D A nL cells slots Q ws tgt L st) : hG p l e R s m args below meth c D A nL cells slots Q ws pc L (.int y :: .int x :: st) :=
  fun H locs ls hl hP hD hS => lv_icmp_ge C.1 C.2.1 hdg ht (fun _ => k H locs ls hl hP hD hS) (fun h2 => absurd h h2)
theorem h_icmp_ge_f (C : hC p s m args meth c D cI cJ A cc nL own) {x y : Int32} {off : Int} {tgt : Nat} (hdg : decode cc pc = .ok (.if_icmp .ge off, 3)) (ht : (pc : Int) + off = (tgt : Int)) (h : ¬ y ≤ x) (k : hG p l e R s m args below meth c D A nL cells slots Q ws (pc + 3) L st) : hG p l e R s m args below meth c D A nL cells slots Q ws pc L (.int y :: .int x :: st) :=
  fun H locs ls hl hP hD hS => lv_icmp_ge C.1 C.2.1 hdg ht (fun h2 => absurd h2 h) (fun _ => k H locs ls hl hP hD hS)
theorem h_getV (C : hC p s m args meth c D cI cJ A cc nL own) {idx c0 a : Nat} {CN : String} {T : u_T} {fs : List Value} {v : Value} (o j : Nat) (hcl : gCl c0 CN T) (ho : ws[o]? = some (a, .inr (c0, fs))) (hj : j < gNf c0) (hv : fs[j]? = some v) (hlink : Cond.fieldLink own idx (T j).1 (T j).2.1 (T j).2.2.1 ∈ gT) (hdg : decode cc pc = .ok (.getfield idx, 3)) (k : hG p l e R s m args below meth c D A nL cells slots Q ws (pc + 3) L (v :: st)) : hG p l e R s m args below meth c D A nL cells slots Q ws pc L (.ref a :: st) :=
  fun H locs ls hl hP hD hS => va_get (D := D) C.1 C.2.1 C.2.2.2.2.1 hcl.1 C.2.2.2.1 C.2.2.2.2.2.1 hP o ho hcl.2.1 j hj (C.2.2.2.2.1 _ hlink) (fun _ h9 => h9) hv hdg (k H locs ls hl hP hD hS)
theorem h_putI (C : hC p s m args meth c D cI cJ A cc nL own) {idx c0 a : Nat} {CN : String} {T : u_T} {ty : Nat → FieldType} {fs : List Value} {v : Int32} (o j : Nat) (hcl : gCl c0 CN T) (hft : gFt c0 T ty) (ho : ws[o]? = some (a, .inr (c0, fs))) (hj : j < gNf c0) (hlen : j < fs.length) (hfin : (T j).2.2.2 = false) (hty : ty j = .int) (hlink : Cond.fieldLink own idx (T j).1 (T j).2.1 (T j).2.2.1 ∈ gT) (hdg : decode cc pc = .ok (.putfield idx, 3)) (hw : ws.set o (a, .inr (c0, fs.set j (.int v))) = ws') (k : hG p l e R s m args below meth c D A nL cells slots Q ws' (pc + 3) L st) : hG p l e R s m args below meth c D A nL cells slots Q ws pc L (.int v :: .ref a :: st) := by
  subst hw
  exact fun H locs ls hl hP hD hS => va_put (D := D) (v := .int v) (ty := .int) C.1 C.2.1 C.2.2.2.2.1 hcl.1 ty hft.1 hft.2 C.2.2.2.1 C.2.2.2.2.2.1 hP hD hS o ho hcl.2.1 j hj (C.2.2.2.2.1 _ hlink) (fun _ h9 => h9) hfin (by rw [hft.1 j hj, hty]) rfl rfl hlen hdg (fun H1 locs1 hP1 hD1 hS1 => k H1 locs1 ls hl hP1 hD1 hS1)
theorem h_putF (C : hC p s m args meth c D cI cJ A cc nL own) (hin : meth.name = "<init>") {idx c0 a b : Nat} {CN : String} {T : u_T} {ty : Nat → FieldType} {fs : List Value} (o j : Nat) (hcl : gCl c0 CN T) (hft : gFt c0 T ty) (ho : ws[o]? = some (a, .inr (c0, fs))) (hj : j < gNf c0) (hlen : j < fs.length) (hfin : (T j).2.2.2 = true) (hdecl : (T j).1 = own) (hn : narrow (ty j) (.ref b) = .ref b) (hf : fits (ty j) (.ref b) = true) (hlink : Cond.fieldLink own idx (T j).1 (T j).2.1 (T j).2.2.1 ∈ gT) (hdg : decode cc pc = .ok (.putfield idx, 3)) (hw : ws.set o (a, .inr (c0, fs.set j (.ref b))) = ws') (k : hG p l e R s m args below meth c D A nL cells slots Q ws' (pc + 3) L st) : hG p l e R s m args below meth c D A nL cells slots Q ws pc L (.ref b :: .ref a :: st) := by
  subst hw
  exact fun H locs ls hl hP hD hS => va_putF (D := D) (v := .ref b) (ty := ty j) C.1 C.2.1 C.2.2.2.2.1 hcl.1 ty hft.1 hft.2 C.2.2.2.1 C.2.2.2.2.2.1 hP hD hS o ho hcl.2.1 j hj (C.2.2.2.2.1 _ hlink) (fun _ h9 => h9) hfin hin hdecl (hft.1 j hj) hn hf hlen hdg (fun H1 locs1 hP1 hD1 hS1 => k H1 locs1 ls hl hP1 hD1 hS1)
theorem h_iast (C : hC p s m args meth c D cI cJ A cc nL own) {a n : Nat} {f : Nat → Int32} {i v : Int32} (o j : Nat) (ho : ws[o]? = some (a, .inl (cI, n, .inl f))) (hin : i.toNatClampNeg = j ∧ vp_in i n) (hdg : decode cc pc = .ok (.iastore, 1)) (hw : ws.set o (a, .inl (cI, n, .inl (upd f j v))) = ws') (k : hG p l e R s m args below meth c D A nL cells slots Q ws' (pc + 1) L st) : hG p l e R s m args below meth c D A nL cells slots Q ws pc L (.int v :: .int i :: .ref a :: st) := by
  subst hw
  obtain ⟨rfl, hin⟩ := hin
  exact fun H locs ls hl hP hD hS => va_iast (D := D) C.1 C.2.1 C.2.2.2.2.2.1 hP hD hS o 0 ho rfl hin hdg (fun H1 locs1 hP1 hD1 hS1 => k H1 locs1 ls hl hP1 hD1 hS1)
theorem h_alen (C : hC p s m args meth c D cI cJ A cc nL own) {a n : Nat} {f : Nat → Int32} (o : Nat) (ho : ws[o]? = some (a, .inl (cI, n, .inl f))) (hdg : decode cc pc = .ok (.arraylength, 1)) (k : hG p l e R s m args below meth c D A nL cells slots Q ws (pc + 1) L (.int (nI n) :: st)) : hG p l e R s m args below meth c D A nL cells slots Q ws pc L (.ref a :: st) :=
  fun H locs ls hl hP hD hS => va_alen (D := D) C.1 C.2.1 C.2.2.2.2.2.1 hP o 0 ho (ty := .int) rfl rfl hdg (k H locs ls hl hP hD hS)
theorem h_new (C : hC p s m args meth c D cI cJ A cc nL own) {idx c0 : Nat} {CN : String} {T : u_T} {ty : Nat → FieldType} {fs : List Value} (hcl : gCl c0 CN T) (hft : gFt c0 T ty) (hlink : Cond.classLink own idx CN ∈ gT) (hinst : Cond.instantiable CN (gNf c0) ∈ gT) (hini : Cond.initialized CN ∈ gT) (hfs : ∀ j, j < gNf c0 → defaultValue (ty j) = vp_V fs j) (hc : cells + 1 ≤ R.cells) (hs : slots + gNf c0 ≤ R.slots) (hdg : decode cc pc = .ok (.new idx, 3)) (k : ∀ q : Nat, hG p l e R s m args below meth c D A nL (cells + 1) (slots + gNf c0) Q (ws ++ [(q, .inr (c0, fs))]) (pc + 3) L (.ref q :: st)) : hG p l e R s m args below meth c D A nL cells slots Q ws pc L st :=
  fun H locs ls hl hP hD hS => va_new (D := D) C.1 C.2.1 C.2.2.2.2.1 hcl.1 ty hft.1 C.2.2.2.1 (C.2.2.2.2.1 _ hlink) (C.2.2.2.2.1 _ hinst) (C.2.2.2.2.1 _ hini) C.2.2.2.2.2.1 hP hD hS C.2.2.2.2.2.2.1 hcl.2.1 hfs hc hs hdg (fun q H1 hP1 hD1 hS1 => k q H1 locs ls hl hP1 hD1 hS1)
theorem h_newI (C : hC p s m args meth c D cI cJ A cc nL own) {n : Int32} (N : Nat) (harr : Cond.arrayClass .int ∈ gT) (hn : ¬ n < 0) (hN : n.toNatClampNeg = N) (hb4 : N * 4 ≤ 536870912) (hc : cells + 1 ≤ R.cells) (hs : slots + N ≤ R.slots) (hdg : decode cc pc = .ok (.newarray .int, 2)) (k : ∀ q : Nat, hG p l e R s m args below meth c D A nL (cells + 1) (slots + N) Q (ws ++ [(q, .inl (cI, N, .inl (fun _ => 0)))]) (pc + 2) L (.ref q :: st)) : hG p l e R s m args below meth c D A nL cells slots Q ws pc L (.int n :: st) := by
  intro H locs ls hl hP hD hS
  refine va_newa (D := D) (atype := .int) (ty := .int) (a0 := (N, .inl (fun _ => 0))) C.1 C.2.1 (C.2.2.2.2.1 _ harr) rfl C.2.2.2.2.2.1 hP hD hS C.2.2.2.2.2.2.1 (fun cA => rfl) hn hN hb4 hc hs hdg (fun q cA H1 hK1 hP1 hD1 hS1 => ?_)
  have e1 : s.vm.findClass ("[" ++ (FieldType.int).toString) = some cI := (C.2.2.2.2.2.1.2 0 (cI, .int) rfl).2
  have e2 : s.vm.findClass ("[" ++ (FieldType.int).toString) = some cA := (hK1.2 1 (cA, .int) rfl).2
  obtain rfl : cI = cA := Option.some.inj (e1.symm.trans e2)
  exact k q H1 locs ls hl hP1 hD1 hS1
theorem h_objInit (C : hC p s m args meth c D cI cJ A cc nL own) {idx a : Nat} (hlink : Cond.methodLink own idx objectInit ∈ gT) (hinst : Cond.instanceMethod objectInit ∈ gT) (hcode : Cond.code objectInit ⟨#[0xb1]⟩ 1 none ∈ gT) (hdg : decode cc pc = .ok (.invokespecial idx, 3)) (hf : 1 ≤ R.frames) (hlo : 12 ≤ R.locals) (k : hG p l e R s m args below meth c D A nL cells slots Q ws (pc + 3) L []) : hG p l e R s m args below meth c D A nL cells slots Q ws pc L [.ref a] := by
  intro H locs ls hl hP hD hS
  refine W.objInit C.1 C.2.1 C.2.2.2.1 (C.2.2.2.2.1 _ hlink) (C.2.2.2.2.1 _ hinst) (C.2.2.2.2.1 _ hcode) rfl (hl.1.trans C.2.2.1.symm) rfl hdg hf ?_ (k H locs ls hl hP hD hS)
  have h9 : 2 * (F0 m pc ls [.ref a]).monitorRoom + ((([] : List Value)).map fun v => v.category).sum = 0 := rfl
  omega
theorem h_retv {mc ms : Nat} {Pw : va_W → Prop} {wc : va_W} (C : hC p s m args meth c D cI cJ (va_A wc s.heap.size) cc nL own) (hr : meth.sig.returnType = none) (hPw : Pw ws) (hdg : decode cc pc = .ok (.return_, 1)) : hG p l e R s m args below meth c D (va_A wc s.heap.size) nL mc ms (MQ below (va_Qv (fun w1 : va_W => Pw w1) (fun w1 t => va_P D vwCl w1 t.heap ∧ va_D (va_A wc s.heap.size) w1) (va_A wc s.heap.size)) args s mc ms (va_A wc s.heap.size)) ws pc L [] := by
  intro H locs ls hl hP hD hS
  have hlk : meth.locks = false := C.2.2.2.2.2.2.2.2
  exact W.vret C.1 C.2.1 hr (fun t ht hW => ⟨⟨ws, rfl, hPw, by show va_P D vwCl ws t.heap; rw [ht]; exact hP, hD⟩, hS.F ht⟩) hS.2.2 hdg hlk
theorem kPre_at (C : hC p s m args meth c D cI cJ A cc nL own) {ws0 wc : va_W} {H : Heap} (hP : va_P D vwCl (ws0 ++ wc) H) (hD : va_D A (ws0 ++ wc)) {U : State} (hU : U.heap = H) (hW : s.WarmedH U.vm) : kPre D cI cJ wc H.size U := by
  have at1 : ∀ (k : Nat) (q : Nat × va_E), wc[k]? = some q → (ws0 ++ wc)[ws0.length + k]? = some q := fun k q h => by
    rw [List.getElem?_append_right (by omega), Nat.add_sub_cancel_left]; exact h
  refine ⟨by rw [hU], by rw [hU]; exact fun k q hq => hP _ q (at1 k q hq), va_K.moved hW.alike C.2.2.2.2.2.1, ⟨fun i j p q h1 h2 h3 => ?_, fun _ _ _ => trivial⟩, gB_warm hW C.2.2.2.2.2.2.2.1⟩
  have := hD.1 _ _ p q (at1 i p h1) (at1 j q h2) h3
  omega
theorem kFree (C : hC p s m args meth c D cI cJ A cc nL own) {ws0 wc : va_W} {H : Heap} {locs : List Loc} (hD : va_D A (ws0 ++ wc)) (hS : va_S A s.heap H locs) : ∀ q, va_A wc H.size q → A q := by
  intro q h
  rcases h with ⟨k, e, h⟩ | h
  · have h9 : (ws0 ++ wc)[ws0.length + k]? = some (q, e) := by
      rw [List.getElem?_append_right (by omega), Nat.add_sub_cancel_left]; exact h
    exact hD.2 _ _ h9
  · exact C.2.2.2.2.2.2.1 q (Nat.le_trans hS.1 h)
theorem h_con (C : hC p s m args meth c D cI cJ A cc nL own) {ws0 wc : va_W} {Pw : va_W → Prop} {mc ms : Nat} {H : Heap} {locs : List Loc} {ls : Array Slot} {stk : List Value} {a : Array Value} (hl : lv_has ls nL L) (hP : va_P D vwCl (ws0 ++ wc) H) (hD : va_D A (ws0 ++ wc)) (hS : va_S A s.heap H locs)
    (hr : va_Run p l e R s m args below meth c H locs cells slots mc ms (F0 m pc ls stk) st (va_Qv (fun w1 : va_W => Pw w1) (fun w1 t => va_P D vwCl w1 t.heap ∧ va_D (va_A wc H.size) w1) (va_A wc H.size) a) (va_A wc H.size))
    (k : ∀ w1, Pw w1 → hG p l e R s m args below meth c D A nL (cells + mc) (slots + ms) Q (ws0 ++ w1) (pc + 3) L st) : W p l e R s m args below meth c H locs cells slots Q (F0 m pc ls stk) := by
  refine va_callv hr hS (fun q _ h => kFree C hD hS q h) (kFree C hD hS) (fun w1 t H1 locs1 ht hvm hw hB hz hk hS1 => ?_)
  obtain ⟨hB1, hB2⟩ := hB
  rw [ht] at hB1
  obtain ⟨g1, g2⟩ := kJoin hP hD hk (kFree C hD hS) hB1 hB2
  exact k w1 hw H1 locs1 ls hl g1 g2 hS1
/-- a constructor's words; and over a nest -/
def gWi (own : String) (idx : Nat) (y : MethodName) (yb : ByteArray) (yn : Nat) : Prop :=
  Cond.methodLink own idx y ∈ gT ∧ Cond.instanceMethod y ∈ gT ∧ Cond.initialized y.cls ∈ gT ∧ Cond.code y yb yn none ∈ gT ∧ y.name = "<init>" ∧ (y.cls ≠ "java/lang/invoke/MethodHandle" ∧ y.cls ≠ "java/lang/invoke/VarHandle" ∧ (parseMethodDescriptor y.desc).map (fun d => d.parameters.length) = some 0)
def gWin (own : String) (idx : Nat) (host : String) (y : MethodName) (yb : ByteArray) (yn : Nat) : Prop :=
  Cond.methodLinkNest own idx y host ∈ gNest ∧ Cond.instanceMethod y ∈ gT ∧ Cond.initialized y.cls ∈ gT ∧ Cond.code y yb yn none ∈ gT ∧ y.name = "<init>" ∧ (y.cls ≠ "java/lang/invoke/MethodHandle" ∧ y.cls ≠ "java/lang/invoke/VarHandle" ∧ (parseMethodDescriptor y.desc).map (fun d => d.parameters.length) = some 0)
theorem h_callI (C : hC p s m args meth c D cI cJ A cc nL own) {idx q : Nat} {y : MethodName} {yb : ByteArray} {yn : Nat} {rm : Room} {mc ms : Nat} {ws0 : va_W} {e0 : va_E} {Pw : va_W → Prop} (hM : kM l D cI cJ y yb yn rm [.ref q] mc ms [(q, e0)] Pw) (hrm : rm.cells = mc ∧ rm.slots = ms) (hw : gWi own idx y yb yn) (hR : rm.frames + 1 ≤ R.frames ∧ 8 + (yn + 11) + rm.locals ≤ R.locals) (hcat : (st.map fun v => v.category).sum ≤ 8) (hdg : decode cc pc = .ok (.invokespecial idx, 3)) (hf : cells + mc ≤ R.cells ∧ slots + ms ≤ R.slots) (hws : ws = ws0 ++ [(q, e0)])
    (k : ∀ w1, Pw w1 → hG p l e R s m args below meth c D A nL (cells + mc) (slots + ms) Q (ws0 ++ w1) (pc + 3) L st) : hG p l e R s m args below meth c D A nL cells slots Q ws pc L (.ref q :: st) := by
  subst hws
  intro H locs ls hl hP hD hS
  obtain ⟨w1, w2, w3, w4, w5, w6⟩ := hw
  have hts := C.2.2.2.2.1
  exact h_con C hl hP hD hS (va_runI (As := []) (rest := st) ⟨C.1, C.2.1, C.2.2.1, C.2.2.2.1, hts⟩ (hM H.size) (cwI 0 hts (gGood (fun _ h => h) w4) rfl hrm.1 hrm.2 (hts _ w3) (hts _ w1) (hts _ w2) w5 w6 hR) ⟨kPre_blind, fun U hU hW => ⟨rfl, kPre_at C hP hD hU hW⟩⟩ rfl rfl hl.1 rfl (lv_room hcat) hdg hf) k
theorem h_callIN (C : hC p s m args meth c D cI cJ A cc nL own) {idx q : Nat} {host : String} {y : MethodName} {yb : ByteArray} {yn : Nat} {rm : Room} {mc ms : Nat} {ws0 : va_W} {e0 : va_E} {Pw : va_W → Prop} (hM : kM l D cI cJ y yb yn rm [.ref q] mc ms [(q, e0)] Pw) (hrm : rm.cells = mc ∧ rm.slots = ms) (hw : gWin own idx host y yb yn) (hR : rm.frames + 1 ≤ R.frames ∧ 8 + (yn + 11) + rm.locals ≤ R.locals) (hcat : (st.map fun v => v.category).sum ≤ 8) (hdg : decode cc pc = .ok (.invokespecial idx, 3)) (hf : cells + mc ≤ R.cells ∧ slots + ms ≤ R.slots) (hws : ws = ws0 ++ [(q, e0)])
    (k : ∀ w1, Pw w1 → hG p l e R s m args below meth c D A nL (cells + mc) (slots + ms) Q (ws0 ++ w1) (pc + 3) L st) : hG p l e R s m args below meth c D A nL cells slots Q ws pc L (.ref q :: st) := by
  subst hws
  intro H locs ls hl hP hD hS
  obtain ⟨w1, w2, w3, w4, w5, w6⟩ := hw
  have hts := C.2.2.2.2.1
  exact h_con C hl hP hD hS (va_runIN (host := host) (As := []) (rest := st) ⟨C.1, C.2.1, C.2.2.1, C.2.2.2.1, hts⟩ (hM H.size) ⟨va_cnB (host := host) 0 hts (gGood (fun _ h => h) w4) rfl hrm.1 hrm.2 (gB_nest C.2.2.2.2.2.2.2.1 w1) (hts _ w3) w6 hR, w5, hts _ w2⟩ ⟨kPre_blind, fun U hU hW => ⟨rfl, kPre_at C hP hD hU hW⟩⟩ rfl rfl hl.1 rfl (lv_room hcat) hdg hf) k
theorem h_callN (C : hC p s m args meth c D cI cJ A cc nL own) {idx n : Nat} {host : String} {y : MethodName} {yb : ByteArray} {yn : Nat} {rm : Room} {mc ms : Nat} {ws0 wc : va_W} {Pw : va_W → Prop} {As : List Value} {stk : List Value} (hM : kM l D cI cJ y yb yn rm As mc ms wc Pw) (hrm : rm.cells = mc ∧ rm.slots = ms) (hw : gWn own idx host y yb yn none n) (hR : rm.frames + 1 ≤ R.frames ∧ 8 + (yn + 11) + rm.locals ≤ R.locals) (hn : As.length = n) (hstk : stk = As.reverse ++ st) (hcat : (st.map fun v => v.category).sum ≤ 8) (hdg : decode cc pc = .ok (.invokestatic idx, 3)) (hf : cells + mc ≤ R.cells ∧ slots + ms ≤ R.slots) (hws : ws = ws0 ++ wc)
    (k : ∀ w1, Pw w1 → hG p l e R s m args below meth c D A nL (cells + mc) (slots + ms) Q (ws0 ++ w1) (pc + 3) L st) : hG p l e R s m args below meth c D A nL cells slots Q ws pc L stk := by
  subst hws
  intro H locs ls hl hP hD hS
  obtain ⟨w1, w2, w3, w4, w6⟩ := hw
  have hts := C.2.2.2.2.1
  exact h_con C hl hP hD hS (va_runSN (host := host) ⟨C.1, C.2.1, C.2.2.1, C.2.2.2.1, hts⟩ (hM H.size) ⟨va_cnB (host := host) n hts (gGood (fun _ h => h) w4) rfl hrm.1 hrm.2 (gB_nest C.2.2.2.2.2.2.2.1 w1) (hts _ w3) w6 hR, hts _ w2, trivial⟩ ⟨kPre_blind, fun U hU hW => ⟨rfl, kPre_at C hP hD hU hW⟩⟩ rfl hn hl.1 hstk (lv_room hcat) hdg hf) k
theorem hStart {y : MethodName} {yb : ByteArray} {yn : Nat} {rm : Room} {av : List Value} {mc ms : Nat} {wc : va_W} {Pw : va_W → Prop} {L0 : List (Nat × Value)} (own : String) (hy : plainName y.cls = true) (hyc : y.cls = own) (hL0 : lv_args 0 av = L0) (hlen : (lg_sl av).length ≤ yn)
    (body : ∀ (p : Program) (e : Env) (s : State) (m : MethodId) (args : Array Value) (below : List Frame) (meth : Method) (c : Code), hC p s m args meth c D cI cJ (va_A wc s.heap.size) yb yn own → meth.sig.returnType = none → (meth.name = y.name) →
      hG p l e rm s m args below meth c D (va_A wc s.heap.size) yn 0 0 (MQ below (va_Qv (fun w1 : va_W => Pw w1) (fun w1 t => va_P D vwCl w1 t.heap ∧ va_D (va_A wc s.heap.size) w1) (va_A wc s.heap.size)) args s mc ms (va_A wc s.heap.size)) wc 0 L0 []) : kM l D cI cJ y yb yn rm av mc ms wc Pw := by
  intro sz
  refine Met.ofW (cc := yb) (maxL := yn) (ret := none) hy rfl ?_
  intro p e s m args below meth c s₁ B hml hv
  obtain ⟨rfl, hsz, hP, hK, hD, hB⟩ := hv
  have hts := atoms_spec (ws := .code y yb yn none :: gT) B.pre
  have hown : s.vm.findClass own = some m.cls := by rw [← hyc]; exact findClass_of_methodNamed B.named
  have hl := lv_entry av (n := yn) hlen
  rw [lg_entry_eq]
  rw [hL0] at hl
  subst hsz
  exact body p e s m _ below meth c ⟨B.exec, B.bytes, hml, hown, fun w hw => hts w (List.mem_cons_of_mem _ hw), hK, fun q h => Or.inr h, hB, B.notSynchronized⟩ B.returns (name_of_methodNamed B.named B.method).1 s.heap [] _ hl hP hD.self va_S.rf
end HR
