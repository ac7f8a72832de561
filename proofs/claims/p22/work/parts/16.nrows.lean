section N0
variable {p : Program} {l : Launch} {e : Env} {R : Room} {s : State} {m : MethodId} {args : Array Value} {below : List Frame} {meth : Method} {c : Code} {D : va_G} {cI cJ : ClassId} {ad : Nat → Nat} {A : Nat → Prop} {cc : ByteArray} {nL : Nat} {own : String} {cells slots : Nat} {Q : State → Prop} {σ : gSt} {pc : Nat} {L L' : List (Nat × Value)} {st : List Value}
theorem lg_cmp0 {x y : Int64} : lg_cmp x y = 0 ↔ x = y := by
  unfold lg_cmp
  constructor
  · intro h
    split at h
    · exact absurd h (by decide)
    · split at h
      · assumption
      · exact absurd h (by decide)
  · intro h
    subst h
    have h1 : ¬ x < x := by rw [Int64.lt_iff_toInt_lt]; omega
    simp [h1]
theorem gRunH (C : gC p s m args meth c D cI cJ ad A cc nL own) {idx n : Nat} {y : MethodName} {yb : ByteArray} {yn : Nat} {yret : Option FieldType} {hh : List (Nat × Nat × Nat × Nat)} {rm : Room} {As : List Value} {Qc : Array Value → State → Outcome → State → Prop} {XC : String → State → State → Prop} {free : Addr → Prop} {H : Heap} {locs : List Loc} {ls : Array Slot} {stk : List Value}
    (hM : vx_Met l y (.codeWith y yb yn yret hh :: gT) rm (va_Pc As (gPre D cI cJ ad σ H.size)) Qc XC 1 6 free) (hrm : rm.cells = 1 ∧ rm.slots = 6) (hw : Cond.methodLink own idx y ∈ gT ∧ Cond.static y ∈ gT ∧ Cond.initialized y.cls ∈ gT ∧ Cond.codeWith y yb yn yret hh ∈ gT ∧ (y.cls ≠ "java/lang/invoke/MethodHandle" ∧ y.cls ≠ "java/lang/invoke/VarHandle" ∧ (parseMethodDescriptor y.desc).map (fun d => d.parameters.length) = some n)) (hR : rm.frames + 1 ≤ R.frames ∧ 8 + (yn + 11) + rm.locals ≤ R.locals) (hn : As.length = n)
    (hl : lv_has ls nL L) (hP : va_P D vwCl (gw cI cJ ad σ) H) (hS : va_S A s.heap H locs) (hstk : stk = As.reverse ++ st) (hcat : (st.map fun v => v.category).sum ≤ 8) (hdg : decode cc pc = .ok (.invokestatic idx, 3)) (hf : cells + 1 ≤ R.cells ∧ slots + 6 ≤ R.slots) :
    vx_Run p l e R s m args below meth c H locs cells slots 1 6 (F0 m pc ls stk) st (Qc As.toArray) XC free := by
  obtain ⟨w1, w2, w3, w4, w6⟩ := hw
  have hts := C.2.2.2.2.1
  have hG : GoodIn gT (.codeWith y yb yn yret hh :: gT) := by
    intro w hw
    have hw2 : w ∈ gT := by
      rcases List.mem_cons.mp hw with rfl | h1
      · exact w4
      · exact h1
    exact ⟨hw2, good_of_word (gT_good hw2)⟩
  have cw : vx_CSW R s args own idx y yb yn yret hh (.codeWith y yb yn yret hh :: gT) rm 1 6 n :=
    ⟨⟨hrm.1, hrm.2, hR.1, hR.2, pay_in hts hG, List.mem_cons_self⟩, hts _ w4, hts _ w3, ⟨w6.1, w6.2.1⟩, fun sig h => by
      have h2 := w6.2.2
      rw [h] at h2
      exact (Option.some.inj h2).symm, hts _ w1, hts _ w2⟩
  exact vx_runSX ⟨C.1, C.2.1, C.2.2.1, C.2.2.2.1, hts⟩ hM cw ⟨gPre_blind, fun U hU hW => ⟨rfl, gPre_at C hP hS hU hW⟩⟩ rfl hn hl.1 hstk (lv_room hcat) hdg hf
end N0
/-! rows with the heap's size counted from below: gN is gG where the heap holds at least kk cells more than at the method's start; for walks over one world that is never changed -/
def gN (p : Program) (l : Launch) (e : Env) (R : Room) (s : State) (m : MethodId) (args : Array Value) (below : List Frame) (meth : Method) (c : Code) (D : va_G) (cI cJ : ClassId) (ad : Nat → Nat) (A : Nat → Prop) (nL cells slots : Nat) (Q : State → Prop) (kk : Nat) (σ : gSt) (pc : Nat) (L : List (Nat × Value)) (st : List Value) : Prop :=
  ∀ (H : Heap) (locs : List Loc) (ls : Array Slot), lv_has ls nL L → va_P D vwCl (gw cI cJ ad σ) H → va_S A s.heap H locs → s.heap.size + kk ≤ H.size → W p l e R s m args below meth c H locs cells slots Q (F0 m pc ls st)
def gNx (p : Program) (l : Launch) (e : Env) (R : Room) (s : State) (m : MethodId) (args : Array Value) (below : List Frame) (meth : Method) (c : Code) (D : va_G) (cI cJ : ClassId) (ad : Nat → Nat) (A : Nat → Prop) (nL cells slots : Nat) (Q : State → Prop) (kk : Nat) (E : String) (σ : gSt) (pc : Nat) (L : List (Nat × Value)) (st : List Value) : Prop :=
  ∀ (H : Heap) (locs : List Loc) (ls : Array Slot) (q : Addr) (ce : Cell), lv_has ls nL L → va_P D vwCl (gw cI cJ ad σ) H → va_S A s.heap H locs → s.heap.size + kk ≤ H.size → H[q]? = some ce → ce.vm = .none → s.vm.findClass E = some ce.cls → vx_W p l e R s m args below meth c H locs cells slots Q (F0 m pc ls st) q
section NR
variable {p : Program} {l : Launch} {e : Env} {R : Room} {s : State} {m : MethodId} {args : Array Value} {below : List Frame} {meth : Method} {c : Code} {D : va_G} {cI cJ : ClassId} {ad : Nat → Nat} {A : Nat → Prop} {cc : ByteArray} {nL : Nat} {own : String} {cells slots : Nat} {Q : State → Prop} {kk : Nat} {σ : gSt} {pc : Nat} {L L' : List (Nat × Value)} {st : List Value}
theorem n_iconst (C : gC p s m args meth c D cI cJ ad A cc nL own) {n : Int} {v : Int32} (hdg : decode cc pc = .ok (.iconst n, 1)) (hv : Int32.ofInt n = v) (k : (gN p l e R s m args below meth c D cI cJ ad A nL cells slots Q kk σ (pc + 1) L (.int v :: st))) : (gN p l e R s m args below meth c D cI cJ ad A nL cells slots Q kk σ pc L st) :=
  fun H locs ls hl hP hS hN => lv_iconst C.1 C.2.1 hdg hv (k H locs ls hl hP hS hN)
theorem n_bipush (C : gC p s m args meth c D cI cJ ad A cc nL own) {n : Int} {v : Int32} (hdg : decode cc pc = .ok (.bipush n, 2)) (hv : (Int8.ofInt n).toInt32 = v) (k : (gN p l e R s m args below meth c D cI cJ ad A nL cells slots Q kk σ (pc + 2) L (.int v :: st))) : (gN p l e R s m args below meth c D cI cJ ad A nL cells slots Q kk σ pc L st) :=
  fun H locs ls hl hP hS hN => lv_bipush C.1 C.2.1 hdg hv (k H locs ls hl hP hS hN)
theorem n_sipush (C : gC p s m args meth c D cI cJ ad A cc nL own) {n : Int} {v : Int32} (hdg : decode cc pc = .ok (.sipush n, 3)) (hv : (Int16.ofInt n).toInt32 = v) (k : (gN p l e R s m args below meth c D cI cJ ad A nL cells slots Q kk σ (pc + 3) L (.int v :: st))) : (gN p l e R s m args below meth c D cI cJ ad A nL cells slots Q kk σ pc L st) :=
  fun H locs ls hl hP hS hN => lv_sipush C.1 C.2.1 hdg hv (k H locs ls hl hP hS hN)
theorem n_iload_n (C : gC p s m args meth c D cI cJ ad A cc nL own) {q : Fin 4} {i : Nat} {x : Int32} (j : Nat) (hdg : decode cc pc = .ok (.iload_n q, 1)) (hi : (q : Nat) = i) (hj : L[j]? = some (i, .int x)) (k : (gN p l e R s m args below meth c D cI cJ ad A nL cells slots Q kk σ (pc + 1) L (.int x :: st))) : (gN p l e R s m args below meth c D cI cJ ad A nL cells slots Q kk σ pc L st) :=
  fun H locs ls hl hP hS hN => lv_iload_n C.1 C.2.1 hdg hi (lv_at hl j hj) (k H locs ls hl hP hS hN)
theorem n_iload (C : gC p s m args meth c D cI cJ ad A cc nL own) {i : Nat} {x : Int32} (j : Nat) (hdg : decode cc pc = .ok (.iload i, 2)) (hj : L[j]? = some (i, .int x)) (k : (gN p l e R s m args below meth c D cI cJ ad A nL cells slots Q kk σ (pc + 2) L (.int x :: st))) : (gN p l e R s m args below meth c D cI cJ ad A nL cells slots Q kk σ pc L st) :=
  fun H locs ls hl hP hS hN => lv_iload C.1 C.2.1 hdg (lv_at hl j hj) (k H locs ls hl hP hS hN)
theorem n_aload_n (C : gC p s m args meth c D cI cJ ad A cc nL own) {q : Fin 4} {i : Nat} {x : Nat} (j : Nat) (hdg : decode cc pc = .ok (.aload_n q, 1)) (hi : (q : Nat) = i) (hj : L[j]? = some (i, .ref x)) (k : (gN p l e R s m args below meth c D cI cJ ad A nL cells slots Q kk σ (pc + 1) L (.ref x :: st))) : (gN p l e R s m args below meth c D cI cJ ad A nL cells slots Q kk σ pc L st) :=
  fun H locs ls hl hP hS hN => lv_aload_n C.1 C.2.1 hdg hi (lv_at hl j hj) (k H locs ls hl hP hS hN)
theorem n_aload (C : gC p s m args meth c D cI cJ ad A cc nL own) {i : Nat} {x : Nat} (j : Nat) (hdg : decode cc pc = .ok (.aload i, 2)) (hj : L[j]? = some (i, .ref x)) (k : (gN p l e R s m args below meth c D cI cJ ad A nL cells slots Q kk σ (pc + 2) L (.ref x :: st))) : (gN p l e R s m args below meth c D cI cJ ad A nL cells slots Q kk σ pc L st) :=
  fun H locs ls hl hP hS hN => lv_aload C.1 C.2.1 hdg (lv_at hl j hj) (k H locs ls hl hP hS hN)
theorem n_istore_n (C : gC p s m args meth c D cI cJ ad A cc nL own) {q : Fin 4} {i : Nat} {x : Int32} (hdg : decode cc pc = .ok (.istore_n q, 1)) (hi : (q : Nat) = i) (hn : i < nL) (hl' : (i, Value.int x) :: L.filter (fun q => !(q.1 == i) && !(q.1 + 1 == i && q.2.category == 2)) = L') (k : (gN p l e R s m args below meth c D cI cJ ad A nL cells slots Q kk σ (pc + 1) L' st)) : (gN p l e R s m args below meth c D cI cJ ad A nL cells slots Q kk σ pc L (.int x :: st)) :=
  fun H locs ls hl hP hS hN => lv_istore_n C.1 C.2.1 hdg hi hl hn hl' (fun ls' hl2 => k H locs ls' hl2 hP hS hN)
theorem n_istore (C : gC p s m args meth c D cI cJ ad A cc nL own) {i : Nat} {x : Int32} (hdg : decode cc pc = .ok (.istore i, 2)) (hn : i < nL) (hl' : (i, Value.int x) :: L.filter (fun q => !(q.1 == i) && !(q.1 + 1 == i && q.2.category == 2)) = L') (k : (gN p l e R s m args below meth c D cI cJ ad A nL cells slots Q kk σ (pc + 2) L' st)) : (gN p l e R s m args below meth c D cI cJ ad A nL cells slots Q kk σ pc L (.int x :: st)) :=
  fun H locs ls hl hP hS hN => lv_istore C.1 C.2.1 hdg hl hn hl' (fun ls' hl2 => k H locs ls' hl2 hP hS hN)
theorem n_astore_n (C : gC p s m args meth c D cI cJ ad A cc nL own) {q : Fin 4} {i : Nat} {x : Nat} (hdg : decode cc pc = .ok (.astore_n q, 1)) (hi : (q : Nat) = i) (hn : i < nL) (hl' : (i, Value.ref x) :: L.filter (fun q => !(q.1 == i) && !(q.1 + 1 == i && q.2.category == 2)) = L') (k : (gN p l e R s m args below meth c D cI cJ ad A nL cells slots Q kk σ (pc + 1) L' st)) : (gN p l e R s m args below meth c D cI cJ ad A nL cells slots Q kk σ pc L (.ref x :: st)) :=
  fun H locs ls hl hP hS hN => lv_astore_n C.1 C.2.1 hdg hi hl hn hl' (fun ls' hl2 => k H locs ls' hl2 hP hS hN)
theorem n_astore (C : gC p s m args meth c D cI cJ ad A cc nL own) {i : Nat} {x : Nat} (hdg : decode cc pc = .ok (.astore i, 2)) (hn : i < nL) (hl' : (i, Value.ref x) :: L.filter (fun q => !(q.1 == i) && !(q.1 + 1 == i && q.2.category == 2)) = L') (k : (gN p l e R s m args below meth c D cI cJ ad A nL cells slots Q kk σ (pc + 2) L' st)) : (gN p l e R s m args below meth c D cI cJ ad A nL cells slots Q kk σ pc L (.ref x :: st)) :=
  fun H locs ls hl hP hS hN => lv_astore C.1 C.2.1 hdg hl hn hl' (fun ls' hl2 => k H locs ls' hl2 hP hS hN)
theorem n_iinc (C : gC p s m args meth c D cI cJ ad A cc nL own) {i : Nat} {n : Int} {x v : Int32} (j : Nat) (hdg : decode cc pc = .ok (.iinc i n, 3)) (hj : L[j]? = some (i, .int x)) (hv : x + Int32.ofInt n = v) (hn : i < nL) (hl' : (i, Value.int v) :: L.filter (fun q => !(q.1 == i) && !(q.1 + 1 == i && q.2.category == 2)) = L') (k : (gN p l e R s m args below meth c D cI cJ ad A nL cells slots Q kk σ (pc + 3) L' st)) : (gN p l e R s m args below meth c D cI cJ ad A nL cells slots Q kk σ pc L st) :=
  fun H locs ls hl hP hS hN => lv_iinc C.1 C.2.1 hdg hl (k := j) hj hv hn hl' (fun ls' hl2 => k H locs ls' hl2 hP hS hN)
theorem n_iadd (C : gC p s m args meth c D cI cJ ad A cc nL own) {x y : Int32} (hdg : decode cc pc = .ok (.iadd, 1)) (k : (gN p l e R s m args below meth c D cI cJ ad A nL cells slots Q kk σ (pc + 1) L (.int (x + y) :: st))) : (gN p l e R s m args below meth c D cI cJ ad A nL cells slots Q kk σ pc L (.int y :: .int x :: st)) :=
  fun H locs ls hl hP hS hN => lv_iadd C.1 C.2.1 hdg (k H locs ls hl hP hS hN)
theorem n_isub (C : gC p s m args meth c D cI cJ ad A cc nL own) {x y : Int32} (hdg : decode cc pc = .ok (.isub, 1)) (k : (gN p l e R s m args below meth c D cI cJ ad A nL cells slots Q kk σ (pc + 1) L (.int (x - y) :: st))) : (gN p l e R s m args below meth c D cI cJ ad A nL cells slots Q kk σ pc L (.int y :: .int x :: st)) :=
  fun H locs ls hl hP hS hN => lv_isub C.1 C.2.1 hdg (k H locs ls hl hP hS hN)
theorem n_imul (C : gC p s m args meth c D cI cJ ad A cc nL own) {x y : Int32} (hdg : decode cc pc = .ok (.imul, 1)) (k : (gN p l e R s m args below meth c D cI cJ ad A nL cells slots Q kk σ (pc + 1) L (.int (x * y) :: st))) : (gN p l e R s m args below meth c D cI cJ ad A nL cells slots Q kk σ pc L (.int y :: .int x :: st)) :=
  fun H locs ls hl hP hS hN => lv_imul C.1 C.2.1 hdg (k H locs ls hl hP hS hN)
theorem n_iand (C : gC p s m args meth c D cI cJ ad A cc nL own) {x y : Int32} (hdg : decode cc pc = .ok (.iand, 1)) (k : (gN p l e R s m args below meth c D cI cJ ad A nL cells slots Q kk σ (pc + 1) L (.int (x &&& y) :: st))) : (gN p l e R s m args below meth c D cI cJ ad A nL cells slots Q kk σ pc L (.int y :: .int x :: st)) :=
  fun H locs ls hl hP hS hN => lv_iand C.1 C.2.1 hdg (k H locs ls hl hP hS hN)
theorem n_ior (C : gC p s m args meth c D cI cJ ad A cc nL own) {x y : Int32} (hdg : decode cc pc = .ok (.ior, 1)) (k : (gN p l e R s m args below meth c D cI cJ ad A nL cells slots Q kk σ (pc + 1) L (.int (x ||| y) :: st))) : (gN p l e R s m args below meth c D cI cJ ad A nL cells slots Q kk σ pc L (.int y :: .int x :: st)) :=
  fun H locs ls hl hP hS hN => lv_ior C.1 C.2.1 hdg (k H locs ls hl hP hS hN)
theorem n_ishl (C : gC p s m args meth c D cI cJ ad A cc nL own) {x y : Int32} (hdg : decode cc pc = .ok (.ishl, 1)) (k : (gN p l e R s m args below meth c D cI cJ ad A nL cells slots Q kk σ (pc + 1) L (.int (x <<< (y &&& 31)) :: st))) : (gN p l e R s m args below meth c D cI cJ ad A nL cells slots Q kk σ pc L (.int y :: .int x :: st)) :=
  fun H locs ls hl hP hS hN => lv_ishl C.1 C.2.1 hdg (k H locs ls hl hP hS hN)
theorem n_ishr (C : gC p s m args meth c D cI cJ ad A cc nL own) {x y : Int32} (hdg : decode cc pc = .ok (.ishr, 1)) (k : (gN p l e R s m args below meth c D cI cJ ad A nL cells slots Q kk σ (pc + 1) L (.int (x >>> (y &&& 31)) :: st))) : (gN p l e R s m args below meth c D cI cJ ad A nL cells slots Q kk σ pc L (.int y :: .int x :: st)) :=
  fun H locs ls hl hP hS hN => lv_ishr C.1 C.2.1 hdg (k H locs ls hl hP hS hN)
theorem n_irem (C : gC p s m args meth c D cI cJ ad A cc nL own) {x y : Int32} (hdg : decode cc pc = .ok (.irem, 1)) (hne : ¬ y = 0) (k : (gN p l e R s m args below meth c D cI cJ ad A nL cells slots Q kk σ (pc + 1) L (.int (x - x / y * y) :: st))) : (gN p l e R s m args below meth c D cI cJ ad A nL cells slots Q kk σ pc L (.int y :: .int x :: st)) :=
  fun H locs ls hl hP hS hN => lv_irem C.1 C.2.1 hdg hne (k H locs ls hl hP hS hN)
theorem n_goto (C : gC p s m args meth c D cI cJ ad A cc nL own) {off : Int} {tgt : Nat} (hdg : decode cc pc = .ok (.goto off, 3)) (ht : (pc : Int) + off = (tgt : Int)) (k : (gN p l e R s m args below meth c D cI cJ ad A nL cells slots Q kk σ tgt L st)) : (gN p l e R s m args below meth c D cI cJ ad A nL cells slots Q kk σ pc L st) :=
  fun H locs ls hl hP hS hN => lv_goto C.1 C.2.1 hdg ht (k H locs ls hl hP hS hN)
theorem n_dup (C : gC p s m args meth c D cI cJ ad A cc nL own) {a : Value} (hdg : decode cc pc = .ok (.dup, 1)) (ha : a.category = 1) (k : (gN p l e R s m args below meth c D cI cJ ad A nL cells slots Q kk σ (pc + 1) L (a :: a :: st))) : (gN p l e R s m args below meth c D cI cJ ad A nL cells slots Q kk σ pc L (a :: st)) :=
  fun H locs ls hl hP hS hN => lv_dup C.1 C.2.1 hdg ha (k H locs ls hl hP hS hN)
theorem n_pop (C : gC p s m args meth c D cI cJ ad A cc nL own) {a : Value} (hdg : decode cc pc = .ok (.pop, 1)) (ha : a.category = 1) (k : (gN p l e R s m args below meth c D cI cJ ad A nL cells slots Q kk σ (pc + 1) L st)) : (gN p l e R s m args below meth c D cI cJ ad A nL cells slots Q kk σ pc L (a :: st)) :=
  fun H locs ls hl hP hS hN => lv_pop C.1 C.2.1 hdg ha (k H locs ls hl hP hS hN)
theorem n_loc (js : List Nat) (hj : lv_pick L js = L') (k : (gN p l e R s m args below meth c D cI cJ ad A nL cells slots Q kk σ pc L' st)) : (gN p l e R s m args below meth c D cI cJ ad A nL cells slots Q kk σ pc L st) :=
  fun H locs ls hl hP hS hN => k H locs ls (lv_sub hl js hj) hP hS hN
theorem n_icmp_eq_t (C : gC p s m args meth c D cI cJ ad A cc nL own) {x y : Int32} {off : Int} {tgt : Nat} (hdg : decode cc pc = .ok (.if_icmp .eq off, 3)) (ht : (pc : Int) + off = (tgt : Int)) (h : x = y) (k1 : (gN p l e R s m args below meth c D cI cJ ad A nL cells slots Q kk σ tgt L st)) : (gN p l e R s m args below meth c D cI cJ ad A nL cells slots Q kk σ pc L (.int y :: .int x :: st)) :=
  fun H locs ls hl hP hS hN => lv_icmp_eq C.1 C.2.1 hdg ht (fun _ => k1 H locs ls hl hP hS hN) (fun h2 => absurd h h2)
theorem n_icmp_eq_f (C : gC p s m args meth c D cI cJ ad A cc nL own) {x y : Int32} {off : Int} {tgt : Nat} (hdg : decode cc pc = .ok (.if_icmp .eq off, 3)) (ht : (pc : Int) + off = (tgt : Int)) (h : ¬ x = y) (k2 : (gN p l e R s m args below meth c D cI cJ ad A nL cells slots Q kk σ (pc + 3) L st)) : (gN p l e R s m args below meth c D cI cJ ad A nL cells slots Q kk σ pc L (.int y :: .int x :: st)) :=
  fun H locs ls hl hP hS hN => lv_icmp_eq C.1 C.2.1 hdg ht (fun h2 => absurd h2 h) (fun _ => k2 H locs ls hl hP hS hN)
theorem n_if_eq_t (C : gC p s m args meth c D cI cJ ad A cc nL own) {x : Int32} {off : Int} {tgt : Nat} (hdg : decode cc pc = .ok (.ifCond .eq off, 3)) (ht : (pc : Int) + off = (tgt : Int)) (h : x = 0) (k1 : (gN p l e R s m args below meth c D cI cJ ad A nL cells slots Q kk σ tgt L st)) : (gN p l e R s m args below meth c D cI cJ ad A nL cells slots Q kk σ pc L (.int x :: st)) :=
  fun H locs ls hl hP hS hN => lv_if_eq C.1 C.2.1 hdg ht (fun _ => k1 H locs ls hl hP hS hN) (fun h2 => absurd h h2)
theorem n_if_eq_f (C : gC p s m args meth c D cI cJ ad A cc nL own) {x : Int32} {off : Int} {tgt : Nat} (hdg : decode cc pc = .ok (.ifCond .eq off, 3)) (ht : (pc : Int) + off = (tgt : Int)) (h : ¬ x = 0) (k2 : (gN p l e R s m args below meth c D cI cJ ad A nL cells slots Q kk σ (pc + 3) L st)) : (gN p l e R s m args below meth c D cI cJ ad A nL cells slots Q kk σ pc L (.int x :: st)) :=
  fun H locs ls hl hP hS hN => lv_if_eq C.1 C.2.1 hdg ht (fun h2 => absurd h2 h) (fun _ => k2 H locs ls hl hP hS hN)
theorem n_icmp_ne_t (C : gC p s m args meth c D cI cJ ad A cc nL own) {x y : Int32} {off : Int} {tgt : Nat} (hdg : decode cc pc = .ok (.if_icmp .ne off, 3)) (ht : (pc : Int) + off = (tgt : Int)) (h : x = y) (k1 : (gN p l e R s m args below meth c D cI cJ ad A nL cells slots Q kk σ (pc + 3) L st)) : (gN p l e R s m args below meth c D cI cJ ad A nL cells slots Q kk σ pc L (.int y :: .int x :: st)) :=
  fun H locs ls hl hP hS hN => lv_icmp_ne C.1 C.2.1 hdg ht (fun h2 => absurd h h2) (fun _ => k1 H locs ls hl hP hS hN)
theorem n_icmp_ne_f (C : gC p s m args meth c D cI cJ ad A cc nL own) {x y : Int32} {off : Int} {tgt : Nat} (hdg : decode cc pc = .ok (.if_icmp .ne off, 3)) (ht : (pc : Int) + off = (tgt : Int)) (h : ¬ x = y) (k2 : (gN p l e R s m args below meth c D cI cJ ad A nL cells slots Q kk σ tgt L st)) : (gN p l e R s m args below meth c D cI cJ ad A nL cells slots Q kk σ pc L (.int y :: .int x :: st)) :=
  fun H locs ls hl hP hS hN => lv_icmp_ne C.1 C.2.1 hdg ht (fun _ => k2 H locs ls hl hP hS hN) (fun h2 => absurd h2 h)
theorem n_if_ne_t (C : gC p s m args meth c D cI cJ ad A cc nL own) {x : Int32} {off : Int} {tgt : Nat} (hdg : decode cc pc = .ok (.ifCond .ne off, 3)) (ht : (pc : Int) + off = (tgt : Int)) (h : x = 0) (k1 : (gN p l e R s m args below meth c D cI cJ ad A nL cells slots Q kk σ (pc + 3) L st)) : (gN p l e R s m args below meth c D cI cJ ad A nL cells slots Q kk σ pc L (.int x :: st)) :=
  fun H locs ls hl hP hS hN => lv_if_ne C.1 C.2.1 hdg ht (fun h2 => absurd h h2) (fun _ => k1 H locs ls hl hP hS hN)
theorem n_if_ne_f (C : gC p s m args meth c D cI cJ ad A cc nL own) {x : Int32} {off : Int} {tgt : Nat} (hdg : decode cc pc = .ok (.ifCond .ne off, 3)) (ht : (pc : Int) + off = (tgt : Int)) (h : ¬ x = 0) (k2 : (gN p l e R s m args below meth c D cI cJ ad A nL cells slots Q kk σ tgt L st)) : (gN p l e R s m args below meth c D cI cJ ad A nL cells slots Q kk σ pc L (.int x :: st)) :=
  fun H locs ls hl hP hS hN => lv_if_ne C.1 C.2.1 hdg ht (fun _ => k2 H locs ls hl hP hS hN) (fun h2 => absurd h2 h)
theorem n_icmp_lt_t (C : gC p s m args meth c D cI cJ ad A cc nL own) {x y : Int32} {off : Int} {tgt : Nat} (hdg : decode cc pc = .ok (.if_icmp .lt off, 3)) (ht : (pc : Int) + off = (tgt : Int)) (h : x < y) (k1 : (gN p l e R s m args below meth c D cI cJ ad A nL cells slots Q kk σ tgt L st)) : (gN p l e R s m args below meth c D cI cJ ad A nL cells slots Q kk σ pc L (.int y :: .int x :: st)) :=
  fun H locs ls hl hP hS hN => lv_icmp_lt C.1 C.2.1 hdg ht (fun _ => k1 H locs ls hl hP hS hN) (fun h2 => absurd h h2)
theorem n_icmp_lt_f (C : gC p s m args meth c D cI cJ ad A cc nL own) {x y : Int32} {off : Int} {tgt : Nat} (hdg : decode cc pc = .ok (.if_icmp .lt off, 3)) (ht : (pc : Int) + off = (tgt : Int)) (h : ¬ x < y) (k2 : (gN p l e R s m args below meth c D cI cJ ad A nL cells slots Q kk σ (pc + 3) L st)) : (gN p l e R s m args below meth c D cI cJ ad A nL cells slots Q kk σ pc L (.int y :: .int x :: st)) :=
  fun H locs ls hl hP hS hN => lv_icmp_lt C.1 C.2.1 hdg ht (fun h2 => absurd h2 h) (fun _ => k2 H locs ls hl hP hS hN)
theorem n_if_lt_t (C : gC p s m args meth c D cI cJ ad A cc nL own) {x : Int32} {off : Int} {tgt : Nat} (hdg : decode cc pc = .ok (.ifCond .lt off, 3)) (ht : (pc : Int) + off = (tgt : Int)) (h : x < 0) (k1 : (gN p l e R s m args below meth c D cI cJ ad A nL cells slots Q kk σ tgt L st)) : (gN p l e R s m args below meth c D cI cJ ad A nL cells slots Q kk σ pc L (.int x :: st)) :=
  fun H locs ls hl hP hS hN => lv_if_lt C.1 C.2.1 hdg ht (fun _ => k1 H locs ls hl hP hS hN) (fun h2 => absurd h h2)
theorem n_if_lt_f (C : gC p s m args meth c D cI cJ ad A cc nL own) {x : Int32} {off : Int} {tgt : Nat} (hdg : decode cc pc = .ok (.ifCond .lt off, 3)) (ht : (pc : Int) + off = (tgt : Int)) (h : ¬ x < 0) (k2 : (gN p l e R s m args below meth c D cI cJ ad A nL cells slots Q kk σ (pc + 3) L st)) : (gN p l e R s m args below meth c D cI cJ ad A nL cells slots Q kk σ pc L (.int x :: st)) :=
  fun H locs ls hl hP hS hN => lv_if_lt C.1 C.2.1 hdg ht (fun h2 => absurd h2 h) (fun _ => k2 H locs ls hl hP hS hN)
theorem n_icmp_ge_t (C : gC p s m args meth c D cI cJ ad A cc nL own) {x y : Int32} {off : Int} {tgt : Nat} (hdg : decode cc pc = .ok (.if_icmp .ge off, 3)) (ht : (pc : Int) + off = (tgt : Int)) (h : y ≤ x) (k1 : (gN p l e R s m args below meth c D cI cJ ad A nL cells slots Q kk σ tgt L st)) : (gN p l e R s m args below meth c D cI cJ ad A nL cells slots Q kk σ pc L (.int y :: .int x :: st)) :=
  fun H locs ls hl hP hS hN => lv_icmp_ge C.1 C.2.1 hdg ht (fun _ => k1 H locs ls hl hP hS hN) (fun h2 => absurd h h2)
theorem n_icmp_ge_f (C : gC p s m args meth c D cI cJ ad A cc nL own) {x y : Int32} {off : Int} {tgt : Nat} (hdg : decode cc pc = .ok (.if_icmp .ge off, 3)) (ht : (pc : Int) + off = (tgt : Int)) (h : ¬ y ≤ x) (k2 : (gN p l e R s m args below meth c D cI cJ ad A nL cells slots Q kk σ (pc + 3) L st)) : (gN p l e R s m args below meth c D cI cJ ad A nL cells slots Q kk σ pc L (.int y :: .int x :: st)) :=
  fun H locs ls hl hP hS hN => lv_icmp_ge C.1 C.2.1 hdg ht (fun h2 => absurd h2 h) (fun _ => k2 H locs ls hl hP hS hN)
theorem n_if_ge_t (C : gC p s m args meth c D cI cJ ad A cc nL own) {x : Int32} {off : Int} {tgt : Nat} (hdg : decode cc pc = .ok (.ifCond .ge off, 3)) (ht : (pc : Int) + off = (tgt : Int)) (h : 0 ≤ x) (k1 : (gN p l e R s m args below meth c D cI cJ ad A nL cells slots Q kk σ tgt L st)) : (gN p l e R s m args below meth c D cI cJ ad A nL cells slots Q kk σ pc L (.int x :: st)) :=
  fun H locs ls hl hP hS hN => lv_if_ge C.1 C.2.1 hdg ht (fun _ => k1 H locs ls hl hP hS hN) (fun h2 => absurd h h2)
theorem n_if_ge_f (C : gC p s m args meth c D cI cJ ad A cc nL own) {x : Int32} {off : Int} {tgt : Nat} (hdg : decode cc pc = .ok (.ifCond .ge off, 3)) (ht : (pc : Int) + off = (tgt : Int)) (h : ¬ 0 ≤ x) (k2 : (gN p l e R s m args below meth c D cI cJ ad A nL cells slots Q kk σ (pc + 3) L st)) : (gN p l e R s m args below meth c D cI cJ ad A nL cells slots Q kk σ pc L (.int x :: st)) :=
  fun H locs ls hl hP hS hN => lv_if_ge C.1 C.2.1 hdg ht (fun h2 => absurd h2 h) (fun _ => k2 H locs ls hl hP hS hN)
theorem n_icmp_gt_t (C : gC p s m args meth c D cI cJ ad A cc nL own) {x y : Int32} {off : Int} {tgt : Nat} (hdg : decode cc pc = .ok (.if_icmp .gt off, 3)) (ht : (pc : Int) + off = (tgt : Int)) (h : y < x) (k1 : (gN p l e R s m args below meth c D cI cJ ad A nL cells slots Q kk σ tgt L st)) : (gN p l e R s m args below meth c D cI cJ ad A nL cells slots Q kk σ pc L (.int y :: .int x :: st)) :=
  fun H locs ls hl hP hS hN => lv_icmp_gt C.1 C.2.1 hdg ht (fun _ => k1 H locs ls hl hP hS hN) (fun h2 => absurd h h2)
theorem n_icmp_gt_f (C : gC p s m args meth c D cI cJ ad A cc nL own) {x y : Int32} {off : Int} {tgt : Nat} (hdg : decode cc pc = .ok (.if_icmp .gt off, 3)) (ht : (pc : Int) + off = (tgt : Int)) (h : ¬ y < x) (k2 : (gN p l e R s m args below meth c D cI cJ ad A nL cells slots Q kk σ (pc + 3) L st)) : (gN p l e R s m args below meth c D cI cJ ad A nL cells slots Q kk σ pc L (.int y :: .int x :: st)) :=
  fun H locs ls hl hP hS hN => lv_icmp_gt C.1 C.2.1 hdg ht (fun h2 => absurd h2 h) (fun _ => k2 H locs ls hl hP hS hN)
theorem n_if_gt_t (C : gC p s m args meth c D cI cJ ad A cc nL own) {x : Int32} {off : Int} {tgt : Nat} (hdg : decode cc pc = .ok (.ifCond .gt off, 3)) (ht : (pc : Int) + off = (tgt : Int)) (h : 0 < x) (k1 : (gN p l e R s m args below meth c D cI cJ ad A nL cells slots Q kk σ tgt L st)) : (gN p l e R s m args below meth c D cI cJ ad A nL cells slots Q kk σ pc L (.int x :: st)) :=
  fun H locs ls hl hP hS hN => lv_if_gt C.1 C.2.1 hdg ht (fun _ => k1 H locs ls hl hP hS hN) (fun h2 => absurd h h2)
theorem n_if_gt_f (C : gC p s m args meth c D cI cJ ad A cc nL own) {x : Int32} {off : Int} {tgt : Nat} (hdg : decode cc pc = .ok (.ifCond .gt off, 3)) (ht : (pc : Int) + off = (tgt : Int)) (h : ¬ 0 < x) (k2 : (gN p l e R s m args below meth c D cI cJ ad A nL cells slots Q kk σ (pc + 3) L st)) : (gN p l e R s m args below meth c D cI cJ ad A nL cells slots Q kk σ pc L (.int x :: st)) :=
  fun H locs ls hl hP hS hN => lv_if_gt C.1 C.2.1 hdg ht (fun h2 => absurd h2 h) (fun _ => k2 H locs ls hl hP hS hN)
theorem n_icmp_le_t (C : gC p s m args meth c D cI cJ ad A cc nL own) {x y : Int32} {off : Int} {tgt : Nat} (hdg : decode cc pc = .ok (.if_icmp .le off, 3)) (ht : (pc : Int) + off = (tgt : Int)) (h : x ≤ y) (k1 : (gN p l e R s m args below meth c D cI cJ ad A nL cells slots Q kk σ tgt L st)) : (gN p l e R s m args below meth c D cI cJ ad A nL cells slots Q kk σ pc L (.int y :: .int x :: st)) :=
  fun H locs ls hl hP hS hN => lv_icmp_le C.1 C.2.1 hdg ht (fun _ => k1 H locs ls hl hP hS hN) (fun h2 => absurd h h2)
theorem n_icmp_le_f (C : gC p s m args meth c D cI cJ ad A cc nL own) {x y : Int32} {off : Int} {tgt : Nat} (hdg : decode cc pc = .ok (.if_icmp .le off, 3)) (ht : (pc : Int) + off = (tgt : Int)) (h : ¬ x ≤ y) (k2 : (gN p l e R s m args below meth c D cI cJ ad A nL cells slots Q kk σ (pc + 3) L st)) : (gN p l e R s m args below meth c D cI cJ ad A nL cells slots Q kk σ pc L (.int y :: .int x :: st)) :=
  fun H locs ls hl hP hS hN => lv_icmp_le C.1 C.2.1 hdg ht (fun h2 => absurd h2 h) (fun _ => k2 H locs ls hl hP hS hN)
theorem n_if_le_t (C : gC p s m args meth c D cI cJ ad A cc nL own) {x : Int32} {off : Int} {tgt : Nat} (hdg : decode cc pc = .ok (.ifCond .le off, 3)) (ht : (pc : Int) + off = (tgt : Int)) (h : x ≤ 0) (k1 : (gN p l e R s m args below meth c D cI cJ ad A nL cells slots Q kk σ tgt L st)) : (gN p l e R s m args below meth c D cI cJ ad A nL cells slots Q kk σ pc L (.int x :: st)) :=
  fun H locs ls hl hP hS hN => lv_if_le C.1 C.2.1 hdg ht (fun _ => k1 H locs ls hl hP hS hN) (fun h2 => absurd h h2)
theorem n_if_le_f (C : gC p s m args meth c D cI cJ ad A cc nL own) {x : Int32} {off : Int} {tgt : Nat} (hdg : decode cc pc = .ok (.ifCond .le off, 3)) (ht : (pc : Int) + off = (tgt : Int)) (h : ¬ x ≤ 0) (k2 : (gN p l e R s m args below meth c D cI cJ ad A nL cells slots Q kk σ (pc + 3) L st)) : (gN p l e R s m args below meth c D cI cJ ad A nL cells slots Q kk σ pc L (.int x :: st)) :=
  fun H locs ls hl hP hS hN => lv_if_le C.1 C.2.1 hdg ht (fun h2 => absurd h2 h) (fun _ => k2 H locs ls hl hP hS hN)
theorem n_eq {x v : Int32} (h : x = v) (k : gN p l e R s m args below meth c D cI cJ ad A nL cells slots Q kk σ pc L (.int v :: st)) : gN p l e R s m args below meth c D cI cJ ad A nL cells slots Q kk σ pc L (.int x :: st) := by rw [h]; exact k
theorem n_eqL {x v : Int64} (h : x = v) (k : gN p l e R s m args below meth c D cI cJ ad A nL cells slots Q kk σ pc L (.long v :: st)) : gN p l e R s m args below meth c D cI cJ ad A nL cells slots Q kk σ pc L (.long x :: st) := by rw [h]; exact k
theorem n_less {k1 : Nat} (h : k1 ≤ kk) (k : gN p l e R s m args below meth c D cI cJ ad A nL cells slots Q k1 σ pc L st) : gN p l e R s m args below meth c D cI cJ ad A nL cells slots Q kk σ pc L st := fun H locs ls hl hP hS hN => k H locs ls hl hP hS (Nat.le_trans (Nat.add_le_add_left h _) hN)
theorem n_wide {c1 s1 : Nat} (h1 : cells ≤ c1) (h2 : slots ≤ s1) (k : gN p l e R s m args below meth c D cI cJ ad A nL c1 s1 Q kk σ pc L st) : gN p l e R s m args below meth c D cI cJ ad A nL cells slots Q kk σ pc L st := fun H locs ls hl hP hS hN => W.widen h1 h2 (k H locs ls hl hP hS hN)
theorem n_idiv (C : gC p s m args meth c D cI cJ ad A cc nL own) {x y : Int32} (hdg : decode cc pc = .ok (.idiv, 1)) (hne : ¬ y = 0) (k : gN p l e R s m args below meth c D cI cJ ad A nL cells slots Q kk σ (pc + 1) L (.int (x / y) :: st)) : gN p l e R s m args below meth c D cI cJ ad A nL cells slots Q kk σ pc L (.int y :: .int x :: st) :=
  fun H locs ls hl hP hS hN => lv_idiv C.1 C.2.1 hdg hne (k H locs ls hl hP hS hN)
theorem n_ldc (C : gC p s m args meth c D cI cJ ad A cc nL own) {ix : Nat} {v : Int32} (hw : Cond.constant own ix v ∈ gT) (hdg : decode cc pc = .ok (.ldc ix, 2)) (k : gN p l e R s m args below meth c D cI cJ ad A nL cells slots Q kk σ (pc + 2) L (.int v :: st)) : gN p l e R s m args below meth c D cI cJ ad A nL cells slots Q kk σ pc L st :=
  fun H locs ls hl hP hS hN => lv_ldc C.1 C.2.1 C.2.2.2.1 (C.2.2.2.2.1 _ hw) hdg (k H locs ls hl hP hS hN)
theorem n_ldc2 (C : gC p s m args meth c D cI cJ ad A cc nL own) {ix : Nat} {v : Int64} (hw : Cond.constantLong own ix v ∈ gT) (hdg : decode cc pc = .ok (.ldc2_w ix, 3)) (k : gN p l e R s m args below meth c D cI cJ ad A nL cells slots Q kk σ (pc + 3) L (.long v :: st)) : gN p l e R s m args below meth c D cI cJ ad A nL cells slots Q kk σ pc L st :=
  fun H locs ls hl hP hS hN => lv_ldc2 C.1 C.2.1 C.2.2.2.1 (C.2.2.2.2.1 _ hw) hdg (k H locs ls hl hP hS hN)
theorem n_i2l (C : gC p s m args meth c D cI cJ ad A cc nL own) {x : Int32} {v : Int64} (hdg : decode cc pc = .ok (.i2l, 1)) (h : x.toInt64 = v) (k : gN p l e R s m args below meth c D cI cJ ad A nL cells slots Q kk σ (pc + 1) L (.long v :: st)) : gN p l e R s m args below meth c D cI cJ ad A nL cells slots Q kk σ pc L (.int x :: st) :=
  fun H locs ls hl hP hS hN => lv_i2l C.1 C.2.1 hdg rfl (by rw [h]; exact k H locs ls hl hP hS hN)
theorem n_ladd (C : gC p s m args meth c D cI cJ ad A cc nL own) {x y : Int64} (hdg : decode cc pc = .ok (.ladd, 1)) (k : gN p l e R s m args below meth c D cI cJ ad A nL cells slots Q kk σ (pc + 1) L (.long (x + y) :: st)) : gN p l e R s m args below meth c D cI cJ ad A nL cells slots Q kk σ pc L (.long y :: .long x :: st) :=
  fun H locs ls hl hP hS hN => lv_ladd C.1 C.2.1 hdg (k H locs ls hl hP hS hN)
theorem n_lmul (C : gC p s m args meth c D cI cJ ad A cc nL own) {x y : Int64} (hdg : decode cc pc = .ok (.lmul, 1)) (k : gN p l e R s m args below meth c D cI cJ ad A nL cells slots Q kk σ (pc + 1) L (.long (x * y) :: st)) : gN p l e R s m args below meth c D cI cJ ad A nL cells slots Q kk σ pc L (.long y :: .long x :: st) :=
  fun H locs ls hl hP hS hN => lv_lmul C.1 C.2.1 hdg (k H locs ls hl hP hS hN)
theorem n_lconst (C : gC p s m args meth c D cI cJ ad A cc nL own) {n : Fin 2} {v : Int64} (hdg : decode cc pc = .ok (.lconst n, 1)) (hv : Int64.ofNat (n : Nat) = v) (k : gN p l e R s m args below meth c D cI cJ ad A nL cells slots Q kk σ (pc + 1) L (.long v :: st)) : gN p l e R s m args below meth c D cI cJ ad A nL cells slots Q kk σ pc L st :=
  fun H locs ls hl hP hS hN => lv_lconst C.1 C.2.1 hdg hv (k H locs ls hl hP hS hN)
theorem n_lload_n (C : gC p s m args meth c D cI cJ ad A cc nL own) {q : Fin 4} {i : Nat} {x : Int64} (j : Nat) (hdg : decode cc pc = .ok (.lload_n q, 1)) (hi : (q : Nat) = i) (hj : L[j]? = some (i, .long x)) (k : gN p l e R s m args below meth c D cI cJ ad A nL cells slots Q kk σ (pc + 1) L (.long x :: st)) : gN p l e R s m args below meth c D cI cJ ad A nL cells slots Q kk σ pc L st :=
  fun H locs ls hl hP hS hN => lv_lload_n C.1 C.2.1 hdg hi (lv_at hl j hj) (k H locs ls hl hP hS hN)
theorem n_lload (C : gC p s m args meth c D cI cJ ad A cc nL own) {i : Nat} {x : Int64} (j : Nat) (hdg : decode cc pc = .ok (.lload i, 2)) (hj : L[j]? = some (i, .long x)) (k : gN p l e R s m args below meth c D cI cJ ad A nL cells slots Q kk σ (pc + 2) L (.long x :: st)) : gN p l e R s m args below meth c D cI cJ ad A nL cells slots Q kk σ pc L st :=
  fun H locs ls hl hP hS hN => lv_lload C.1 C.2.1 hdg (lv_at hl j hj) (k H locs ls hl hP hS hN)
theorem n_lstore_n (C : gC p s m args meth c D cI cJ ad A cc nL own) {q : Fin 4} {i : Nat} {x : Int64} (hdg : decode cc pc = .ok (.lstore_n q, 1)) (hi : (q : Nat) = i) (hn : i + 1 < nL) (hl' : (i, Value.long x) :: L.filter (fun q => !(q.1 == i) && (!(q.1 == i + 1) && !(q.1 + 1 == i && q.2.category == 2))) = L') (k : gN p l e R s m args below meth c D cI cJ ad A nL cells slots Q kk σ (pc + 1) L' st) : gN p l e R s m args below meth c D cI cJ ad A nL cells slots Q kk σ pc L (.long x :: st) :=
  fun H locs ls hl hP hS hN => lv_lstore_n C.1 C.2.1 hdg hi hl hn hl' (fun ls' hl2 => k H locs ls' hl2 hP hS hN)
theorem n_lstore (C : gC p s m args meth c D cI cJ ad A cc nL own) {i : Nat} {x : Int64} (hdg : decode cc pc = .ok (.lstore i, 2)) (hn : i + 1 < nL) (hl' : (i, Value.long x) :: L.filter (fun q => !(q.1 == i) && (!(q.1 == i + 1) && !(q.1 + 1 == i && q.2.category == 2))) = L') (k : gN p l e R s m args below meth c D cI cJ ad A nL cells slots Q kk σ (pc + 2) L' st) : gN p l e R s m args below meth c D cI cJ ad A nL cells slots Q kk σ pc L (.long x :: st) :=
  fun H locs ls hl hP hS hN => lv_lstore C.1 C.2.1 hdg hl hn hl' (fun ls' hl2 => k H locs ls' hl2 hP hS hN)
theorem n_lcmp (C : gC p s m args meth c D cI cJ ad A cc nL own) {x : Int64} (hdg : decode cc pc = .ok (.lcmp, 1)) (k : gN p l e R s m args below meth c D cI cJ ad A nL cells slots Q kk σ (pc + 1) L (.int 0 :: st)) : gN p l e R s m args below meth c D cI cJ ad A nL cells slots Q kk σ pc L (.long x :: .long x :: st) :=
  fun H locs ls hl hP hS hN => W.lcmp C.1 C.2.1 hdg (by rw [show lg_cmp x x = 0 from lg_cmp0.mpr rfl]; exact k H locs ls hl hP hS hN)
theorem n_iald (C : gC p s m args meth c D cI cJ ad A cc nL own) {o n : Nat} {i v : Int32} (j : Nat) (hin : i.toNatClampNeg = j ∧ vp_in i n) (ho : gKd o = 7) (hn : gLn o = n) (hv : σ o j = v) (hdg : decode cc pc = .ok (.iaload, 1)) (k : gN p l e R s m args below meth c D cI cJ ad A nL cells slots Q kk σ (pc + 1) L (.int v :: st)) : gN p l e R s m args below meth c D cI cJ ad A nL cells slots Q kk σ pc L (.int i :: .ref (ad o) :: st) := by
  intro H locs ls hl hP hS hN
  obtain ⟨rfl, hin⟩ := hin
  subst hn
  exact va_iald (D := D) C.1 C.2.1 C.2.2.2.2.2.1 hP o 0 (gw_int ho) rfl hin hdg (by rw [hv]; exact k H locs ls hl hP hS hN)
/-- the script -/
theorem n_sld (C : gC p s m args meth c D cI cJ ad A cc nL own) {b Ln : Nat} {xs : Nat → Int32} (hX0 : va_X b Ln xs s s.heap) (hbl : b < s.heap.size) (hbA : ¬ A b) {i v : Int32} (j : Nat) (hin : i.toNatClampNeg = j ∧ vp_in i Ln) (hv : xs j = v) (hdg : decode cc pc = .ok (.iaload, 1)) (k : gN p l e R s m args below meth c D cI cJ ad A nL cells slots Q kk σ (pc + 1) L (.int v :: st)) : gN p l e R s m args below meth c D cI cJ ad A nL cells slots Q kk σ pc L (.int i :: .ref b :: st) := by
  obtain ⟨rfl, hin⟩ := hin
  exact fun H locs ls hl hP hS hN => va_sld C.1 C.2.1 hX0 hbl hbA hS hin hdg (by rw [hv]; exact k H locs ls hl hP hS hN)
theorem n_slen (C : gC p s m args meth c D cI cJ ad A cc nL own) {b Ln : Nat} {xs : Nat → Int32} (hX0 : va_X b Ln xs s s.heap) (hbl : b < s.heap.size) (hbA : ¬ A b) (hdg : decode cc pc = .ok (.arraylength, 1)) (k : gN p l e R s m args below meth c D cI cJ ad A nL cells slots Q kk σ (pc + 1) L (.int (nI Ln) :: st)) : gN p l e R s m args below meth c D cI cJ ad A nL cells slots Q kk σ pc L (.ref b :: st) :=
  fun H locs ls hl hP hS hN => va_slen C.1 C.2.1 hX0 hbl hbA hS hdg (k H locs ls hl hP hS hN)
/-- a call that may throw, and does not -/
theorem n_callv (C : gC p s m args meth c D cI cJ ad A cc nL own) {idx c0 o n : Nat} {CN : String} {T : u_T} {y : MethodName} {yb : ByteArray} {yn : Nat} {yret : Option FieldType} {rm : Room} {As : List Value} {F : gSt → Option (Int32 × Int32 × gSt)} {stk : List Value} {v : Int32}
    (hM : gMxi l D cI cJ ad y yb yn yret rm (.ref (ad o) :: As) F) (hF : F σ = some ((0 : Int32), v, σ)) (hrm : rm.cells = 1 ∧ rm.slots = 6) (hcl : gCl c0 CN T) (ho : gKd o = c0) (hw : gWv own idx CN y yb yn yret n) (hR : rm.frames + 1 ≤ R.frames ∧ 8 + (yn + 11) + rm.locals ≤ R.locals) (hn : As.length = n) (hstk : stk = As.reverse ++ .ref (ad o) :: st) (hcat : (st.map fun v => v.category).sum ≤ 8) (hdg : decode cc pc = .ok (.invokevirtual idx, 3)) (hf : cells + 1 ≤ R.cells ∧ slots + 6 ≤ R.slots)
    (k : gN p l e R s m args below meth c D cI cJ ad A nL cells slots Q kk σ (pc + 3) L (.int v :: st)) : gN p l e R s m args below meth c D cI cJ ad A nL cells slots Q kk σ pc L stk := by
  intro H locs ls hl hP hS hN T hT X
  have hr := gRunVx (e := e) (below := below) (cells := cells) (slots := slots) C (hM _ _ H.size hF) hrm hcl ho hw hR hn hl hP hS hstk hcat hdg hf
  rcases hr T hT X with ⟨v1, st₀, t, T', L9, h0, X', hL, e1, e2, ⟨⟨r, u, hv, hp, hb⟩, hF9⟩, stp⟩ | ⟨q9, st₀, t, T', L9, E, ce, h0, X', hL, e1, e2, ⟨u, hp, ⟨hE, hgr, hb⟩, hF9⟩, hce, hcv, hcl9, stp⟩
  · cases hv
    obtain ⟨-, rfl⟩ := hp
    obtain ⟨k1, k2, k3⟩ := vx_keep h0 e1 hS (fun q _ h => gA_sub C hS q h) (gA_sub C hS) hL hF9
    obtain ⟨t2, a1, b1⟩ := k T'.heap (locs ++ L9) ls hl (by rw [e1]; exact hb) k3 (Nat.le_trans hN k1) T' rfl X'
    exact ⟨t2, stp t2 a1, b1⟩
  · exact absurd rfl hp
/-- a call that throws: to the handlers, with one cell more -/
theorem n_callx (C : gC p s m args meth c D cI cJ ad A cc nL own) {idx c0 o n : Nat} {CN : String} {T : u_T} {y : MethodName} {yb : ByteArray} {yn : Nat} {yret : Option FieldType} {rm : Room} {As : List Value} {F : gSt → Option (Int32 × Int32 × gSt)} {stk : List Value} {q0 v : Int32}
    (hM : gMxi l D cI cJ ad y yb yn yret rm (.ref (ad o) :: As) F) (hF : F σ = some (q0, v, σ)) (hq : q0 ≠ 0) (hrm : rm.cells = 1 ∧ rm.slots = 6) (hcl : gCl c0 CN T) (ho : gKd o = c0) (hw : gWv own idx CN y yb yn yret n) (hR : rm.frames + 1 ≤ R.frames ∧ 8 + (yn + 11) + rm.locals ≤ R.locals) (hn : As.length = n) (hstk : stk = As.reverse ++ .ref (ad o) :: st) (hcat : (st.map fun v => v.category).sum ≤ 8) (hdg : decode cc pc = .ok (.invokevirtual idx, 3)) (hf : cells + 1 ≤ R.cells ∧ slots + 6 ≤ R.slots)
    (k : gNx p l e R s m args below meth c D cI cJ ad A nL (cells + 1) (slots + 6) Q (kk + 1) (gEx q0) σ pc L st) : gN p l e R s m args below meth c D cI cJ ad A nL cells slots Q kk σ pc L stk := by
  intro H locs ls hl hP hS hN T hT X
  have hr := gRunVx (e := e) (below := below) (cells := cells) (slots := slots) C (hM _ _ H.size hF) hrm hcl ho hw hR hn hl hP hS hstk hcat hdg hf
  rcases hr T hT X with ⟨v1, st₀, t, T', L9, h0, X', hL, e1, e2, ⟨⟨r, u, hv, hp, hb⟩, hF9⟩, stp⟩ | ⟨q9, st₀, t, T', L9, E, ce, h0, X', hL, e1, e2, ⟨u, hp, ⟨hE, hgr, hb⟩, hF9⟩, hce, hcv, hcl9, stp⟩
  · exact absurd hp.1 hq
  · obtain ⟨k1, k2, k3⟩ := vx_keep h0 e1 hS (fun q _ h => gA_sub C hS q h) (gA_sub C hS) hL hF9
    obtain ⟨t2, a1, b1⟩ := k T'.heap (locs ++ L9) ls q9 ce hl (by rw [e1]; exact hb) k3 (by rw [e1]; exact Nat.lt_of_le_of_lt hN hgr) (by rw [e1]; exact hce) hcv (by rw [← hE]; exact hcl9) T' rfl X'
    exact ⟨t2, stp.trans a1, b1⟩
theorem n_catch (C : gC p s m args meth c D cI cJ ad A cc nL own) {hh : List (Nat × Nat × Nat × Nat)} (htab : c.exceptionTable.toList = tableOf hh) (pre suf : List ExceptionTableEntry) (x : ExceptionTableEntry) (hsplit : tableOf hh = pre ++ x :: suf) {E : String} (nms : List String)
    (hpass : ∀ z ∈ pre, z.catchType ≠ 0 ∧ ∃ nm : String, Cond.classLink own z.catchType nm ∈ gT ∧ (E, nm) ∈ gNcs) (hx : covers x pc = true) (h0 : x.catchType ≠ 0) (hlink : Cond.classLink own x.catchType E ∈ gT) (hcast : Cond.castable E E ∈ gNest)
    (k : ∀ q : Addr, gN p l e R s m args below meth c D cI cJ ad A nL cells slots Q kk σ x.handlerPc L [.ref q]) : gNx p l e R s m args below meth c D cI cJ ad A nL cells slots Q kk E σ pc L st := by
  intro H locs ls q ce hl hP hS hN hce hcv hcl
  refine vx_catch C.2.2.2.1 pre x suf (htab.trans hsplit) (fun z hz => Or.inr ?_) hx h0 (C.2.2.2.2.1 _ hlink) (va_Nw.use rfl (gB_nest C.2.2.2.2.2.2.2.2.2.1 hcast)) hce hcv hcl (k q H locs ls hl hP hS hN)
  obtain ⟨z1, nm, z2, z3⟩ := hpass z hz
  exact ⟨z1, nm, C.2.2.2.2.1 _ z2, C.2.2.2.2.2.2.2.2.2.1.2.1 _ z3⟩
end NR
/-! the contracts of the law's own methods over one world: the answer, and at least so many new cells -/
abbrev nQi (D : va_G) (cI cJ : ClassId) (ad : Nat → Nat) (σ : gSt) (r : Int32) (g sz : Nat) : Array Value → State → Outcome → State → Prop := va_Qi (fun r1 (_ : Unit) => r1 = r) (fun _ t => sz + g ≤ t.heap.size ∧ va_P D vwCl (gw cI cJ ad σ) t.heap) (gA ad sz)
abbrev nQl (D : va_G) (cI cJ : ClassId) (ad : Nat → Nat) (σ : gSt) (r : Int64) (g sz : Nat) : Array Value → State → Outcome → State → Prop := va_Ql (fun r1 (_ : Unit) => r1 = r) (fun _ t => sz + g ≤ t.heap.size ∧ va_P D vwCl (gw cI cJ ad σ) t.heap) (gA ad sz)
abbrev nNo : String → State → State → Prop := fun _ _ _ => False
def nMi (l : Launch) (D : va_G) (cI cJ : ClassId) (ad : Nat → Nat) (y : MethodName) (yb : ByteArray) (yn : Nat) (yret : Option FieldType) (rm : Room) (av : List Value) (σ : gSt) (r : Int32) (mc ms g : Nat) : Prop := ∀ sz : Nat, vx_Met l y (.code y yb yn yret :: gT) rm (va_Pc av (gPre D cI cJ ad σ sz)) (nQi D cI cJ ad σ r g sz) nNo mc ms (gA ad sz)
def nMl (l : Launch) (D : va_G) (cI cJ : ClassId) (ad : Nat → Nat) (y : MethodName) (yb : ByteArray) (yn : Nat) (yret : Option FieldType) (rm : Room) (av : List Value) (σ : gSt) (r : Int64) (mc ms g : Nat) : Prop := ∀ sz : Nat, vx_Met l y (.code y yb yn yret :: gT) rm (va_Pc av (gPre D cI cJ ad σ sz)) (nQl D cI cJ ad σ r g sz) nNo mc ms (gA ad sz)
def nMh (l : Launch) (D : va_G) (cI cJ : ClassId) (ad : Nat → Nat) (y : MethodName) (yb : ByteArray) (yn : Nat) (yret : Option FieldType) (hh : List (Nat × Nat × Nat × Nat)) (rm : Room) (av : List Value) (σ : gSt) (r : Int32) (mc ms g : Nat) : Prop := ∀ sz : Nat, vx_Met l y (.codeWith y yb yn yret hh :: gT) rm (va_Pc av (gPre D cI cJ ad σ sz)) (nQi D cI cJ ad σ r g sz) nNo mc ms (gA ad sz)
def nMb (b : Nat) (xs : Nat → Int32) (l : Launch) (D : va_G) (cI cJ : ClassId) (ad : Nat → Nat) (y : MethodName) (yb : ByteArray) (yn : Nat) (yret : Option FieldType) (rm : Room) (av : List Value) (σ : gSt) (r : Int32) (mc ms g : Nat) : Prop := ∀ sz : Nat, vx_Met l y (.code y yb yn yret :: gT) rm (va_Pc av (fun U => gPre D cI cJ ad σ sz U ∧ va_X b 170 xs U U.heap)) (nQi D cI cJ ad σ r g sz) nNo mc ms (gA ad sz)
section NC
variable {p : Program} {l : Launch} {e : Env} {R : Room} {s : State} {m : MethodId} {args : Array Value} {below : List Frame} {meth : Method} {c : Code} {D : va_G} {cI cJ : ClassId} {ad : Nat → Nat} {A : Nat → Prop} {cc : ByteArray} {nL : Nat} {own : String} {cells slots : Nat} {Q : State → Prop} {kk : Nat} {σ : gSt} {pc : Nat} {L L' : List (Nat × Value)} {st : List Value}
theorem nB_blind {b : Nat} {xs : Nat → Int32} {sz : Nat} {av : List Value} : FrameBlind (va_Pc av (fun U => gPre D cI cJ ad σ sz U ∧ va_X b 170 xs U U.heap)) := by
  intro a U g mk q
  obtain ⟨q0, q1, q2⟩ := q
  have h1 := gPre_blind (D := D) (cI := cI) (cJ := cJ) (ad := ad) (σ := σ) (sz := sz) (av := av) a U g mk ⟨q0, q1⟩
  exact ⟨q0, h1.2, va_X.moved (u := U) (U := U.calling g mk a) (Vm.Alike.refl U.vm) q2⟩
/-- a static call of one of these, its run -/
theorem nRun (C : gC p s m args meth c D cI cJ ad A cc nL own) {idx n mc ms : Nat} {y : MethodName} {yb : ByteArray} {yn : Nat} {yret : Option FieldType} {rm : Room} {As : List Value} {B : State → Prop} {Qc : Array Value → State → Outcome → State → Prop} {XC : String → State → State → Prop} {free : Addr → Prop} {H : Heap} {locs : List Loc} {ls : Array Slot} {stk : List Value}
    (hM : vx_Met l y (.code y yb yn yret :: gT) rm (va_Pc As B) Qc XC mc ms free) (hbl : FrameBlind (va_Pc As B)) (hB : ∀ U : State, U.heap = H → s.WarmedH U.vm → B U) (hrm : rm.cells = mc ∧ rm.slots = ms) (hw : gWs own idx y yb yn yret n) (hR : rm.frames + 1 ≤ R.frames ∧ 8 + (yn + 11) + rm.locals ≤ R.locals) (hn : As.length = n)
    (hl : lv_has ls nL L) (hstk : stk = As.reverse ++ st) (hcat : (st.map fun v => v.category).sum ≤ 8) (hdg : decode cc pc = .ok (.invokestatic idx, 3)) (hf : cells + mc ≤ R.cells ∧ slots + ms ≤ R.slots) :
    vx_Run p l e R s m args below meth c H locs cells slots mc ms (F0 m pc ls stk) st (Qc As.toArray) XC free := by
  obtain ⟨w1, w2, w3, w4, w6⟩ := hw
  have hts := C.2.2.2.2.1
  exact vx_runS ⟨C.1, C.2.1, C.2.2.1, C.2.2.2.1, hts⟩ hM ⟨callB_of n hts (gGood (fun _ h => h) w4) rfl hrm.1 hrm.2 (hts _ w3) (hts _ w1) w6 hR, hts _ w2⟩ ⟨hbl, fun U hU hW => ⟨rfl, hB U hU hW⟩⟩ rfl hn hl.1 hstk (lv_room hcat) hdg hf
theorem nGo (C : gC p s m args meth c D cI cJ ad A cc nL own) {mc ms g : Nat} {H : Heap} {locs : List Loc} {ls : Array Slot} {stk : List Value} {a : Array Value} {r : Int32} (hr : vx_Run p l e R s m args below meth c H locs cells slots mc ms (F0 m pc ls stk) st (nQi D cI cJ ad σ r g H.size a) nNo (gA ad H.size)) (hl : lv_has ls nL L) (hS : va_S A s.heap H locs) (hN : s.heap.size + kk ≤ H.size)
    (k : gN p l e R s m args below meth c D cI cJ ad A nL (cells + mc) (slots + ms) Q (kk + g) σ (pc + 3) L (.int r :: st)) : W p l e R s m args below meth c H locs cells slots Q (F0 m pc ls stk) := by
  intro T hT X
  rcases hr T hT X with ⟨v, st₀, t, T', L9, h0, X', hL, e1, e2, ⟨⟨r1, u, hv, hp, hg, hb⟩, hF9⟩, stp⟩ | ⟨q9, st₀, t, T', L9, E, ce, h0, X', hL, e1, e2, hbad, -⟩
  · cases hv
    subst hp
    obtain ⟨k1, k2, k3⟩ := vx_keep h0 e1 hS (fun q _ h => gA_sub C hS q h) (gA_sub C hS) hL hF9
    obtain ⟨t2, a1, b1⟩ := k T'.heap (locs ++ L9) ls hl (by rw [e1]; exact hb) k3 (by rw [e1]; omega) T' rfl X'
    exact ⟨t2, stp t2 a1, b1⟩
  · exact hbad.elim
theorem n_calls (C : gC p s m args meth c D cI cJ ad A cc nL own) {idx n mc ms g : Nat} {y : MethodName} {yb : ByteArray} {yn : Nat} {yret : Option FieldType} {rm : Room} {As : List Value} {r : Int32} {stk : List Value}
    (hM : nMi l D cI cJ ad y yb yn yret rm As σ r mc ms g) (hrm : rm.cells = mc ∧ rm.slots = ms) (hw : gWs own idx y yb yn yret n) (hR : rm.frames + 1 ≤ R.frames ∧ 8 + (yn + 11) + rm.locals ≤ R.locals) (hn : As.length = n) (hstk : stk = As.reverse ++ st) (hcat : (st.map fun v => v.category).sum ≤ 8) (hdg : decode cc pc = .ok (.invokestatic idx, 3)) (hf : cells + mc ≤ R.cells ∧ slots + ms ≤ R.slots)
    (k : gN p l e R s m args below meth c D cI cJ ad A nL (cells + mc) (slots + ms) Q (kk + g) σ (pc + 3) L (.int r :: st)) : gN p l e R s m args below meth c D cI cJ ad A nL cells slots Q kk σ pc L stk :=
  fun H locs ls hl hP hS hN => nGo C (nRun C (hM H.size) gPre_blind (fun U hU hW => gPre_at C hP hS hU hW) hrm hw hR hn hl hstk hcat hdg hf) hl hS hN k
theorem n_callb (C : gC p s m args meth c D cI cJ ad A cc nL own) {b : Nat} {xs : Nat → Int32} (hX0 : va_X b 170 xs s s.heap) (hbl : b < s.heap.size) (hbA : ¬ A b) {idx n mc ms g : Nat} {y : MethodName} {yb : ByteArray} {yn : Nat} {yret : Option FieldType} {rm : Room} {As : List Value} {r : Int32} {stk : List Value}
    (hM : nMb b xs l D cI cJ ad y yb yn yret rm As σ r mc ms g) (hrm : rm.cells = mc ∧ rm.slots = ms) (hw : gWs own idx y yb yn yret n) (hR : rm.frames + 1 ≤ R.frames ∧ 8 + (yn + 11) + rm.locals ≤ R.locals) (hn : As.length = n) (hstk : stk = As.reverse ++ st) (hcat : (st.map fun v => v.category).sum ≤ 8) (hdg : decode cc pc = .ok (.invokestatic idx, 3)) (hf : cells + mc ≤ R.cells ∧ slots + ms ≤ R.slots)
    (k : gN p l e R s m args below meth c D cI cJ ad A nL (cells + mc) (slots + ms) Q (kk + g) σ (pc + 3) L (.int r :: st)) : gN p l e R s m args below meth c D cI cJ ad A nL cells slots Q kk σ pc L stk :=
  fun H locs ls hl hP hS hN => nGo C (nRun C (hM H.size) nB_blind (fun U hU hW => ⟨gPre_at C hP hS hU hW, by rw [hU]; exact va_X.moved hW.alike (va_X.kept hX0 (hS.2.1 b hbl hbA))⟩) hrm hw hR hn hl hstk hcat hdg hf) hl hS hN k
theorem n_calll (C : gC p s m args meth c D cI cJ ad A cc nL own) {idx n mc ms g : Nat} {y : MethodName} {yb : ByteArray} {yn : Nat} {yret : Option FieldType} {rm : Room} {As : List Value} {r : Int64} {stk : List Value}
    (hM : nMl l D cI cJ ad y yb yn yret rm As σ r mc ms g) (hrm : rm.cells = mc ∧ rm.slots = ms) (hw : gWs own idx y yb yn yret n) (hR : rm.frames + 1 ≤ R.frames ∧ 8 + (yn + 11) + rm.locals ≤ R.locals) (hn : As.length = n) (hstk : stk = As.reverse ++ st) (hcat : (st.map fun v => v.category).sum ≤ 8) (hdg : decode cc pc = .ok (.invokestatic idx, 3)) (hf : cells + mc ≤ R.cells ∧ slots + ms ≤ R.slots)
    (k : gN p l e R s m args below meth c D cI cJ ad A nL (cells + mc) (slots + ms) Q (kk + g) σ (pc + 3) L (.long r :: st)) : gN p l e R s m args below meth c D cI cJ ad A nL cells slots Q kk σ pc L stk := by
  intro H locs ls hl hP hS hN T hT X
  have hr := nRun (e := e) (below := below) (cells := cells) (slots := slots) (locs := locs) C (hM H.size) gPre_blind (fun U hU hW => gPre_at C hP hS hU hW) hrm hw hR hn hl hstk hcat hdg hf
  rcases hr T hT X with ⟨v, st₀, t, T', L9, h0, X', hL, e1, e2, ⟨⟨r1, u, hv, hp, hg, hb⟩, hF9⟩, stp⟩ | ⟨q9, st₀, t, T', L9, E, ce, h0, X', hL, e1, e2, hbad, -⟩
  · cases hv
    subst hp
    obtain ⟨k1, k2, k3⟩ := vx_keep h0 e1 hS (fun q _ h => gA_sub C hS q h) (gA_sub C hS) hL hF9
    obtain ⟨t2, a1, b1⟩ := k T'.heap (locs ++ L9) ls hl (by rw [e1]; exact hb) k3 (by rw [e1]; omega) T' rfl X'
    exact ⟨t2, stp t2 a1, b1⟩
  · exact hbad.elim
/-- act, the one with handlers -/
theorem n_callh (C : gC p s m args meth c D cI cJ ad A cc nL own) {idx n : Nat} {y : MethodName} {yb : ByteArray} {yn : Nat} {yret : Option FieldType} {hh : List (Nat × Nat × Nat × Nat)} {rm : Room} {As : List Value} {r : Int32} {stk : List Value}
    (hM : nMh l D cI cJ ad y yb yn yret hh rm As σ r 1 6 1) (hrm : rm.cells = 1 ∧ rm.slots = 6) (hw : Cond.methodLink own idx y ∈ gT ∧ Cond.static y ∈ gT ∧ Cond.initialized y.cls ∈ gT ∧ Cond.codeWith y yb yn yret hh ∈ gT ∧ (y.cls ≠ "java/lang/invoke/MethodHandle" ∧ y.cls ≠ "java/lang/invoke/VarHandle" ∧ (parseMethodDescriptor y.desc).map (fun d => d.parameters.length) = some n)) (hR : rm.frames + 1 ≤ R.frames ∧ 8 + (yn + 11) + rm.locals ≤ R.locals) (hn : As.length = n) (hstk : stk = As.reverse ++ st) (hcat : (st.map fun v => v.category).sum ≤ 8) (hdg : decode cc pc = .ok (.invokestatic idx, 3)) (hf : cells + 1 ≤ R.cells ∧ slots + 6 ≤ R.slots)
    (k : gN p l e R s m args below meth c D cI cJ ad A nL (cells + 1) (slots + 6) Q (kk + 1) σ (pc + 3) L (.int r :: st)) : gN p l e R s m args below meth c D cI cJ ad A nL cells slots Q kk σ pc L stk :=
  fun H locs ls hl hP hS hN => nGo C (gRunH C (hM H.size) hrm hw hR hn hl hP hS hstk hcat hdg hf) hl hS hN k
theorem n_reti (C : gC p s m args meth c D cI cJ ad (gA ad s.heap.size) cc nL own) {v : Int32} {g mc ms : Nat} (hr : meth.sig.returnType = some .int) (hdg : decode cc pc = .ok (.ireturn, 1)) (hg : g ≤ kk) (hc : cells ≤ mc) (hs : slots ≤ ms) : gN p l e R s m args below meth c D cI cJ ad (gA ad s.heap.size) nL cells slots (vx_MQ below (nQi D cI cJ ad σ v g s.heap.size) nNo args s mc ms (gA ad s.heap.size)) kk σ pc L [.int v] := by
  intro H locs ls hl hP hS hN
  have hlk : meth.locks = false := C.2.2.2.2.2.2.2.2.2.2.2
  exact vx_ret (W.widen hc hs (W.iret C.1 C.2.1 hr (fun t ht hW => ⟨⟨v, (), rfl, rfl, by rw [ht]; omega, by show va_P D vwCl _ t.heap; rw [ht]; exact hP⟩, hS.F ht⟩) hS.2.2 hdg hlk))
theorem n_retz (C : gC p s m args meth c D cI cJ ad (gA ad s.heap.size) cc nL own) {v : Int32} {g mc ms : Nat} (hv : v = 0 ∨ v = 1) (hr : meth.sig.returnType = some .boolean) (hdg : decode cc pc = .ok (.ireturn, 1)) (hg : g ≤ kk) (hc : cells ≤ mc) (hs : slots ≤ ms) : gN p l e R s m args below meth c D cI cJ ad (gA ad s.heap.size) nL cells slots (vx_MQ below (nQi D cI cJ ad σ v g s.heap.size) nNo args s mc ms (gA ad s.heap.size)) kk σ pc L [.int v] := by
  intro H locs ls hl hP hS hN
  have hlk : meth.locks = false := C.2.2.2.2.2.2.2.2.2.2.2
  exact vx_ret (W.widen hc hs (W.zret C.1 C.2.1 hr (gz_n hv) (fun t ht hW => ⟨⟨v, (), rfl, rfl, by rw [ht]; omega, by show va_P D vwCl _ t.heap; rw [ht]; exact hP⟩, hS.F ht⟩) hS.2.2 hdg hlk))
theorem n_retl (C : gC p s m args meth c D cI cJ ad (gA ad s.heap.size) cc nL own) {v : Int64} {g mc ms : Nat} (hr : meth.sig.returnType = some .long) (hdg : decode cc pc = .ok (.lreturn, 1)) (hg : g ≤ kk) (hc : cells ≤ mc) (hs : slots ≤ ms) : gN p l e R s m args below meth c D cI cJ ad (gA ad s.heap.size) nL cells slots (vx_MQ below (nQl D cI cJ ad σ v g s.heap.size) nNo args s mc ms (gA ad s.heap.size)) kk σ pc L [.long v] := by
  intro H locs ls hl hP hS hN
  have hlk : meth.locks = false := C.2.2.2.2.2.2.2.2.2.2.2
  exact vx_ret (W.widen hc hs (W.lret C.1 C.2.1 hr (fun t ht hW => ⟨⟨v, (), rfl, rfl, by rw [ht]; omega, by show va_P D vwCl _ t.heap; rw [ht]; exact hP⟩, hS.F ht⟩) hS.2.2 hdg hlk))
theorem nStart {y : MethodName} {yb : ByteArray} {yn : Nat} {yret : Option FieldType} {rm : Room} {av : List Value} {Qc : Nat → Array Value → State → Outcome → State → Prop} {mc ms : Nat} {L0 : List (Nat × Value)} (own : String) (hy : plainName y.cls = true) (hyc : y.cls = own) (hL0 : lv_args 0 av = L0) (hlen : (lg_sl av).length ≤ yn)
    (body : ∀ (p : Program) (e : Env) (s : State) (m : MethodId) (args : Array Value) (below : List Frame) (meth : Method) (c : Code), gC p s m args meth c D cI cJ ad (gA ad s.heap.size) yb yn own → meth.sig.returnType = yret →
      gN p l e rm s m args below meth c D cI cJ ad (gA ad s.heap.size) yn 0 0 (vx_MQ below (Qc s.heap.size) nNo args s mc ms (gA ad s.heap.size)) 0 σ 0 L0 []) : ∀ sz : Nat, vx_Met l y (.code y yb yn yret :: gT) rm (va_Pc av (gPre D cI cJ ad σ sz)) (Qc sz) nNo mc ms (gA ad sz) := by
  intro sz
  refine vx_ofW (cc := yb) (maxL := yn) (ret := yret) hy rfl ?_
  intro p e s m args below meth c s₁ B hml hnt hv
  obtain ⟨rfl, hsz, hP, hK, hi, hB, hZ⟩ := hv
  have hts := atoms_spec (ws := .code y yb yn yret :: gT) B.pre
  have hown : s.vm.findClass own = some m.cls := by rw [← hyc]; exact findClass_of_methodNamed B.named
  have hl := lv_entry av (n := yn) hlen
  rw [lg_entry_eq]
  rw [hL0] at hl
  subst hsz
  exact body p e s m _ below meth c ⟨B.exec, B.bytes, hml, hown, fun w hw => hts w (List.mem_cons_of_mem _ hw), hK, fun q h => Or.inr h, fun k hk => Or.inl ⟨k, hk, rfl⟩, hi, hB, hZ, B.notSynchronized⟩ B.returns s.heap [] _ hl hP va_S.rf (Nat.le_refl _)
theorem nStartB {b : Nat} {xs : Nat → Int32} {y : MethodName} {yb : ByteArray} {yn : Nat} {yret : Option FieldType} {rm : Room} {av : List Value} {Qc : Nat → Array Value → State → Outcome → State → Prop} {mc ms : Nat} {L0 : List (Nat × Value)} (own : String) (hy : plainName y.cls = true) (hyc : y.cls = own) (hL0 : lv_args 0 av = L0) (hlen : (lg_sl av).length ≤ yn)
    (body : ∀ (p : Program) (e : Env) (s : State) (m : MethodId) (args : Array Value) (below : List Frame) (meth : Method) (c : Code), va_X b 170 xs s s.heap → gC p s m args meth c D cI cJ ad (gA ad s.heap.size) yb yn own → meth.sig.returnType = yret →
      gN p l e rm s m args below meth c D cI cJ ad (gA ad s.heap.size) yn 0 0 (vx_MQ below (Qc s.heap.size) nNo args s mc ms (gA ad s.heap.size)) 0 σ 0 L0 []) : ∀ sz : Nat, vx_Met l y (.code y yb yn yret :: gT) rm (va_Pc av (fun U => gPre D cI cJ ad σ sz U ∧ va_X b 170 xs U U.heap)) (Qc sz) nNo mc ms (gA ad sz) := by
  intro sz
  refine vx_ofW (cc := yb) (maxL := yn) (ret := yret) hy rfl ?_
  intro p e s m args below meth c s₁ B hml hnt hv
  obtain ⟨rfl, ⟨hsz, hP, hK, hi, hB, hZ⟩, hXb⟩ := hv
  have hts := atoms_spec (ws := .code y yb yn yret :: gT) B.pre
  have hown : s.vm.findClass own = some m.cls := by rw [← hyc]; exact findClass_of_methodNamed B.named
  have hl := lv_entry av (n := yn) hlen
  rw [lg_entry_eq]
  rw [hL0] at hl
  subst hsz
  exact body p e s m _ below meth c hXb ⟨B.exec, B.bytes, hml, hown, fun w hw => hts w (List.mem_cons_of_mem _ hw), hK, fun q h => Or.inr h, fun k hk => Or.inl ⟨k, hk, rfl⟩, hi, hB, hZ, B.notSynchronized⟩ B.returns s.heap [] _ hl hP va_S.rf (Nat.le_refl _)
theorem nStartH {y : MethodName} {yb : ByteArray} {yn : Nat} {yret : Option FieldType} {hh : List (Nat × Nat × Nat × Nat)} {rm : Room} {av : List Value} {Qc : Nat → Array Value → State → Outcome → State → Prop} {mc ms : Nat} {L0 : List (Nat × Value)} (own : String) (hy : plainName y.cls = true) (hyc : y.cls = own) (hL0 : lv_args 0 av = L0) (hlen : (lg_sl av).length ≤ yn)
    (body : ∀ (p : Program) (e : Env) (s : State) (m : MethodId) (args : Array Value) (below : List Frame) (meth : Method) (c : Code), gC p s m args meth c D cI cJ ad (gA ad s.heap.size) yb yn own → meth.sig.returnType = yret → c.exceptionTable.toList = tableOf hh →
      gN p l e rm s m args below meth c D cI cJ ad (gA ad s.heap.size) yn 0 0 (vx_MQ below (Qc s.heap.size) nNo args s mc ms (gA ad s.heap.size)) 0 σ 0 L0 []) : ∀ sz : Nat, vx_Met l y (.codeWith y yb yn yret hh :: gT) rm (va_Pc av (gPre D cI cJ ad σ sz)) (Qc sz) nNo mc ms (gA ad sz) := by
  intro sz
  refine vx_ofWH (cc := yb) (maxL := yn) (ret := yret) (hh := hh) hy rfl ?_
  intro p e s m args below meth c s₁ B hml hv
  obtain ⟨rfl, hsz, hP, hK, hi, hB, hZ⟩ := hv
  have hts := atoms_spec (ws := .codeWith y yb yn yret hh :: gT) B.pre
  have htab := vx_table (x := y) B (hts _ List.mem_cons_self)
  have hown : s.vm.findClass own = some m.cls := by rw [← hyc]; exact findClass_of_methodNamed B.named
  have hl := lv_entry av (n := yn) hlen
  rw [lg_entry_eq]
  rw [hL0] at hl
  subst hsz
  exact body p e s m _ below meth c ⟨B.exec, B.bytes, hml, hown, fun w hw => hts w (List.mem_cons_of_mem _ hw), hK, fun q h => Or.inr h, fun k hk => Or.inl ⟨k, hk, rfl⟩, hi, hB, hZ, B.notSynchronized⟩ B.returns htab s.heap [] _ hl hP va_S.rf (Nat.le_refl _)
end NC
