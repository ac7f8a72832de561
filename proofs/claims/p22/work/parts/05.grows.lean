/-- what a method's body has at hand, beside its world -/
def gC (p : Program) (s : State) (m : MethodId) (args : Array Value) (meth : Method) (c : Code) (D : va_G) (cI cJ : ClassId) (ad : Nat → Nat) (A : Nat → Prop) (cc : ByteArray) (nL : Nat) (own : String) : Prop :=
  p.tables.exec = Jvm.exec ∧ c.code = cc ∧ c.maxLocals = nL ∧ s.vm.findClass own = some m.cls ∧ (∀ w ∈ gT, w.before args s = true) ∧ va_K D vwCl [(cI, .int)] s ∧ (∀ q, s.heap.size ≤ q → A q) ∧ (∀ k, k < 29 → A (ad k)) ∧ gInj ad ∧ gB s ∧ gZ A s s.heap ∧ meth.locks = false
def gG (p : Program) (l : Launch) (e : Env) (R : Room) (s : State) (m : MethodId) (args : Array Value) (below : List Frame) (meth : Method) (c : Code) (D : va_G) (cI cJ : ClassId) (ad : Nat → Nat) (A : Nat → Prop) (nL cells slots : Nat) (Q : State → Prop) (σ : gSt) (pc : Nat) (L : List (Nat × Value)) (st : List Value) : Prop :=
  ∀ (H : Heap) (locs : List Loc) (ls : Array Slot), lv_has ls nL L → va_P D vwCl (gw cI cJ ad σ) H → va_S A s.heap H locs → W p l e R s m args below meth c H locs cells slots Q (F0 m pc ls st)
section GR
variable {p : Program} {l : Launch} {e : Env} {R : Room} {s : State} {m : MethodId} {args : Array Value} {below : List Frame} {meth : Method} {c : Code} {D : va_G} {cI cJ : ClassId} {ad : Nat → Nat} {A : Nat → Prop} {cc : ByteArray} {nL : Nat} {own : String} {cells slots : Nat} {Q : State → Prop} {σ : gSt} {pc : Nat} {L L' : List (Nat × Value)} {st : List Value}
variable {ρ : Type} {X X1 X2 : Option ρ} {res : ρ}
theorem g_iconst (C : gC p s m args meth c D cI cJ ad A cc nL own) {n : Int} {v : Int32} (hdg : decode cc pc = .ok (.iconst n, 1)) (hv : Int32.ofInt n = v) (k : gX X res (gG p l e R s m args below meth c D cI cJ ad A nL cells slots Q σ (pc + 1) L (.int v :: st))) : gX X res (gG p l e R s m args below meth c D cI cJ ad A nL cells slots Q σ pc L st) :=
  fun hX H locs ls hl hP hS => lv_iconst C.1 C.2.1 hdg hv (k hX H locs ls hl hP hS)
theorem g_bipush (C : gC p s m args meth c D cI cJ ad A cc nL own) {n : Int} {v : Int32} (hdg : decode cc pc = .ok (.bipush n, 2)) (hv : (Int8.ofInt n).toInt32 = v) (k : gX X res (gG p l e R s m args below meth c D cI cJ ad A nL cells slots Q σ (pc + 2) L (.int v :: st))) : gX X res (gG p l e R s m args below meth c D cI cJ ad A nL cells slots Q σ pc L st) :=
  fun hX H locs ls hl hP hS => lv_bipush C.1 C.2.1 hdg hv (k hX H locs ls hl hP hS)
theorem g_sipush (C : gC p s m args meth c D cI cJ ad A cc nL own) {n : Int} {v : Int32} (hdg : decode cc pc = .ok (.sipush n, 3)) (hv : (Int16.ofInt n).toInt32 = v) (k : gX X res (gG p l e R s m args below meth c D cI cJ ad A nL cells slots Q σ (pc + 3) L (.int v :: st))) : gX X res (gG p l e R s m args below meth c D cI cJ ad A nL cells slots Q σ pc L st) :=
  fun hX H locs ls hl hP hS => lv_sipush C.1 C.2.1 hdg hv (k hX H locs ls hl hP hS)
theorem g_iload_n (C : gC p s m args meth c D cI cJ ad A cc nL own) {q : Fin 4} {i : Nat} {x : Int32} (j : Nat) (hdg : decode cc pc = .ok (.iload_n q, 1)) (hi : (q : Nat) = i) (hj : L[j]? = some (i, .int x)) (k : gX X res (gG p l e R s m args below meth c D cI cJ ad A nL cells slots Q σ (pc + 1) L (.int x :: st))) : gX X res (gG p l e R s m args below meth c D cI cJ ad A nL cells slots Q σ pc L st) :=
  fun hX H locs ls hl hP hS => lv_iload_n C.1 C.2.1 hdg hi (lv_at hl j hj) (k hX H locs ls hl hP hS)
theorem g_iload (C : gC p s m args meth c D cI cJ ad A cc nL own) {i : Nat} {x : Int32} (j : Nat) (hdg : decode cc pc = .ok (.iload i, 2)) (hj : L[j]? = some (i, .int x)) (k : gX X res (gG p l e R s m args below meth c D cI cJ ad A nL cells slots Q σ (pc + 2) L (.int x :: st))) : gX X res (gG p l e R s m args below meth c D cI cJ ad A nL cells slots Q σ pc L st) :=
  fun hX H locs ls hl hP hS => lv_iload C.1 C.2.1 hdg (lv_at hl j hj) (k hX H locs ls hl hP hS)
theorem g_aload_n (C : gC p s m args meth c D cI cJ ad A cc nL own) {q : Fin 4} {i : Nat} {x : Nat} (j : Nat) (hdg : decode cc pc = .ok (.aload_n q, 1)) (hi : (q : Nat) = i) (hj : L[j]? = some (i, .ref x)) (k : gX X res (gG p l e R s m args below meth c D cI cJ ad A nL cells slots Q σ (pc + 1) L (.ref x :: st))) : gX X res (gG p l e R s m args below meth c D cI cJ ad A nL cells slots Q σ pc L st) :=
  fun hX H locs ls hl hP hS => lv_aload_n C.1 C.2.1 hdg hi (lv_at hl j hj) (k hX H locs ls hl hP hS)
theorem g_aload (C : gC p s m args meth c D cI cJ ad A cc nL own) {i : Nat} {x : Nat} (j : Nat) (hdg : decode cc pc = .ok (.aload i, 2)) (hj : L[j]? = some (i, .ref x)) (k : gX X res (gG p l e R s m args below meth c D cI cJ ad A nL cells slots Q σ (pc + 2) L (.ref x :: st))) : gX X res (gG p l e R s m args below meth c D cI cJ ad A nL cells slots Q σ pc L st) :=
  fun hX H locs ls hl hP hS => lv_aload C.1 C.2.1 hdg (lv_at hl j hj) (k hX H locs ls hl hP hS)
theorem g_istore_n (C : gC p s m args meth c D cI cJ ad A cc nL own) {q : Fin 4} {i : Nat} {x : Int32} (hdg : decode cc pc = .ok (.istore_n q, 1)) (hi : (q : Nat) = i) (hn : i < nL) (hl' : (i, Value.int x) :: L.filter (fun q => !(q.1 == i) && !(q.1 + 1 == i && q.2.category == 2)) = L') (k : gX X res (gG p l e R s m args below meth c D cI cJ ad A nL cells slots Q σ (pc + 1) L' st)) : gX X res (gG p l e R s m args below meth c D cI cJ ad A nL cells slots Q σ pc L (.int x :: st)) :=
  fun hX H locs ls hl hP hS => lv_istore_n C.1 C.2.1 hdg hi hl hn hl' (fun ls' hl2 => k hX H locs ls' hl2 hP hS)
theorem g_istore (C : gC p s m args meth c D cI cJ ad A cc nL own) {i : Nat} {x : Int32} (hdg : decode cc pc = .ok (.istore i, 2)) (hn : i < nL) (hl' : (i, Value.int x) :: L.filter (fun q => !(q.1 == i) && !(q.1 + 1 == i && q.2.category == 2)) = L') (k : gX X res (gG p l e R s m args below meth c D cI cJ ad A nL cells slots Q σ (pc + 2) L' st)) : gX X res (gG p l e R s m args below meth c D cI cJ ad A nL cells slots Q σ pc L (.int x :: st)) :=
  fun hX H locs ls hl hP hS => lv_istore C.1 C.2.1 hdg hl hn hl' (fun ls' hl2 => k hX H locs ls' hl2 hP hS)
theorem g_astore_n (C : gC p s m args meth c D cI cJ ad A cc nL own) {q : Fin 4} {i : Nat} {x : Nat} (hdg : decode cc pc = .ok (.astore_n q, 1)) (hi : (q : Nat) = i) (hn : i < nL) (hl' : (i, Value.ref x) :: L.filter (fun q => !(q.1 == i) && !(q.1 + 1 == i && q.2.category == 2)) = L') (k : gX X res (gG p l e R s m args below meth c D cI cJ ad A nL cells slots Q σ (pc + 1) L' st)) : gX X res (gG p l e R s m args below meth c D cI cJ ad A nL cells slots Q σ pc L (.ref x :: st)) :=
  fun hX H locs ls hl hP hS => lv_astore_n C.1 C.2.1 hdg hi hl hn hl' (fun ls' hl2 => k hX H locs ls' hl2 hP hS)
theorem g_astore (C : gC p s m args meth c D cI cJ ad A cc nL own) {i : Nat} {x : Nat} (hdg : decode cc pc = .ok (.astore i, 2)) (hn : i < nL) (hl' : (i, Value.ref x) :: L.filter (fun q => !(q.1 == i) && !(q.1 + 1 == i && q.2.category == 2)) = L') (k : gX X res (gG p l e R s m args below meth c D cI cJ ad A nL cells slots Q σ (pc + 2) L' st)) : gX X res (gG p l e R s m args below meth c D cI cJ ad A nL cells slots Q σ pc L (.ref x :: st)) :=
  fun hX H locs ls hl hP hS => lv_astore C.1 C.2.1 hdg hl hn hl' (fun ls' hl2 => k hX H locs ls' hl2 hP hS)
theorem g_iinc (C : gC p s m args meth c D cI cJ ad A cc nL own) {i : Nat} {n : Int} {x v : Int32} (j : Nat) (hdg : decode cc pc = .ok (.iinc i n, 3)) (hj : L[j]? = some (i, .int x)) (hv : x + Int32.ofInt n = v) (hn : i < nL) (hl' : (i, Value.int v) :: L.filter (fun q => !(q.1 == i) && !(q.1 + 1 == i && q.2.category == 2)) = L') (k : gX X res (gG p l e R s m args below meth c D cI cJ ad A nL cells slots Q σ (pc + 3) L' st)) : gX X res (gG p l e R s m args below meth c D cI cJ ad A nL cells slots Q σ pc L st) :=
  fun hX H locs ls hl hP hS => lv_iinc C.1 C.2.1 hdg hl (k := j) hj hv hn hl' (fun ls' hl2 => k hX H locs ls' hl2 hP hS)
/-- the listed places in another order, or fewer -/
theorem g_loc (js : List Nat) (hj : lv_pick L js = L') (k : gX X res (gG p l e R s m args below meth c D cI cJ ad A nL cells slots Q σ pc L' st)) : gX X res (gG p l e R s m args below meth c D cI cJ ad A nL cells slots Q σ pc L st) :=
  fun hX H locs ls hl hP hS => k hX H locs ls (lv_sub hl js hj) hP hS
theorem g_iadd (C : gC p s m args meth c D cI cJ ad A cc nL own) {x y : Int32} (hdg : decode cc pc = .ok (.iadd, 1)) (k : gX X res (gG p l e R s m args below meth c D cI cJ ad A nL cells slots Q σ (pc + 1) L (.int (x + y) :: st))) : gX X res (gG p l e R s m args below meth c D cI cJ ad A nL cells slots Q σ pc L (.int y :: .int x :: st)) :=
  fun hX H locs ls hl hP hS => lv_iadd C.1 C.2.1 hdg (k hX H locs ls hl hP hS)
theorem g_isub (C : gC p s m args meth c D cI cJ ad A cc nL own) {x y : Int32} (hdg : decode cc pc = .ok (.isub, 1)) (k : gX X res (gG p l e R s m args below meth c D cI cJ ad A nL cells slots Q σ (pc + 1) L (.int (x - y) :: st))) : gX X res (gG p l e R s m args below meth c D cI cJ ad A nL cells slots Q σ pc L (.int y :: .int x :: st)) :=
  fun hX H locs ls hl hP hS => lv_isub C.1 C.2.1 hdg (k hX H locs ls hl hP hS)
theorem g_imul (C : gC p s m args meth c D cI cJ ad A cc nL own) {x y : Int32} (hdg : decode cc pc = .ok (.imul, 1)) (k : gX X res (gG p l e R s m args below meth c D cI cJ ad A nL cells slots Q σ (pc + 1) L (.int (x * y) :: st))) : gX X res (gG p l e R s m args below meth c D cI cJ ad A nL cells slots Q σ pc L (.int y :: .int x :: st)) :=
  fun hX H locs ls hl hP hS => lv_imul C.1 C.2.1 hdg (k hX H locs ls hl hP hS)
theorem g_iand (C : gC p s m args meth c D cI cJ ad A cc nL own) {x y : Int32} (hdg : decode cc pc = .ok (.iand, 1)) (k : gX X res (gG p l e R s m args below meth c D cI cJ ad A nL cells slots Q σ (pc + 1) L (.int (x &&& y) :: st))) : gX X res (gG p l e R s m args below meth c D cI cJ ad A nL cells slots Q σ pc L (.int y :: .int x :: st)) :=
  fun hX H locs ls hl hP hS => lv_iand C.1 C.2.1 hdg (k hX H locs ls hl hP hS)
theorem g_ior (C : gC p s m args meth c D cI cJ ad A cc nL own) {x y : Int32} (hdg : decode cc pc = .ok (.ior, 1)) (k : gX X res (gG p l e R s m args below meth c D cI cJ ad A nL cells slots Q σ (pc + 1) L (.int (x ||| y) :: st))) : gX X res (gG p l e R s m args below meth c D cI cJ ad A nL cells slots Q σ pc L (.int y :: .int x :: st)) :=
  fun hX H locs ls hl hP hS => lv_ior C.1 C.2.1 hdg (k hX H locs ls hl hP hS)
theorem g_ishl (C : gC p s m args meth c D cI cJ ad A cc nL own) {x y : Int32} (hdg : decode cc pc = .ok (.ishl, 1)) (k : gX X res (gG p l e R s m args below meth c D cI cJ ad A nL cells slots Q σ (pc + 1) L (.int (x <<< (y &&& 31)) :: st))) : gX X res (gG p l e R s m args below meth c D cI cJ ad A nL cells slots Q σ pc L (.int y :: .int x :: st)) :=
  fun hX H locs ls hl hP hS => lv_ishl C.1 C.2.1 hdg (k hX H locs ls hl hP hS)
theorem g_ishr (C : gC p s m args meth c D cI cJ ad A cc nL own) {x y : Int32} (hdg : decode cc pc = .ok (.ishr, 1)) (k : gX X res (gG p l e R s m args below meth c D cI cJ ad A nL cells slots Q σ (pc + 1) L (.int (x >>> (y &&& 31)) :: st))) : gX X res (gG p l e R s m args below meth c D cI cJ ad A nL cells slots Q σ pc L (.int y :: .int x :: st)) :=
  fun hX H locs ls hl hP hS => lv_ishr C.1 C.2.1 hdg (k hX H locs ls hl hP hS)
theorem g_irem (C : gC p s m args meth c D cI cJ ad A cc nL own) {x y : Int32} (hdg : decode cc pc = .ok (.irem, 1)) (hne : ¬ y = 0) (k : gX X res (gG p l e R s m args below meth c D cI cJ ad A nL cells slots Q σ (pc + 1) L (.int (x - x / y * y) :: st))) : gX X res (gG p l e R s m args below meth c D cI cJ ad A nL cells slots Q σ pc L (.int y :: .int x :: st)) :=
  fun hX H locs ls hl hP hS => lv_irem C.1 C.2.1 hdg hne (k hX H locs ls hl hP hS)
theorem g_dup (C : gC p s m args meth c D cI cJ ad A cc nL own) {a : Value} (hdg : decode cc pc = .ok (.dup, 1)) (ha : a.category = 1) (k : gX X res (gG p l e R s m args below meth c D cI cJ ad A nL cells slots Q σ (pc + 1) L (a :: a :: st))) : gX X res (gG p l e R s m args below meth c D cI cJ ad A nL cells slots Q σ pc L (a :: st)) :=
  fun hX H locs ls hl hP hS => lv_dup C.1 C.2.1 hdg ha (k hX H locs ls hl hP hS)
theorem g_pop (C : gC p s m args meth c D cI cJ ad A cc nL own) {a : Value} (hdg : decode cc pc = .ok (.pop, 1)) (ha : a.category = 1) (k : gX X res (gG p l e R s m args below meth c D cI cJ ad A nL cells slots Q σ (pc + 1) L st)) : gX X res (gG p l e R s m args below meth c D cI cJ ad A nL cells slots Q σ pc L (a :: st)) :=
  fun hX H locs ls hl hP hS => lv_pop C.1 C.2.1 hdg ha (k hX H locs ls hl hP hS)
theorem g_dup2 (C : gC p s m args meth c D cI cJ ad A cc nL own) {a b : Value} (hdg : decode cc pc = .ok (.dup2, 1)) (ha : a.category = 1) (hb : b.category = 1) (k : gX X res (gG p l e R s m args below meth c D cI cJ ad A nL cells slots Q σ (pc + 1) L (a :: b :: a :: b :: st))) : gX X res (gG p l e R s m args below meth c D cI cJ ad A nL cells slots Q σ pc L (a :: b :: st)) :=
  fun hX H locs ls hl hP hS => lv_dup2_11 C.1 C.2.1 hdg ha hb (k hX H locs ls hl hP hS)
theorem g_goto (C : gC p s m args meth c D cI cJ ad A cc nL own) {off : Int} {tgt : Nat} (hdg : decode cc pc = .ok (.goto off, 3)) (ht : (pc : Int) + off = (tgt : Int)) (k : gX X res (gG p l e R s m args below meth c D cI cJ ad A nL cells slots Q σ tgt L st)) : gX X res (gG p l e R s m args below meth c D cI cJ ad A nL cells slots Q σ pc L st) :=
  fun hX H locs ls hl hP hS => lv_goto C.1 C.2.1 hdg ht (k hX H locs ls hl hP hS)
theorem g_icmp_eq (C : gC p s m args meth c D cI cJ ad A cc nL own) {x y : Int32} {off : Int} {tgt : Nat} (hdg : decode cc pc = .ok (.if_icmp .eq off, 3)) (ht : (pc : Int) + off = (tgt : Int)) (k1 : x = y → gX X1 res (gG p l e R s m args below meth c D cI cJ ad A nL cells slots Q σ tgt L st)) (k2 : ¬ x = y → gX X2 res (gG p l e R s m args below meth c D cI cJ ad A nL cells slots Q σ (pc + 3) L st)) : gX (if x = y then X1 else X2) res (gG p l e R s m args below meth c D cI cJ ad A nL cells slots Q σ pc L (.int y :: .int x :: st)) := by
  refine gX_if (fun h hX H locs ls hl hP hS => ?_) (fun h hX H locs ls hl hP hS => ?_)
  · exact lv_icmp_eq C.1 C.2.1 hdg ht (fun _ => k1 h hX H locs ls hl hP hS) (fun h2 => absurd h h2)
  · exact lv_icmp_eq C.1 C.2.1 hdg ht (fun h2 => absurd h2 h) (fun _ => k2 h hX H locs ls hl hP hS)
theorem g_icmp_eq_t (C : gC p s m args meth c D cI cJ ad A cc nL own) {x y : Int32} {off : Int} {tgt : Nat} (hdg : decode cc pc = .ok (.if_icmp .eq off, 3)) (ht : (pc : Int) + off = (tgt : Int)) (h : x = y) (k1 : gX X res (gG p l e R s m args below meth c D cI cJ ad A nL cells slots Q σ tgt L st)) : gX X res (gG p l e R s m args below meth c D cI cJ ad A nL cells slots Q σ pc L (.int y :: .int x :: st)) :=
  fun hX H locs ls hl hP hS => lv_icmp_eq C.1 C.2.1 hdg ht (fun _ => k1 hX H locs ls hl hP hS) (fun h2 => absurd h h2)
theorem g_icmp_eq_f (C : gC p s m args meth c D cI cJ ad A cc nL own) {x y : Int32} {off : Int} {tgt : Nat} (hdg : decode cc pc = .ok (.if_icmp .eq off, 3)) (ht : (pc : Int) + off = (tgt : Int)) (h : ¬ x = y) (k2 : gX X res (gG p l e R s m args below meth c D cI cJ ad A nL cells slots Q σ (pc + 3) L st)) : gX X res (gG p l e R s m args below meth c D cI cJ ad A nL cells slots Q σ pc L (.int y :: .int x :: st)) :=
  fun hX H locs ls hl hP hS => lv_icmp_eq C.1 C.2.1 hdg ht (fun h2 => absurd h2 h) (fun _ => k2 hX H locs ls hl hP hS)
theorem g_icmp_ne (C : gC p s m args meth c D cI cJ ad A cc nL own) {x y : Int32} {off : Int} {tgt : Nat} (hdg : decode cc pc = .ok (.if_icmp .ne off, 3)) (ht : (pc : Int) + off = (tgt : Int)) (k1 : x = y → gX X1 res (gG p l e R s m args below meth c D cI cJ ad A nL cells slots Q σ (pc + 3) L st)) (k2 : ¬ x = y → gX X2 res (gG p l e R s m args below meth c D cI cJ ad A nL cells slots Q σ tgt L st)) : gX (if x = y then X1 else X2) res (gG p l e R s m args below meth c D cI cJ ad A nL cells slots Q σ pc L (.int y :: .int x :: st)) := by
  refine gX_if (fun h hX H locs ls hl hP hS => ?_) (fun h hX H locs ls hl hP hS => ?_)
  · exact lv_icmp_ne C.1 C.2.1 hdg ht (fun h2 => absurd h h2) (fun _ => k1 h hX H locs ls hl hP hS)
  · exact lv_icmp_ne C.1 C.2.1 hdg ht (fun _ => k2 h hX H locs ls hl hP hS) (fun h2 => absurd h2 h)
theorem g_icmp_ne_t (C : gC p s m args meth c D cI cJ ad A cc nL own) {x y : Int32} {off : Int} {tgt : Nat} (hdg : decode cc pc = .ok (.if_icmp .ne off, 3)) (ht : (pc : Int) + off = (tgt : Int)) (h : x = y) (k1 : gX X res (gG p l e R s m args below meth c D cI cJ ad A nL cells slots Q σ (pc + 3) L st)) : gX X res (gG p l e R s m args below meth c D cI cJ ad A nL cells slots Q σ pc L (.int y :: .int x :: st)) :=
  fun hX H locs ls hl hP hS => lv_icmp_ne C.1 C.2.1 hdg ht (fun h2 => absurd h h2) (fun _ => k1 hX H locs ls hl hP hS)
theorem g_icmp_ne_f (C : gC p s m args meth c D cI cJ ad A cc nL own) {x y : Int32} {off : Int} {tgt : Nat} (hdg : decode cc pc = .ok (.if_icmp .ne off, 3)) (ht : (pc : Int) + off = (tgt : Int)) (h : ¬ x = y) (k2 : gX X res (gG p l e R s m args below meth c D cI cJ ad A nL cells slots Q σ tgt L st)) : gX X res (gG p l e R s m args below meth c D cI cJ ad A nL cells slots Q σ pc L (.int y :: .int x :: st)) :=
  fun hX H locs ls hl hP hS => lv_icmp_ne C.1 C.2.1 hdg ht (fun _ => k2 hX H locs ls hl hP hS) (fun h2 => absurd h2 h)
theorem g_icmp_lt (C : gC p s m args meth c D cI cJ ad A cc nL own) {x y : Int32} {off : Int} {tgt : Nat} (hdg : decode cc pc = .ok (.if_icmp .lt off, 3)) (ht : (pc : Int) + off = (tgt : Int)) (k1 : x < y → gX X1 res (gG p l e R s m args below meth c D cI cJ ad A nL cells slots Q σ tgt L st)) (k2 : ¬ x < y → gX X2 res (gG p l e R s m args below meth c D cI cJ ad A nL cells slots Q σ (pc + 3) L st)) : gX (if x < y then X1 else X2) res (gG p l e R s m args below meth c D cI cJ ad A nL cells slots Q σ pc L (.int y :: .int x :: st)) := by
  refine gX_if (fun h hX H locs ls hl hP hS => ?_) (fun h hX H locs ls hl hP hS => ?_)
  · exact lv_icmp_lt C.1 C.2.1 hdg ht (fun _ => k1 h hX H locs ls hl hP hS) (fun h2 => absurd h h2)
  · exact lv_icmp_lt C.1 C.2.1 hdg ht (fun h2 => absurd h2 h) (fun _ => k2 h hX H locs ls hl hP hS)
theorem g_icmp_lt_t (C : gC p s m args meth c D cI cJ ad A cc nL own) {x y : Int32} {off : Int} {tgt : Nat} (hdg : decode cc pc = .ok (.if_icmp .lt off, 3)) (ht : (pc : Int) + off = (tgt : Int)) (h : x < y) (k1 : gX X res (gG p l e R s m args below meth c D cI cJ ad A nL cells slots Q σ tgt L st)) : gX X res (gG p l e R s m args below meth c D cI cJ ad A nL cells slots Q σ pc L (.int y :: .int x :: st)) :=
  fun hX H locs ls hl hP hS => lv_icmp_lt C.1 C.2.1 hdg ht (fun _ => k1 hX H locs ls hl hP hS) (fun h2 => absurd h h2)
theorem g_icmp_lt_f (C : gC p s m args meth c D cI cJ ad A cc nL own) {x y : Int32} {off : Int} {tgt : Nat} (hdg : decode cc pc = .ok (.if_icmp .lt off, 3)) (ht : (pc : Int) + off = (tgt : Int)) (h : ¬ x < y) (k2 : gX X res (gG p l e R s m args below meth c D cI cJ ad A nL cells slots Q σ (pc + 3) L st)) : gX X res (gG p l e R s m args below meth c D cI cJ ad A nL cells slots Q σ pc L (.int y :: .int x :: st)) :=
  fun hX H locs ls hl hP hS => lv_icmp_lt C.1 C.2.1 hdg ht (fun h2 => absurd h2 h) (fun _ => k2 hX H locs ls hl hP hS)
theorem g_icmp_ge (C : gC p s m args meth c D cI cJ ad A cc nL own) {x y : Int32} {off : Int} {tgt : Nat} (hdg : decode cc pc = .ok (.if_icmp .ge off, 3)) (ht : (pc : Int) + off = (tgt : Int)) (k1 : y ≤ x → gX X1 res (gG p l e R s m args below meth c D cI cJ ad A nL cells slots Q σ tgt L st)) (k2 : ¬ y ≤ x → gX X2 res (gG p l e R s m args below meth c D cI cJ ad A nL cells slots Q σ (pc + 3) L st)) : gX (if y ≤ x then X1 else X2) res (gG p l e R s m args below meth c D cI cJ ad A nL cells slots Q σ pc L (.int y :: .int x :: st)) := by
  refine gX_if (fun h hX H locs ls hl hP hS => ?_) (fun h hX H locs ls hl hP hS => ?_)
  · exact lv_icmp_ge C.1 C.2.1 hdg ht (fun _ => k1 h hX H locs ls hl hP hS) (fun h2 => absurd h h2)
  · exact lv_icmp_ge C.1 C.2.1 hdg ht (fun h2 => absurd h2 h) (fun _ => k2 h hX H locs ls hl hP hS)
theorem g_icmp_ge_t (C : gC p s m args meth c D cI cJ ad A cc nL own) {x y : Int32} {off : Int} {tgt : Nat} (hdg : decode cc pc = .ok (.if_icmp .ge off, 3)) (ht : (pc : Int) + off = (tgt : Int)) (h : y ≤ x) (k1 : gX X res (gG p l e R s m args below meth c D cI cJ ad A nL cells slots Q σ tgt L st)) : gX X res (gG p l e R s m args below meth c D cI cJ ad A nL cells slots Q σ pc L (.int y :: .int x :: st)) :=
  fun hX H locs ls hl hP hS => lv_icmp_ge C.1 C.2.1 hdg ht (fun _ => k1 hX H locs ls hl hP hS) (fun h2 => absurd h h2)
theorem g_icmp_ge_f (C : gC p s m args meth c D cI cJ ad A cc nL own) {x y : Int32} {off : Int} {tgt : Nat} (hdg : decode cc pc = .ok (.if_icmp .ge off, 3)) (ht : (pc : Int) + off = (tgt : Int)) (h : ¬ y ≤ x) (k2 : gX X res (gG p l e R s m args below meth c D cI cJ ad A nL cells slots Q σ (pc + 3) L st)) : gX X res (gG p l e R s m args below meth c D cI cJ ad A nL cells slots Q σ pc L (.int y :: .int x :: st)) :=
  fun hX H locs ls hl hP hS => lv_icmp_ge C.1 C.2.1 hdg ht (fun h2 => absurd h2 h) (fun _ => k2 hX H locs ls hl hP hS)
theorem g_icmp_gt (C : gC p s m args meth c D cI cJ ad A cc nL own) {x y : Int32} {off : Int} {tgt : Nat} (hdg : decode cc pc = .ok (.if_icmp .gt off, 3)) (ht : (pc : Int) + off = (tgt : Int)) (k1 : y < x → gX X1 res (gG p l e R s m args below meth c D cI cJ ad A nL cells slots Q σ tgt L st)) (k2 : ¬ y < x → gX X2 res (gG p l e R s m args below meth c D cI cJ ad A nL cells slots Q σ (pc + 3) L st)) : gX (if y < x then X1 else X2) res (gG p l e R s m args below meth c D cI cJ ad A nL cells slots Q σ pc L (.int y :: .int x :: st)) := by
  refine gX_if (fun h hX H locs ls hl hP hS => ?_) (fun h hX H locs ls hl hP hS => ?_)
  · exact lv_icmp_gt C.1 C.2.1 hdg ht (fun _ => k1 h hX H locs ls hl hP hS) (fun h2 => absurd h h2)
  · exact lv_icmp_gt C.1 C.2.1 hdg ht (fun h2 => absurd h2 h) (fun _ => k2 h hX H locs ls hl hP hS)
theorem g_icmp_gt_t (C : gC p s m args meth c D cI cJ ad A cc nL own) {x y : Int32} {off : Int} {tgt : Nat} (hdg : decode cc pc = .ok (.if_icmp .gt off, 3)) (ht : (pc : Int) + off = (tgt : Int)) (h : y < x) (k1 : gX X res (gG p l e R s m args below meth c D cI cJ ad A nL cells slots Q σ tgt L st)) : gX X res (gG p l e R s m args below meth c D cI cJ ad A nL cells slots Q σ pc L (.int y :: .int x :: st)) :=
  fun hX H locs ls hl hP hS => lv_icmp_gt C.1 C.2.1 hdg ht (fun _ => k1 hX H locs ls hl hP hS) (fun h2 => absurd h h2)
theorem g_icmp_gt_f (C : gC p s m args meth c D cI cJ ad A cc nL own) {x y : Int32} {off : Int} {tgt : Nat} (hdg : decode cc pc = .ok (.if_icmp .gt off, 3)) (ht : (pc : Int) + off = (tgt : Int)) (h : ¬ y < x) (k2 : gX X res (gG p l e R s m args below meth c D cI cJ ad A nL cells slots Q σ (pc + 3) L st)) : gX X res (gG p l e R s m args below meth c D cI cJ ad A nL cells slots Q σ pc L (.int y :: .int x :: st)) :=
  fun hX H locs ls hl hP hS => lv_icmp_gt C.1 C.2.1 hdg ht (fun h2 => absurd h2 h) (fun _ => k2 hX H locs ls hl hP hS)
theorem g_icmp_le (C : gC p s m args meth c D cI cJ ad A cc nL own) {x y : Int32} {off : Int} {tgt : Nat} (hdg : decode cc pc = .ok (.if_icmp .le off, 3)) (ht : (pc : Int) + off = (tgt : Int)) (k1 : x ≤ y → gX X1 res (gG p l e R s m args below meth c D cI cJ ad A nL cells slots Q σ tgt L st)) (k2 : ¬ x ≤ y → gX X2 res (gG p l e R s m args below meth c D cI cJ ad A nL cells slots Q σ (pc + 3) L st)) : gX (if x ≤ y then X1 else X2) res (gG p l e R s m args below meth c D cI cJ ad A nL cells slots Q σ pc L (.int y :: .int x :: st)) := by
  refine gX_if (fun h hX H locs ls hl hP hS => ?_) (fun h hX H locs ls hl hP hS => ?_)
  · exact lv_icmp_le C.1 C.2.1 hdg ht (fun _ => k1 h hX H locs ls hl hP hS) (fun h2 => absurd h h2)
  · exact lv_icmp_le C.1 C.2.1 hdg ht (fun h2 => absurd h2 h) (fun _ => k2 h hX H locs ls hl hP hS)
theorem g_icmp_le_t (C : gC p s m args meth c D cI cJ ad A cc nL own) {x y : Int32} {off : Int} {tgt : Nat} (hdg : decode cc pc = .ok (.if_icmp .le off, 3)) (ht : (pc : Int) + off = (tgt : Int)) (h : x ≤ y) (k1 : gX X res (gG p l e R s m args below meth c D cI cJ ad A nL cells slots Q σ tgt L st)) : gX X res (gG p l e R s m args below meth c D cI cJ ad A nL cells slots Q σ pc L (.int y :: .int x :: st)) :=
  fun hX H locs ls hl hP hS => lv_icmp_le C.1 C.2.1 hdg ht (fun _ => k1 hX H locs ls hl hP hS) (fun h2 => absurd h h2)
theorem g_icmp_le_f (C : gC p s m args meth c D cI cJ ad A cc nL own) {x y : Int32} {off : Int} {tgt : Nat} (hdg : decode cc pc = .ok (.if_icmp .le off, 3)) (ht : (pc : Int) + off = (tgt : Int)) (h : ¬ x ≤ y) (k2 : gX X res (gG p l e R s m args below meth c D cI cJ ad A nL cells slots Q σ (pc + 3) L st)) : gX X res (gG p l e R s m args below meth c D cI cJ ad A nL cells slots Q σ pc L (.int y :: .int x :: st)) :=
  fun hX H locs ls hl hP hS => lv_icmp_le C.1 C.2.1 hdg ht (fun h2 => absurd h2 h) (fun _ => k2 hX H locs ls hl hP hS)
theorem g_if_eq (C : gC p s m args meth c D cI cJ ad A cc nL own) {x : Int32} {off : Int} {tgt : Nat} (hdg : decode cc pc = .ok (.ifCond .eq off, 3)) (ht : (pc : Int) + off = (tgt : Int)) (k1 : x = 0 → gX X1 res (gG p l e R s m args below meth c D cI cJ ad A nL cells slots Q σ tgt L st)) (k2 : ¬ x = 0 → gX X2 res (gG p l e R s m args below meth c D cI cJ ad A nL cells slots Q σ (pc + 3) L st)) : gX (if x = 0 then X1 else X2) res (gG p l e R s m args below meth c D cI cJ ad A nL cells slots Q σ pc L (.int x :: st)) := by
  refine gX_if (fun h hX H locs ls hl hP hS => ?_) (fun h hX H locs ls hl hP hS => ?_)
  · exact lv_if_eq C.1 C.2.1 hdg ht (fun _ => k1 h hX H locs ls hl hP hS) (fun h2 => absurd h h2)
  · exact lv_if_eq C.1 C.2.1 hdg ht (fun h2 => absurd h2 h) (fun _ => k2 h hX H locs ls hl hP hS)
theorem g_if_eq_t (C : gC p s m args meth c D cI cJ ad A cc nL own) {x : Int32} {off : Int} {tgt : Nat} (hdg : decode cc pc = .ok (.ifCond .eq off, 3)) (ht : (pc : Int) + off = (tgt : Int)) (h : x = 0) (k1 : gX X res (gG p l e R s m args below meth c D cI cJ ad A nL cells slots Q σ tgt L st)) : gX X res (gG p l e R s m args below meth c D cI cJ ad A nL cells slots Q σ pc L (.int x :: st)) :=
  fun hX H locs ls hl hP hS => lv_if_eq C.1 C.2.1 hdg ht (fun _ => k1 hX H locs ls hl hP hS) (fun h2 => absurd h h2)
theorem g_if_eq_f (C : gC p s m args meth c D cI cJ ad A cc nL own) {x : Int32} {off : Int} {tgt : Nat} (hdg : decode cc pc = .ok (.ifCond .eq off, 3)) (ht : (pc : Int) + off = (tgt : Int)) (h : ¬ x = 0) (k2 : gX X res (gG p l e R s m args below meth c D cI cJ ad A nL cells slots Q σ (pc + 3) L st)) : gX X res (gG p l e R s m args below meth c D cI cJ ad A nL cells slots Q σ pc L (.int x :: st)) :=
  fun hX H locs ls hl hP hS => lv_if_eq C.1 C.2.1 hdg ht (fun h2 => absurd h2 h) (fun _ => k2 hX H locs ls hl hP hS)
theorem g_if_ne (C : gC p s m args meth c D cI cJ ad A cc nL own) {x : Int32} {off : Int} {tgt : Nat} (hdg : decode cc pc = .ok (.ifCond .ne off, 3)) (ht : (pc : Int) + off = (tgt : Int)) (k1 : x = 0 → gX X1 res (gG p l e R s m args below meth c D cI cJ ad A nL cells slots Q σ (pc + 3) L st)) (k2 : ¬ x = 0 → gX X2 res (gG p l e R s m args below meth c D cI cJ ad A nL cells slots Q σ tgt L st)) : gX (if x = 0 then X1 else X2) res (gG p l e R s m args below meth c D cI cJ ad A nL cells slots Q σ pc L (.int x :: st)) := by
  refine gX_if (fun h hX H locs ls hl hP hS => ?_) (fun h hX H locs ls hl hP hS => ?_)
  · exact lv_if_ne C.1 C.2.1 hdg ht (fun h2 => absurd h h2) (fun _ => k1 h hX H locs ls hl hP hS)
  · exact lv_if_ne C.1 C.2.1 hdg ht (fun _ => k2 h hX H locs ls hl hP hS) (fun h2 => absurd h2 h)
theorem g_if_ne_t (C : gC p s m args meth c D cI cJ ad A cc nL own) {x : Int32} {off : Int} {tgt : Nat} (hdg : decode cc pc = .ok (.ifCond .ne off, 3)) (ht : (pc : Int) + off = (tgt : Int)) (h : x = 0) (k1 : gX X res (gG p l e R s m args below meth c D cI cJ ad A nL cells slots Q σ (pc + 3) L st)) : gX X res (gG p l e R s m args below meth c D cI cJ ad A nL cells slots Q σ pc L (.int x :: st)) :=
  fun hX H locs ls hl hP hS => lv_if_ne C.1 C.2.1 hdg ht (fun h2 => absurd h h2) (fun _ => k1 hX H locs ls hl hP hS)
theorem g_if_ne_f (C : gC p s m args meth c D cI cJ ad A cc nL own) {x : Int32} {off : Int} {tgt : Nat} (hdg : decode cc pc = .ok (.ifCond .ne off, 3)) (ht : (pc : Int) + off = (tgt : Int)) (h : ¬ x = 0) (k2 : gX X res (gG p l e R s m args below meth c D cI cJ ad A nL cells slots Q σ tgt L st)) : gX X res (gG p l e R s m args below meth c D cI cJ ad A nL cells slots Q σ pc L (.int x :: st)) :=
  fun hX H locs ls hl hP hS => lv_if_ne C.1 C.2.1 hdg ht (fun _ => k2 hX H locs ls hl hP hS) (fun h2 => absurd h2 h)
theorem g_if_lt (C : gC p s m args meth c D cI cJ ad A cc nL own) {x : Int32} {off : Int} {tgt : Nat} (hdg : decode cc pc = .ok (.ifCond .lt off, 3)) (ht : (pc : Int) + off = (tgt : Int)) (k1 : x < 0 → gX X1 res (gG p l e R s m args below meth c D cI cJ ad A nL cells slots Q σ tgt L st)) (k2 : ¬ x < 0 → gX X2 res (gG p l e R s m args below meth c D cI cJ ad A nL cells slots Q σ (pc + 3) L st)) : gX (if x < 0 then X1 else X2) res (gG p l e R s m args below meth c D cI cJ ad A nL cells slots Q σ pc L (.int x :: st)) := by
  refine gX_if (fun h hX H locs ls hl hP hS => ?_) (fun h hX H locs ls hl hP hS => ?_)
  · exact lv_if_lt C.1 C.2.1 hdg ht (fun _ => k1 h hX H locs ls hl hP hS) (fun h2 => absurd h h2)
  · exact lv_if_lt C.1 C.2.1 hdg ht (fun h2 => absurd h2 h) (fun _ => k2 h hX H locs ls hl hP hS)
theorem g_if_lt_t (C : gC p s m args meth c D cI cJ ad A cc nL own) {x : Int32} {off : Int} {tgt : Nat} (hdg : decode cc pc = .ok (.ifCond .lt off, 3)) (ht : (pc : Int) + off = (tgt : Int)) (h : x < 0) (k1 : gX X res (gG p l e R s m args below meth c D cI cJ ad A nL cells slots Q σ tgt L st)) : gX X res (gG p l e R s m args below meth c D cI cJ ad A nL cells slots Q σ pc L (.int x :: st)) :=
  fun hX H locs ls hl hP hS => lv_if_lt C.1 C.2.1 hdg ht (fun _ => k1 hX H locs ls hl hP hS) (fun h2 => absurd h h2)
theorem g_if_lt_f (C : gC p s m args meth c D cI cJ ad A cc nL own) {x : Int32} {off : Int} {tgt : Nat} (hdg : decode cc pc = .ok (.ifCond .lt off, 3)) (ht : (pc : Int) + off = (tgt : Int)) (h : ¬ x < 0) (k2 : gX X res (gG p l e R s m args below meth c D cI cJ ad A nL cells slots Q σ (pc + 3) L st)) : gX X res (gG p l e R s m args below meth c D cI cJ ad A nL cells slots Q σ pc L (.int x :: st)) :=
  fun hX H locs ls hl hP hS => lv_if_lt C.1 C.2.1 hdg ht (fun h2 => absurd h2 h) (fun _ => k2 hX H locs ls hl hP hS)
theorem g_if_ge (C : gC p s m args meth c D cI cJ ad A cc nL own) {x : Int32} {off : Int} {tgt : Nat} (hdg : decode cc pc = .ok (.ifCond .ge off, 3)) (ht : (pc : Int) + off = (tgt : Int)) (k1 : 0 ≤ x → gX X1 res (gG p l e R s m args below meth c D cI cJ ad A nL cells slots Q σ tgt L st)) (k2 : ¬ 0 ≤ x → gX X2 res (gG p l e R s m args below meth c D cI cJ ad A nL cells slots Q σ (pc + 3) L st)) : gX (if 0 ≤ x then X1 else X2) res (gG p l e R s m args below meth c D cI cJ ad A nL cells slots Q σ pc L (.int x :: st)) := by
  refine gX_if (fun h hX H locs ls hl hP hS => ?_) (fun h hX H locs ls hl hP hS => ?_)
  · exact lv_if_ge C.1 C.2.1 hdg ht (fun _ => k1 h hX H locs ls hl hP hS) (fun h2 => absurd h h2)
  · exact lv_if_ge C.1 C.2.1 hdg ht (fun h2 => absurd h2 h) (fun _ => k2 h hX H locs ls hl hP hS)
theorem g_if_ge_t (C : gC p s m args meth c D cI cJ ad A cc nL own) {x : Int32} {off : Int} {tgt : Nat} (hdg : decode cc pc = .ok (.ifCond .ge off, 3)) (ht : (pc : Int) + off = (tgt : Int)) (h : 0 ≤ x) (k1 : gX X res (gG p l e R s m args below meth c D cI cJ ad A nL cells slots Q σ tgt L st)) : gX X res (gG p l e R s m args below meth c D cI cJ ad A nL cells slots Q σ pc L (.int x :: st)) :=
  fun hX H locs ls hl hP hS => lv_if_ge C.1 C.2.1 hdg ht (fun _ => k1 hX H locs ls hl hP hS) (fun h2 => absurd h h2)
theorem g_if_ge_f (C : gC p s m args meth c D cI cJ ad A cc nL own) {x : Int32} {off : Int} {tgt : Nat} (hdg : decode cc pc = .ok (.ifCond .ge off, 3)) (ht : (pc : Int) + off = (tgt : Int)) (h : ¬ 0 ≤ x) (k2 : gX X res (gG p l e R s m args below meth c D cI cJ ad A nL cells slots Q σ (pc + 3) L st)) : gX X res (gG p l e R s m args below meth c D cI cJ ad A nL cells slots Q σ pc L (.int x :: st)) :=
  fun hX H locs ls hl hP hS => lv_if_ge C.1 C.2.1 hdg ht (fun h2 => absurd h2 h) (fun _ => k2 hX H locs ls hl hP hS)
theorem g_if_gt (C : gC p s m args meth c D cI cJ ad A cc nL own) {x : Int32} {off : Int} {tgt : Nat} (hdg : decode cc pc = .ok (.ifCond .gt off, 3)) (ht : (pc : Int) + off = (tgt : Int)) (k1 : 0 < x → gX X1 res (gG p l e R s m args below meth c D cI cJ ad A nL cells slots Q σ tgt L st)) (k2 : ¬ 0 < x → gX X2 res (gG p l e R s m args below meth c D cI cJ ad A nL cells slots Q σ (pc + 3) L st)) : gX (if 0 < x then X1 else X2) res (gG p l e R s m args below meth c D cI cJ ad A nL cells slots Q σ pc L (.int x :: st)) := by
  refine gX_if (fun h hX H locs ls hl hP hS => ?_) (fun h hX H locs ls hl hP hS => ?_)
  · exact lv_if_gt C.1 C.2.1 hdg ht (fun _ => k1 h hX H locs ls hl hP hS) (fun h2 => absurd h h2)
  · exact lv_if_gt C.1 C.2.1 hdg ht (fun h2 => absurd h2 h) (fun _ => k2 h hX H locs ls hl hP hS)
theorem g_if_gt_t (C : gC p s m args meth c D cI cJ ad A cc nL own) {x : Int32} {off : Int} {tgt : Nat} (hdg : decode cc pc = .ok (.ifCond .gt off, 3)) (ht : (pc : Int) + off = (tgt : Int)) (h : 0 < x) (k1 : gX X res (gG p l e R s m args below meth c D cI cJ ad A nL cells slots Q σ tgt L st)) : gX X res (gG p l e R s m args below meth c D cI cJ ad A nL cells slots Q σ pc L (.int x :: st)) :=
  fun hX H locs ls hl hP hS => lv_if_gt C.1 C.2.1 hdg ht (fun _ => k1 hX H locs ls hl hP hS) (fun h2 => absurd h h2)
theorem g_if_gt_f (C : gC p s m args meth c D cI cJ ad A cc nL own) {x : Int32} {off : Int} {tgt : Nat} (hdg : decode cc pc = .ok (.ifCond .gt off, 3)) (ht : (pc : Int) + off = (tgt : Int)) (h : ¬ 0 < x) (k2 : gX X res (gG p l e R s m args below meth c D cI cJ ad A nL cells slots Q σ (pc + 3) L st)) : gX X res (gG p l e R s m args below meth c D cI cJ ad A nL cells slots Q σ pc L (.int x :: st)) :=
  fun hX H locs ls hl hP hS => lv_if_gt C.1 C.2.1 hdg ht (fun h2 => absurd h2 h) (fun _ => k2 hX H locs ls hl hP hS)
theorem g_if_le (C : gC p s m args meth c D cI cJ ad A cc nL own) {x : Int32} {off : Int} {tgt : Nat} (hdg : decode cc pc = .ok (.ifCond .le off, 3)) (ht : (pc : Int) + off = (tgt : Int)) (k1 : x ≤ 0 → gX X1 res (gG p l e R s m args below meth c D cI cJ ad A nL cells slots Q σ tgt L st)) (k2 : ¬ x ≤ 0 → gX X2 res (gG p l e R s m args below meth c D cI cJ ad A nL cells slots Q σ (pc + 3) L st)) : gX (if x ≤ 0 then X1 else X2) res (gG p l e R s m args below meth c D cI cJ ad A nL cells slots Q σ pc L (.int x :: st)) := by
  refine gX_if (fun h hX H locs ls hl hP hS => ?_) (fun h hX H locs ls hl hP hS => ?_)
  · exact lv_if_le C.1 C.2.1 hdg ht (fun _ => k1 h hX H locs ls hl hP hS) (fun h2 => absurd h h2)
  · exact lv_if_le C.1 C.2.1 hdg ht (fun h2 => absurd h2 h) (fun _ => k2 h hX H locs ls hl hP hS)
theorem g_if_le_t (C : gC p s m args meth c D cI cJ ad A cc nL own) {x : Int32} {off : Int} {tgt : Nat} (hdg : decode cc pc = .ok (.ifCond .le off, 3)) (ht : (pc : Int) + off = (tgt : Int)) (h : x ≤ 0) (k1 : gX X res (gG p l e R s m args below meth c D cI cJ ad A nL cells slots Q σ tgt L st)) : gX X res (gG p l e R s m args below meth c D cI cJ ad A nL cells slots Q σ pc L (.int x :: st)) :=
  fun hX H locs ls hl hP hS => lv_if_le C.1 C.2.1 hdg ht (fun _ => k1 hX H locs ls hl hP hS) (fun h2 => absurd h h2)
theorem g_if_le_f (C : gC p s m args meth c D cI cJ ad A cc nL own) {x : Int32} {off : Int} {tgt : Nat} (hdg : decode cc pc = .ok (.ifCond .le off, 3)) (ht : (pc : Int) + off = (tgt : Int)) (h : ¬ x ≤ 0) (k2 : gX X res (gG p l e R s m args below meth c D cI cJ ad A nL cells slots Q σ (pc + 3) L st)) : gX X res (gG p l e R s m args below meth c D cI cJ ad A nL cells slots Q σ pc L (.int x :: st)) :=
  fun hX H locs ls hl hP hS => lv_if_le C.1 C.2.1 hdg ht (fun h2 => absurd h2 h) (fun _ => k2 hX H locs ls hl hP hS)
/-- a class by its number: its words, its place -/
def gCl (c : Nat) (CN : String) (T : u_T) : Prop := (∀ w ∈ u_ws CN T (gNf c), w ∈ gT) ∧ vwCl[c]? = some (CN, T, gNf c) ∧ c < 7
theorem gw_obj {o c0 : Nat} (ho : gKd o = c0) (hc : c0 < 7) : (gw cI cJ ad σ)[o]? = some (ad o, .inr (c0, (List.range (gNf c0)).map (gfv ad σ o))) := by
  rw [gw_get (gKd_lt ho (by omega)), gcell_o ho hc]
theorem gw_int {o : Nat} (ho : gKd o = 7) : (gw cI cJ ad σ)[o]? = some (ad o, .inl (cI, gLn o, .inl (σ o))) := by
  rw [gw_get (gKd_lt ho (by omega)), gcell_i ho]
theorem gw_lng {o : Nat} (ho : gKd o = 8) : (gw cI cJ ad σ)[o]? = some (ad o, .inl (cJ, gLn o, .inr (.inl (fun j => (σ o j).toInt64)))) := by
  rw [gw_get (gKd_lt ho (by omega)), gcell_j ho]
theorem g_getI (C : gC p s m args meth c D cI cJ ad A cc nL own) {idx c0 : Nat} {CN : String} {T : u_T} (o j : Nat) (hcl : gCl c0 CN T) (ho : gKd o = c0) (hj : j < gNf c0) (hr : gRf o j = none) (hlink : Cond.fieldLink own idx (T j).1 (T j).2.1 (T j).2.2.1 ∈ gT) (hdg : decode cc pc = .ok (.getfield idx, 3)) (k : gX X res (gG p l e R s m args below meth c D cI cJ ad A nL cells slots Q σ (pc + 3) L (.int (σ o j) :: st))) : gX X res (gG p l e R s m args below meth c D cI cJ ad A nL cells slots Q σ pc L (.ref (ad o) :: st)) :=
  fun hX H locs ls hl hP hS => va_get (D := D) C.1 C.2.1 C.2.2.2.2.1 hcl.1 C.2.2.2.1 C.2.2.2.2.2.1 hP o (gw_obj ho hcl.2.2) hcl.2.1 j hj (C.2.2.2.2.1 _ hlink) (fun _ h9 => h9) (by rw [gfl_get hj, gfv_i hr]) hdg (k hX H locs ls hl hP hS)
theorem g_getR (C : gC p s m args meth c D cI cJ ad A cc nL own) {idx c0 : Nat} {CN : String} {T : u_T} (o j : Nat) {o' : Nat} (hcl : gCl c0 CN T) (ho : gKd o = c0) (hj : j < gNf c0) (hr : gRf o j = some o') (hlink : Cond.fieldLink own idx (T j).1 (T j).2.1 (T j).2.2.1 ∈ gT) (hdg : decode cc pc = .ok (.getfield idx, 3)) (k : gX X res (gG p l e R s m args below meth c D cI cJ ad A nL cells slots Q σ (pc + 3) L (.ref (ad o') :: st))) : gX X res (gG p l e R s m args below meth c D cI cJ ad A nL cells slots Q σ pc L (.ref (ad o) :: st)) :=
  fun hX H locs ls hl hP hS => va_get (D := D) C.1 C.2.1 C.2.2.2.2.1 hcl.1 C.2.2.2.1 C.2.2.2.2.2.1 hP o (gw_obj ho hcl.2.2) hcl.2.1 j hj (C.2.2.2.2.1 _ hlink) (fun _ h9 => h9) (by rw [gfl_get hj, gfv_r hr]) hdg (k hX H locs ls hl hP hS)
theorem g_getIN (C : gC p s m args meth c D cI cJ ad A cc nL own) {idx c0 : Nat} {CN host : String} {T : u_T} (o j : Nat) (hcl : gCl c0 CN T) (ho : gKd o = c0) (hj : j < gNf c0) (hr : gRf o j = none) (hlink : Cond.fieldLinkNest own idx (T j).1 (T j).2.1 (T j).2.2.1 host ∈ gNest) (hdg : decode cc pc = .ok (.getfield idx, 3)) (k : gX X res (gG p l e R s m args below meth c D cI cJ ad A nL cells slots Q σ (pc + 3) L (.int (σ o j) :: st))) : gX X res (gG p l e R s m args below meth c D cI cJ ad A nL cells slots Q σ pc L (.ref (ad o) :: st)) :=
  fun hX H locs ls hl hP hS => va_getN (D := D) C.1 C.2.1 C.2.2.2.2.1 hcl.1 C.2.2.2.1 C.2.2.2.2.2.1 hP o (gw_obj ho hcl.2.2) hcl.2.1 j hj (va_Nw.use rfl (gB_nest C.2.2.2.2.2.2.2.2.2.1 hlink)) (fun _ h9 => h9) (by rw [gfl_get hj, gfv_i hr]) hdg (k hX H locs ls hl hP hS)
theorem g_getRN (C : gC p s m args meth c D cI cJ ad A cc nL own) {idx c0 : Nat} {CN host : String} {T : u_T} (o j : Nat) {o' : Nat} (hcl : gCl c0 CN T) (ho : gKd o = c0) (hj : j < gNf c0) (hr : gRf o j = some o') (hlink : Cond.fieldLinkNest own idx (T j).1 (T j).2.1 (T j).2.2.1 host ∈ gNest) (hdg : decode cc pc = .ok (.getfield idx, 3)) (k : gX X res (gG p l e R s m args below meth c D cI cJ ad A nL cells slots Q σ (pc + 3) L (.ref (ad o') :: st))) : gX X res (gG p l e R s m args below meth c D cI cJ ad A nL cells slots Q σ pc L (.ref (ad o) :: st)) :=
  fun hX H locs ls hl hP hS => va_getN (D := D) C.1 C.2.1 C.2.2.2.2.1 hcl.1 C.2.2.2.1 C.2.2.2.2.2.1 hP o (gw_obj ho hcl.2.2) hcl.2.1 j hj (va_Nw.use rfl (gB_nest C.2.2.2.2.2.2.2.2.2.1 hlink)) (fun _ h9 => h9) (by rw [gfl_get hj, gfv_r hr]) hdg (k hX H locs ls hl hP hS)
/-- a field's type row: not final, its name apart, what may be stored -/
def gFt (c0 : Nat) (T : u_T) (ty : Nat → FieldType) : Prop := (∀ k, k < gNf c0 → parseFieldDescriptor (T k).2.2.1 = some (ty k)) ∧ (∀ a, a < gNf c0 → ∀ b, b < gNf c0 → a ≠ b → (T a).2.1 ≠ (T b).2.1)
theorem g_putI (C : gC p s m args meth c D cI cJ ad A cc nL own) {K : gSt → Option ρ} {idx c0 : Nat} {CN : String} {T : u_T} {ty : Nat → FieldType} {v : Int32} (o j : Nat) (hcl : gCl c0 CN T) (hft : gFt c0 T ty) (ho : gKd o = c0) (hj : j < gNf c0) (hr : gRf o j = none) (hfin : (T j).2.2.2 = false) (hty : ty j = .int) (hlink : Cond.fieldLink own idx (T j).1 (T j).2.1 (T j).2.2.1 ∈ gT) (hdg : decode cc pc = .ok (.putfield idx, 3)) (k : ∀ σ', gX (K σ') res (gG p l e R s m args below meth c D cI cJ ad A nL cells slots Q σ' (pc + 3) L st)) : gX (gl (gup σ o j v) K) res (gG p l e R s m args below meth c D cI cJ ad A nL cells slots Q σ pc L (.int v :: .ref (ad o) :: st)) := by
  intro hX H locs ls hl hP hS
  refine va_put (D := D) (v := .int v) (ty := .int) C.1 C.2.1 C.2.2.2.2.1 hcl.1 ty hft.1 hft.2 C.2.2.2.1 C.2.2.2.2.2.1 hP (gw_D C.2.2.2.2.2.2.2.2.1 C.2.2.2.2.2.2.2.1) hS o (gw_obj ho hcl.2.2) hcl.2.1 j hj (C.2.2.2.2.1 _ hlink) (fun _ h9 => h9) hfin (by rw [hft.1 j hj, hty]) rfl rfl (by simpa using hj) hdg (fun H1 locs1 hP1 _ hS1 => ?_)
  rw [gw_putf ho hcl.2.2 hr] at hP1
  exact k _ hX H1 locs1 ls hl hP1 hS1
theorem g_putIN (C : gC p s m args meth c D cI cJ ad A cc nL own) {K : gSt → Option ρ} {idx c0 : Nat} {CN host : String} {T : u_T} {ty : Nat → FieldType} {v : Int32} (o j : Nat) (hcl : gCl c0 CN T) (hft : gFt c0 T ty) (ho : gKd o = c0) (hj : j < gNf c0) (hr : gRf o j = none) (hfin : (T j).2.2.2 = false) (hty : ty j = .int) (hlink : Cond.fieldLinkNest own idx (T j).1 (T j).2.1 (T j).2.2.1 host ∈ gNest) (hdg : decode cc pc = .ok (.putfield idx, 3)) (k : ∀ σ', gX (K σ') res (gG p l e R s m args below meth c D cI cJ ad A nL cells slots Q σ' (pc + 3) L st)) : gX (gl (gup σ o j v) K) res (gG p l e R s m args below meth c D cI cJ ad A nL cells slots Q σ pc L (.int v :: .ref (ad o) :: st)) := by
  intro hX H locs ls hl hP hS
  refine va_putN (D := D) (v := .int v) (ty := .int) C.1 C.2.1 C.2.2.2.2.1 hcl.1 ty hft.1 hft.2 C.2.2.2.1 C.2.2.2.2.2.1 hP (gw_D C.2.2.2.2.2.2.2.2.1 C.2.2.2.2.2.2.2.1) hS o (gw_obj ho hcl.2.2) hcl.2.1 j hj (va_Nw.use rfl (gB_nest C.2.2.2.2.2.2.2.2.2.1 hlink)) (fun _ h9 => h9) hfin (by rw [hft.1 j hj, hty]) rfl rfl (by simpa using hj) hdg (fun H1 locs1 hP1 _ hS1 => ?_)
  rw [gw_putf ho hcl.2.2 hr] at hP1
  exact k _ hX H1 locs1 ls hl hP1 hS1
theorem gz_n {v : Int32} (h : v = 0 ∨ v = 1) : narrow .boolean (.int v) = .int v := by
  rcases h with rfl | rfl <;> decide +kernel
theorem gz_f {v : Int32} (h : v = 0 ∨ v = 1) : fits .boolean (.int v) = true := by
  rcases h with rfl | rfl <;> decide +kernel
theorem g_putZ (C : gC p s m args meth c D cI cJ ad A cc nL own) {K : gSt → Option ρ} {idx c0 : Nat} {CN : String} {T : u_T} {ty : Nat → FieldType} {v : Int32} (o j : Nat) (hv : v = 0 ∨ v = 1) (hcl : gCl c0 CN T) (hft : gFt c0 T ty) (ho : gKd o = c0) (hj : j < gNf c0) (hr : gRf o j = none) (hfin : (T j).2.2.2 = false) (hty : ty j = .boolean) (hlink : Cond.fieldLink own idx (T j).1 (T j).2.1 (T j).2.2.1 ∈ gT) (hdg : decode cc pc = .ok (.putfield idx, 3)) (k : ∀ σ', gX (K σ') res (gG p l e R s m args below meth c D cI cJ ad A nL cells slots Q σ' (pc + 3) L st)) : gX (gl (gup σ o j v) K) res (gG p l e R s m args below meth c D cI cJ ad A nL cells slots Q σ pc L (.int v :: .ref (ad o) :: st)) := by
  intro hX H locs ls hl hP hS
  refine va_put (D := D) (v := .int v) (ty := .boolean) C.1 C.2.1 C.2.2.2.2.1 hcl.1 ty hft.1 hft.2 C.2.2.2.1 C.2.2.2.2.2.1 hP (gw_D C.2.2.2.2.2.2.2.2.1 C.2.2.2.2.2.2.2.1) hS o (gw_obj ho hcl.2.2) hcl.2.1 j hj (C.2.2.2.2.1 _ hlink) (fun _ h9 => h9) hfin (by rw [hft.1 j hj, hty]) (gz_n hv) (gz_f hv) (by simpa using hj) hdg (fun H1 locs1 hP1 _ hS1 => ?_)
  rw [gw_putf ho hcl.2.2 hr] at hP1
  exact k _ hX H1 locs1 ls hl hP1 hS1
theorem g_putZN (C : gC p s m args meth c D cI cJ ad A cc nL own) {K : gSt → Option ρ} {idx c0 : Nat} {CN host : String} {T : u_T} {ty : Nat → FieldType} {v : Int32} (o j : Nat) (hv : v = 0 ∨ v = 1) (hcl : gCl c0 CN T) (hft : gFt c0 T ty) (ho : gKd o = c0) (hj : j < gNf c0) (hr : gRf o j = none) (hfin : (T j).2.2.2 = false) (hty : ty j = .boolean) (hlink : Cond.fieldLinkNest own idx (T j).1 (T j).2.1 (T j).2.2.1 host ∈ gNest) (hdg : decode cc pc = .ok (.putfield idx, 3)) (k : ∀ σ', gX (K σ') res (gG p l e R s m args below meth c D cI cJ ad A nL cells slots Q σ' (pc + 3) L st)) : gX (gl (gup σ o j v) K) res (gG p l e R s m args below meth c D cI cJ ad A nL cells slots Q σ pc L (.int v :: .ref (ad o) :: st)) := by
  intro hX H locs ls hl hP hS
  refine va_putN (D := D) (v := .int v) (ty := .boolean) C.1 C.2.1 C.2.2.2.2.1 hcl.1 ty hft.1 hft.2 C.2.2.2.1 C.2.2.2.2.2.1 hP (gw_D C.2.2.2.2.2.2.2.2.1 C.2.2.2.2.2.2.2.1) hS o (gw_obj ho hcl.2.2) hcl.2.1 j hj (va_Nw.use rfl (gB_nest C.2.2.2.2.2.2.2.2.2.1 hlink)) (fun _ h9 => h9) hfin (by rw [hft.1 j hj, hty]) (gz_n hv) (gz_f hv) (by simpa using hj) hdg (fun H1 locs1 hP1 _ hS1 => ?_)
  rw [gw_putf ho hcl.2.2 hr] at hP1
  exact k _ hX H1 locs1 ls hl hP1 hS1
/-- a boolean that is computed: 0 or 1, or nothing is said -/
theorem gX_z {v : Int32} {G : Prop} (k : (v = 0 ∨ v = 1) → gX X res G) : gX (if v = 0 ∨ v = 1 then X else none) res G := gX_if k (fun _ => gX_none)
theorem g_iald (C : gC p s m args meth c D cI cJ ad A cc nL own) {o n : Nat} {i : Int32} (ho : gKd o = 7) (hn : gLn o = n) (hdg : decode cc pc = .ok (.iaload, 1)) (k : gX X res (gG p l e R s m args below meth c D cI cJ ad A nL cells slots Q σ (pc + 1) L (.int (σ o i.toNatClampNeg) :: st))) : gX (if i < 0 ∨ n ≤ i.toNatClampNeg then none else X) res (gG p l e R s m args below meth c D cI cJ ad A nL cells slots Q σ pc L (.int i :: .ref (ad o) :: st)) := by
  refine gX_if (fun _ => gX_none) (fun h hX H locs ls hl hP hS => ?_)
  subst hn
  exact va_iald (D := D) C.1 C.2.1 C.2.2.2.2.2.1 hP o 0 (gw_int ho) rfl h hdg (k hX H locs ls hl hP hS)
theorem g_ialdL (C : gC p s m args meth c D cI cJ ad A cc nL own) {o n : Nat} {i : Int32} (j : Nat) (hin : i.toNatClampNeg = j ∧ vp_in i n) (ho : gKd o = 7) (hn : gLn o = n) (hdg : decode cc pc = .ok (.iaload, 1)) (k : gX X res (gG p l e R s m args below meth c D cI cJ ad A nL cells slots Q σ (pc + 1) L (.int (σ o j) :: st))) : gX X res (gG p l e R s m args below meth c D cI cJ ad A nL cells slots Q σ pc L (.int i :: .ref (ad o) :: st)) := by
  intro hX H locs ls hl hP hS
  obtain ⟨rfl, hin⟩ := hin
  subst hn
  exact va_iald (D := D) C.1 C.2.1 C.2.2.2.2.2.1 hP o 0 (gw_int ho) rfl hin hdg (k hX H locs ls hl hP hS)
theorem g_iast (C : gC p s m args meth c D cI cJ ad A cc nL own) {K : gSt → Option ρ} {o n : Nat} {i v : Int32} (ho : gKd o = 7) (hn : gLn o = n) (hdg : decode cc pc = .ok (.iastore, 1)) (k : ∀ σ', gX (K σ') res (gG p l e R s m args below meth c D cI cJ ad A nL cells slots Q σ' (pc + 1) L st)) : gX (if i < 0 ∨ n ≤ i.toNatClampNeg then none else gl (gup σ o i.toNatClampNeg v) K) res (gG p l e R s m args below meth c D cI cJ ad A nL cells slots Q σ pc L (.int v :: .int i :: .ref (ad o) :: st)) := by
  refine gX_if (fun _ => gX_none) (fun h hX H locs ls hl hP hS => ?_)
  subst hn
  refine va_iast (D := D) C.1 C.2.1 C.2.2.2.2.2.1 hP (gw_D C.2.2.2.2.2.2.2.2.1 C.2.2.2.2.2.2.2.1) hS o 0 (gw_int ho) rfl h hdg (fun H1 locs1 hP1 _ hS1 => ?_)
  rw [gw_puti ho] at hP1
  exact k _ hX H1 locs1 ls hl hP1 hS1
theorem g_iastL (C : gC p s m args meth c D cI cJ ad A cc nL own) {K : gSt → Option ρ} {o n : Nat} {i v : Int32} (j : Nat) (hin : i.toNatClampNeg = j ∧ vp_in i n) (ho : gKd o = 7) (hn : gLn o = n) (hdg : decode cc pc = .ok (.iastore, 1)) (k : ∀ σ', gX (K σ') res (gG p l e R s m args below meth c D cI cJ ad A nL cells slots Q σ' (pc + 1) L st)) : gX (gl (gup σ o j v) K) res (gG p l e R s m args below meth c D cI cJ ad A nL cells slots Q σ pc L (.int v :: .int i :: .ref (ad o) :: st)) := by
  intro hX H locs ls hl hP hS
  obtain ⟨rfl, hin⟩ := hin
  subst hn
  refine va_iast (D := D) C.1 C.2.1 C.2.2.2.2.2.1 hP (gw_D C.2.2.2.2.2.2.2.2.1 C.2.2.2.2.2.2.2.1) hS o 0 (gw_int ho) rfl hin hdg (fun H1 locs1 hP1 _ hS1 => ?_)
  rw [gw_puti ho] at hP1
  exact k _ hX H1 locs1 ls hl hP1 hS1
theorem g_alen (C : gC p s m args meth c D cI cJ ad A cc nL own) {o n : Nat} (ho : gKd o = 7) (hn : gLn o = n) (hdg : decode cc pc = .ok (.arraylength, 1)) (k : gX X res (gG p l e R s m args below meth c D cI cJ ad A nL cells slots Q σ (pc + 1) L (.int (nI n) :: st))) : gX X res (gG p l e R s m args below meth c D cI cJ ad A nL cells slots Q σ pc L (.ref (ad o) :: st)) := by
  intro hX H locs ls hl hP hS
  subst hn
  exact va_alen (D := D) C.1 C.2.1 C.2.2.2.2.2.1 hP o 0 (gw_int ho) (ty := .int) rfl rfl hdg (k hX H locs ls hl hP hS)
theorem g_tswIn (C : gC p s m args meth c D cI cJ ad A cc nL own) {dflt lo hi : Int} {offs : Array Int} {len : Nat} {x : Int32} {off : Int} {tgt : Nat} (hdg : decode cc pc = .ok (.tableswitch dflt lo hi offs, len)) (j : Int) (hx : x.toInt = j) (h1 : ¬ j < lo) (h2 : ¬ hi < j) (ho : offs[(j - lo).toNat]? = some off) (ht : (pc : Int) + off = (tgt : Int)) (k : gX X res (gG p l e R s m args below meth c D cI cJ ad A nL cells slots Q σ tgt L st)) : gX X res (gG p l e R s m args below meth c D cI cJ ad A nL cells slots Q σ pc L (.int x :: st)) := by
  subst hx
  exact fun hX H locs ls hl hP hS => lv_tableIn C.1 C.2.1 hdg h1 h2 ho ht (k hX H locs ls hl hP hS)
theorem g_tswOut (C : gC p s m args meth c D cI cJ ad A cc nL own) {dflt lo hi : Int} {offs : Array Int} {len : Nat} {x : Int32} {tgt : Nat} (hdg : decode cc pc = .ok (.tableswitch dflt lo hi offs, len)) (h : x.toInt < lo ∨ hi < x.toInt) (ht : (pc : Int) + dflt = (tgt : Int)) (k : gX X res (gG p l e R s m args below meth c D cI cJ ad A nL cells slots Q σ tgt L st)) : gX X res (gG p l e R s m args below meth c D cI cJ ad A nL cells slots Q σ pc L (.int x :: st)) :=
  fun hX H locs ls hl hP hS => lv_tableOut C.1 C.2.1 hdg h ht (k hX H locs ls hl hP hS)
end GR
/-- a method's start: the world's picture, and what the tables say -/
def gPre (D : va_G) (cI cJ : ClassId) (ad : Nat → Nat) (σ : gSt) (sz : Nat) (U : State) : Prop :=
  U.heap.size = sz ∧ va_P D vwCl (gw cI cJ ad σ) U.heap ∧ va_K D vwCl [(cI, .int)] U ∧ gInj ad ∧ gB U ∧ gZ (gA ad sz) U U.heap
theorem gPre_blind {D : va_G} {cI cJ : ClassId} {ad : Nat → Nat} {σ : gSt} {sz : Nat} {av : List Value} : FrameBlind (va_Pc av (gPre D cI cJ ad σ sz)) := by
  intro a U g mk q
  obtain ⟨q0, q1, qP, qK, qi, qB, qZ⟩ := q
  exact ⟨q0, q1, qP, va_K.moved (u := U) (U := U.calling g mk a) (Vm.Alike.refl U.vm) qK, qi, gB_warm (s := U) (U := U.calling g mk a) (State.WarmedH.refl U) qB, gZ_moved (u := U) (U := U.calling g mk a) (Vm.Alike.refl U.vm) qZ⟩
section GK
variable {p : Program} {l : Launch} {e : Env} {R : Room} {s : State} {m : MethodId} {args : Array Value} {below : List Frame} {meth : Method} {c : Code} {D : va_G} {cI cJ : ClassId} {ad : Nat → Nat} {A : Nat → Prop} {cc : ByteArray} {nL : Nat} {own : String} {cells slots : Nat} {Q : State → Prop} {σ : gSt} {pc : Nat} {L L' : List (Nat × Value)} {st : List Value}
variable {ρ : Type} {X X1 X2 : Option ρ} {res : ρ}
theorem gPre_at (C : gC p s m args meth c D cI cJ ad A cc nL own) {H : Heap} {locs : List Loc} (hP : va_P D vwCl (gw cI cJ ad σ) H) (hS : va_S A s.heap H locs) {U : State} (hU : U.heap = H) (hW : s.WarmedH U.vm) : gPre D cI cJ ad σ H.size U := by
  obtain ⟨hx, hb, hml, hown, hts, hK, hA, hA2, hi, hB, hZ, hlk⟩ := C
  refine ⟨by rw [hU], by rw [hU]; exact hP, va_K.moved hW.alike hK, hi, gB_warm hW hB, ?_⟩
  rw [hU]
  refine gZ_moved hW.alike (gZ_narrow (gZ_kept hZ hS.2.1) (fun q hq => ?_))
  rcases hq with ⟨k, hk, rfl⟩ | hq
  · exact hA2 k hk
  · exact hA q (Nat.le_trans hS.1 hq)
theorem gA_sub (C : gC p s m args meth c D cI cJ ad A cc nL own) {H : Heap} {locs : List Loc} (hS : va_S A s.heap H locs) : ∀ q, gA ad H.size q → A q := by
  intro q hq
  rcases hq with ⟨k, hk, rfl⟩ | hq
  · exact C.2.2.2.2.2.2.2.1 k hk
  · exact C.2.2.2.2.2.2.1 q (Nat.le_trans hS.1 hq)
/-- contracts: an int (or boolean) comes back; nothing; a thing of the world -/
def gMi (l : Launch) (D : va_G) (cI cJ : ClassId) (ad : Nat → Nat) (y : MethodName) (yb : ByteArray) (yn : Nat) (yret : Option FieldType) (rm : Room) (av : List Value) (F : gSt → Option (Int32 × gSt)) : Prop :=
  ∀ (σ : gSt) (r : Int32) (σ' : gSt) (sz : Nat), F σ = some (r, σ') → Met l y (.code y yb yn yret :: gT) rm (va_Pc av (gPre D cI cJ ad σ sz)) (va_Qi (fun r1 (_ : Unit) => r1 = r) (fun _ t => va_P D vwCl (gw cI cJ ad σ') t.heap) (gA ad sz)) 0 0 (gA ad sz)
def gMv (l : Launch) (D : va_G) (cI cJ : ClassId) (ad : Nat → Nat) (y : MethodName) (yb : ByteArray) (yn : Nat) (yret : Option FieldType) (rm : Room) (av : List Value) (F : gSt → Option gSt) : Prop :=
  ∀ (σ : gSt) (σ' : gSt) (sz : Nat), F σ = some σ' → Met l y (.code y yb yn yret :: gT) rm (va_Pc av (gPre D cI cJ ad σ sz)) (va_Qv (fun (_ : Unit) => True) (fun _ t => va_P D vwCl (gw cI cJ ad σ') t.heap) (gA ad sz)) 0 0 (gA ad sz)
def gMr (l : Launch) (D : va_G) (cI cJ : ClassId) (ad : Nat → Nat) (y : MethodName) (yb : ByteArray) (yn : Nat) (yret : Option FieldType) (rm : Room) (av : List Value) (F : gSt → Option (Nat × gSt)) : Prop :=
  ∀ (σ : gSt) (o : Nat) (σ' : gSt) (sz : Nat), F σ = some (o, σ') → Met l y (.code y yb yn yret :: gT) rm (va_Pc av (gPre D cI cJ ad σ sz)) (va_Qr (fun (_ : Unit) => True) (fun _ a t => a = ad o ∧ va_P D vwCl (gw cI cJ ad σ') t.heap) (gA ad sz)) 0 0 (gA ad sz)
theorem gGood {Ts : List Cond} {y : MethodName} {yb : ByteArray} {yn : Nat} {yret : Option FieldType} (hsub : ∀ w ∈ gT, w ∈ Ts) (h : Cond.code y yb yn yret ∈ gT) : GoodIn Ts (.code y yb yn yret :: gT) := by
  intro w hw
  have hw2 : w ∈ gT := by
    rcases List.mem_cons.mp hw with rfl | h1
    · exact h
    · exact h1
  exact ⟨hsub w hw2, good_of_word (gT_good hw2)⟩
/-- a virtual call's words; a static one's; a static one's into another class; a nest mate's static -/
def gWv (own : String) (idx : Nat) (CN : String) (y : MethodName) (yb : ByteArray) (yn : Nat) (yret : Option FieldType) (n : Nat) : Prop :=
  Cond.methodLink own idx y ∈ gT ∧ Cond.instanceMethod y ∈ gT ∧ Cond.selects CN y y ∈ gT ∧ Cond.initialized CN ∈ gT ∧ Cond.code y yb yn yret ∈ gT ∧ (y.cls = CN ∧ y.cls ≠ "java/lang/invoke/MethodHandle" ∧ y.cls ≠ "java/lang/invoke/VarHandle" ∧ (parseMethodDescriptor y.desc).map (fun d => d.parameters.length) = some n)
def gWs (own : String) (idx : Nat) (y : MethodName) (yb : ByteArray) (yn : Nat) (yret : Option FieldType) (n : Nat) : Prop :=
  Cond.methodLink own idx y ∈ gT ∧ Cond.static y ∈ gT ∧ Cond.initialized y.cls ∈ gT ∧ Cond.code y yb yn yret ∈ gT ∧ (y.cls ≠ "java/lang/invoke/MethodHandle" ∧ y.cls ≠ "java/lang/invoke/VarHandle" ∧ (parseMethodDescriptor y.desc).map (fun d => d.parameters.length) = some n)
def gWn (own : String) (idx : Nat) (host : String) (y : MethodName) (yb : ByteArray) (yn : Nat) (yret : Option FieldType) (n : Nat) : Prop :=
  Cond.methodLinkNest own idx y host ∈ gNest ∧ Cond.static y ∈ gT ∧ Cond.initialized y.cls ∈ gT ∧ Cond.code y yb yn yret ∈ gT ∧ (y.cls ≠ "java/lang/invoke/MethodHandle" ∧ y.cls ≠ "java/lang/invoke/VarHandle" ∧ (parseMethodDescriptor y.desc).map (fun d => d.parameters.length) = some n)
theorem gRunV (C : gC p s m args meth c D cI cJ ad A cc nL own) {idx c0 o n : Nat} {CN : String} {T : u_T} {y : MethodName} {yb : ByteArray} {yn : Nat} {yret : Option FieldType} {rm : Room} {As : List Value} {Qc : Array Value → State → Outcome → State → Prop} {free : Addr → Prop} {H : Heap} {locs : List Loc} {ls : Array Slot} {stk : List Value}
    (hM : Met l y (.code y yb yn yret :: gT) rm (va_Pc (.ref (ad o) :: As) (gPre D cI cJ ad σ H.size)) Qc 0 0 free) (hrm : rm.cells = 0 ∧ rm.slots = 0) (hcl : gCl c0 CN T) (ho : gKd o = c0) (hw : gWv own idx CN y yb yn yret n) (hR : rm.frames + 1 ≤ R.frames ∧ 8 + (yn + 11) + rm.locals ≤ R.locals) (hn : As.length = n)
    (hl : lv_has ls nL L) (hP : va_P D vwCl (gw cI cJ ad σ) H) (hS : va_S A s.heap H locs) (hstk : stk = As.reverse ++ .ref (ad o) :: st) (hcat : (st.map fun v => v.category).sum ≤ 8) (hdg : decode cc pc = .ok (.invokevirtual idx, 3)) (hf : cells ≤ R.cells ∧ slots ≤ R.slots) :
    va_Run p l e R s m args below meth c H locs cells slots 0 0 (F0 m pc ls stk) st (Qc (Value.ref (ad o) :: As).toArray) free := by
  obtain ⟨w1, w2, w3, w4, w5, w6⟩ := hw
  have hts := C.2.2.2.2.1
  have cw : CallW R s args own CN idx y yb yn yret (.code y yb yn yret :: gT) rm 0 0 n :=
    ⟨callB_of n hts (gGood (fun _ h => h) w5) rfl hrm.1 hrm.2 (by rw [w6.1]; exact hts _ w4) (hts _ w1) w6.2 hR, hts _ w2, hts _ w3⟩
  exact va_runV ⟨C.1, C.2.1, C.2.2.1, C.2.2.2.1, hts⟩ hM cw ⟨gPre_blind, va_recv (q := (CN, T, gNf c0)) C.2.2.2.2.2.1 hP hcl.2.1 (gw_obj ho hcl.2.2), fun U hU hW => ⟨rfl, gPre_at C hP hS hU hW⟩⟩ rfl hn hl.1 hstk (lv_room hcat) hdg hf
theorem gRunS (C : gC p s m args meth c D cI cJ ad A cc nL own) {idx n : Nat} {y : MethodName} {yb : ByteArray} {yn : Nat} {yret : Option FieldType} {rm : Room} {As : List Value} {Qc : Array Value → State → Outcome → State → Prop} {free : Addr → Prop} {H : Heap} {locs : List Loc} {ls : Array Slot} {stk : List Value}
    (hM : Met l y (.code y yb yn yret :: gT) rm (va_Pc As (gPre D cI cJ ad σ H.size)) Qc 0 0 free) (hrm : rm.cells = 0 ∧ rm.slots = 0) (hw : gWs own idx y yb yn yret n) (hR : rm.frames + 1 ≤ R.frames ∧ 8 + (yn + 11) + rm.locals ≤ R.locals) (hn : As.length = n)
    (hl : lv_has ls nL L) (hP : va_P D vwCl (gw cI cJ ad σ) H) (hS : va_S A s.heap H locs) (hstk : stk = As.reverse ++ st) (hcat : (st.map fun v => v.category).sum ≤ 8) (hdg : decode cc pc = .ok (.invokestatic idx, 3)) (hf : cells ≤ R.cells ∧ slots ≤ R.slots) :
    va_Run p l e R s m args below meth c H locs cells slots 0 0 (F0 m pc ls stk) st (Qc As.toArray) free := by
  obtain ⟨w1, w2, w3, w4, w6⟩ := hw
  have hts := C.2.2.2.2.1
  exact va_runS ⟨C.1, C.2.1, C.2.2.1, C.2.2.2.1, hts⟩ hM ⟨callB_of n hts (gGood (fun _ h => h) w4) rfl hrm.1 hrm.2 (hts _ w3) (hts _ w1) w6 hR, hts _ w2⟩ ⟨gPre_blind, fun U hU hW => ⟨rfl, gPre_at C hP hS hU hW⟩⟩ rfl hn hl.1 hstk (lv_room hcat) hdg hf
theorem gRunN (C : gC p s m args meth c D cI cJ ad A cc nL own) {idx n : Nat} {host : String} {y : MethodName} {yb : ByteArray} {yn : Nat} {yret : Option FieldType} {rm : Room} {As : List Value} {Qc : Array Value → State → Outcome → State → Prop} {free : Addr → Prop} {H : Heap} {locs : List Loc} {ls : Array Slot} {stk : List Value}
    (hM : Met l y (.code y yb yn yret :: gT) rm (va_Pc As (gPre D cI cJ ad σ H.size)) Qc 0 0 free) (hrm : rm.cells = 0 ∧ rm.slots = 0) (hw : gWn own idx host y yb yn yret n) (hR : rm.frames + 1 ≤ R.frames ∧ 8 + (yn + 11) + rm.locals ≤ R.locals) (hn : As.length = n)
    (hl : lv_has ls nL L) (hP : va_P D vwCl (gw cI cJ ad σ) H) (hS : va_S A s.heap H locs) (hstk : stk = As.reverse ++ st) (hcat : (st.map fun v => v.category).sum ≤ 8) (hdg : decode cc pc = .ok (.invokestatic idx, 3)) (hf : cells ≤ R.cells ∧ slots ≤ R.slots) :
    va_Run p l e R s m args below meth c H locs cells slots 0 0 (F0 m pc ls stk) st (Qc As.toArray) free := by
  obtain ⟨w1, w2, w3, w4, w6⟩ := hw
  have hts := C.2.2.2.2.1
  exact va_runSN (host := host) ⟨C.1, C.2.1, C.2.2.1, C.2.2.2.1, hts⟩ hM ⟨va_cnB (host := host) n hts (gGood (fun _ h => h) w4) rfl hrm.1 hrm.2 (gB_nest C.2.2.2.2.2.2.2.2.2.1 w1) (hts _ w3) w6 hR, hts _ w2, trivial⟩ ⟨gPre_blind, fun U hU hW => ⟨rfl, gPre_at C hP hS hU hW⟩⟩ rfl hn hl.1 hstk (lv_room hcat) hdg hf
/-- behind a call -/
theorem gConI (C : gC p s m args meth c D cI cJ ad A cc nL own) {H : Heap} {locs : List Loc} {ls : Array Slot} {stk : List Value} {r : Int32} {σ' : gSt} {a : Array Value} (hl : lv_has ls nL L) (hS : va_S A s.heap H locs)
    (hr : va_Run p l e R s m args below meth c H locs cells slots 0 0 (F0 m pc ls stk) st (va_Qi (fun r1 (_ : Unit) => r1 = r) (fun _ t => va_P D vwCl (gw cI cJ ad σ') t.heap) (gA ad H.size) a) (gA ad H.size))
    (k : gG p l e R s m args below meth c D cI cJ ad A nL cells slots Q σ' (pc + 3) L (.int r :: st)) : W p l e R s m args below meth c H locs cells slots Q (F0 m pc ls stk) := by
  refine va_calli hr hS (fun q _ h => gA_sub C hS q h) (gA_sub C hS) (fun r1 u t H1 locs1 ht hvm hw hB hz hk hS1 => ?_)
  subst hw
  rw [ht] at hB
  exact k H1 locs1 ls hl hB hS1
theorem gConV (C : gC p s m args meth c D cI cJ ad A cc nL own) {H : Heap} {locs : List Loc} {ls : Array Slot} {stk : List Value} {σ' : gSt} {a : Array Value} (hl : lv_has ls nL L) (hS : va_S A s.heap H locs)
    (hr : va_Run p l e R s m args below meth c H locs cells slots 0 0 (F0 m pc ls stk) st (va_Qv (fun (_ : Unit) => True) (fun _ t => va_P D vwCl (gw cI cJ ad σ') t.heap) (gA ad H.size) a) (gA ad H.size))
    (k : gG p l e R s m args below meth c D cI cJ ad A nL cells slots Q σ' (pc + 3) L st) : W p l e R s m args below meth c H locs cells slots Q (F0 m pc ls stk) := by
  refine va_callv hr hS (fun q _ h => gA_sub C hS q h) (gA_sub C hS) (fun u t H1 locs1 ht hvm hw hB hz hk hS1 => ?_)
  rw [ht] at hB
  exact k H1 locs1 ls hl hB hS1
theorem gConR (C : gC p s m args meth c D cI cJ ad A cc nL own) {H : Heap} {locs : List Loc} {ls : Array Slot} {stk : List Value} {o : Nat} {σ' : gSt} {a : Array Value} (hl : lv_has ls nL L) (hS : va_S A s.heap H locs)
    (hr : va_Run p l e R s m args below meth c H locs cells slots 0 0 (F0 m pc ls stk) st (va_Qr (fun (_ : Unit) => True) (fun _ a t => a = ad o ∧ va_P D vwCl (gw cI cJ ad σ') t.heap) (gA ad H.size) a) (gA ad H.size))
    (k : gG p l e R s m args below meth c D cI cJ ad A nL cells slots Q σ' (pc + 3) L (.ref (ad o) :: st)) : W p l e R s m args below meth c H locs cells slots Q (F0 m pc ls stk) := by
  refine va_callr hr hS (fun q _ h => gA_sub C hS q h) (gA_sub C hS) (fun u ra t H1 locs1 ht hvm hw hB hz hk hS1 => ?_)
  obtain ⟨rfl, hB⟩ := hB
  rw [ht] at hB
  exact k H1 locs1 ls hl hB hS1
def gbi {ρ : Type} (X0 : Option (Int32 × gSt)) (K : Int32 → gSt → Option ρ) : Option ρ := match X0 with
  | none => none
  | some q => K q.1 q.2
def gbv {ρ : Type} (X0 : Option gSt) (K : gSt → Option ρ) : Option ρ := match X0 with
  | none => none
  | some q => K q
def gbr {ρ : Type} (X0 : Option (Nat × gSt)) (K : Nat → gSt → Option ρ) : Option ρ := match X0 with
  | none => none
  | some q => K q.1 q.2
theorem g_callvi (C : gC p s m args meth c D cI cJ ad A cc nL own) {idx c0 o n : Nat} {CN : String} {T : u_T} {y : MethodName} {yb : ByteArray} {yn : Nat} {yret : Option FieldType} {rm : Room} {As : List Value} {F : gSt → Option (Int32 × gSt)} {K : Int32 → gSt → Option ρ} {stk : List Value}
    (hM : gMi l D cI cJ ad y yb yn yret rm (.ref (ad o) :: As) F) (hrm : rm.cells = 0 ∧ rm.slots = 0) (hcl : gCl c0 CN T) (ho : gKd o = c0) (hw : gWv own idx CN y yb yn yret n) (hR : rm.frames + 1 ≤ R.frames ∧ 8 + (yn + 11) + rm.locals ≤ R.locals) (hn : As.length = n) (hstk : stk = As.reverse ++ .ref (ad o) :: st) (hcat : (st.map fun v => v.category).sum ≤ 8) (hdg : decode cc pc = .ok (.invokevirtual idx, 3)) (hf : cells ≤ R.cells ∧ slots ≤ R.slots)
    (k : ∀ (r : Int32) (σ' : gSt), gX (K r σ') res (gG p l e R s m args below meth c D cI cJ ad A nL cells slots Q σ' (pc + 3) L (.int r :: st))) : gX (gbi (F σ) K) res (gG p l e R s m args below meth c D cI cJ ad A nL cells slots Q σ pc L stk) := by
  intro hX
  cases hF : F σ with
  | none => rw [hF] at hX; cases hX
  | some q =>
    rw [hF] at hX
    obtain ⟨r, σ'⟩ := q
    intro H locs ls hl hP hS
    exact gConI C hl hS (gRunV C (hM _ _ _ _ hF) hrm hcl ho hw hR hn hl hP hS hstk hcat hdg hf) (k r σ' hX)
theorem g_callvv (C : gC p s m args meth c D cI cJ ad A cc nL own) {idx c0 o n : Nat} {CN : String} {T : u_T} {y : MethodName} {yb : ByteArray} {yn : Nat} {yret : Option FieldType} {rm : Room} {As : List Value} {F : gSt → Option gSt} {K : gSt → Option ρ} {stk : List Value}
    (hM : gMv l D cI cJ ad y yb yn yret rm (.ref (ad o) :: As) F) (hrm : rm.cells = 0 ∧ rm.slots = 0) (hcl : gCl c0 CN T) (ho : gKd o = c0) (hw : gWv own idx CN y yb yn yret n) (hR : rm.frames + 1 ≤ R.frames ∧ 8 + (yn + 11) + rm.locals ≤ R.locals) (hn : As.length = n) (hstk : stk = As.reverse ++ .ref (ad o) :: st) (hcat : (st.map fun v => v.category).sum ≤ 8) (hdg : decode cc pc = .ok (.invokevirtual idx, 3)) (hf : cells ≤ R.cells ∧ slots ≤ R.slots)
    (k : ∀ σ' : gSt, gX (K σ') res (gG p l e R s m args below meth c D cI cJ ad A nL cells slots Q σ' (pc + 3) L (st))) : gX (gbv (F σ) K) res (gG p l e R s m args below meth c D cI cJ ad A nL cells slots Q σ pc L stk) := by
  intro hX
  cases hF : F σ with
  | none => rw [hF] at hX; cases hX
  | some σ' =>
    rw [hF] at hX
    intro H locs ls hl hP hS
    exact gConV C hl hS (gRunV C (hM _ _ _ hF) hrm hcl ho hw hR hn hl hP hS hstk hcat hdg hf) (k σ' hX)
theorem g_callvr (C : gC p s m args meth c D cI cJ ad A cc nL own) {idx c0 o n : Nat} {CN : String} {T : u_T} {y : MethodName} {yb : ByteArray} {yn : Nat} {yret : Option FieldType} {rm : Room} {As : List Value} {F : gSt → Option (Nat × gSt)} {K : Nat → gSt → Option ρ} {stk : List Value}
    (hM : gMr l D cI cJ ad y yb yn yret rm (.ref (ad o) :: As) F) (hrm : rm.cells = 0 ∧ rm.slots = 0) (hcl : gCl c0 CN T) (ho : gKd o = c0) (hw : gWv own idx CN y yb yn yret n) (hR : rm.frames + 1 ≤ R.frames ∧ 8 + (yn + 11) + rm.locals ≤ R.locals) (hn : As.length = n) (hstk : stk = As.reverse ++ .ref (ad o) :: st) (hcat : (st.map fun v => v.category).sum ≤ 8) (hdg : decode cc pc = .ok (.invokevirtual idx, 3)) (hf : cells ≤ R.cells ∧ slots ≤ R.slots)
    (k : ∀ (o1 : Nat) (σ' : gSt), F σ = some (o1, σ') → gX (K o1 σ') res (gG p l e R s m args below meth c D cI cJ ad A nL cells slots Q σ' (pc + 3) L (.ref (ad o1) :: st))) : gX (gbr (F σ) K) res (gG p l e R s m args below meth c D cI cJ ad A nL cells slots Q σ pc L stk) := by
  intro hX
  cases hF : F σ with
  | none => rw [hF] at hX; cases hX
  | some q =>
    rw [hF] at hX
    obtain ⟨o1, σ'⟩ := q
    intro H locs ls hl hP hS
    exact gConR C hl hS (gRunV C (hM _ _ _ _ hF) hrm hcl ho hw hR hn hl hP hS hstk hcat hdg hf) (k o1 σ' hF hX)
theorem g_callsi (C : gC p s m args meth c D cI cJ ad A cc nL own) {idx n : Nat} {y : MethodName} {yb : ByteArray} {yn : Nat} {yret : Option FieldType} {rm : Room} {As : List Value} {F : gSt → Option (Int32 × gSt)} {K : Int32 → gSt → Option ρ} {stk : List Value}
    (hM : gMi l D cI cJ ad y yb yn yret rm As F) (hrm : rm.cells = 0 ∧ rm.slots = 0) (hw : gWs own idx y yb yn yret n) (hR : rm.frames + 1 ≤ R.frames ∧ 8 + (yn + 11) + rm.locals ≤ R.locals) (hn : As.length = n) (hstk : stk = As.reverse ++ st) (hcat : (st.map fun v => v.category).sum ≤ 8) (hdg : decode cc pc = .ok (.invokestatic idx, 3)) (hf : cells ≤ R.cells ∧ slots ≤ R.slots)
    (k : ∀ (r : Int32) (σ' : gSt), gX (K r σ') res (gG p l e R s m args below meth c D cI cJ ad A nL cells slots Q σ' (pc + 3) L (.int r :: st))) : gX (gbi (F σ) K) res (gG p l e R s m args below meth c D cI cJ ad A nL cells slots Q σ pc L stk) := by
  intro hX
  cases hF : F σ with
  | none => rw [hF] at hX; cases hX
  | some q =>
    rw [hF] at hX
    obtain ⟨r, σ'⟩ := q
    intro H locs ls hl hP hS
    exact gConI C hl hS (gRunS C (hM _ _ _ _ hF) hrm hw hR hn hl hP hS hstk hcat hdg hf) (k r σ' hX)
theorem g_callsv (C : gC p s m args meth c D cI cJ ad A cc nL own) {idx n : Nat} {y : MethodName} {yb : ByteArray} {yn : Nat} {yret : Option FieldType} {rm : Room} {As : List Value} {F : gSt → Option gSt} {K : gSt → Option ρ} {stk : List Value}
    (hM : gMv l D cI cJ ad y yb yn yret rm As F) (hrm : rm.cells = 0 ∧ rm.slots = 0) (hw : gWs own idx y yb yn yret n) (hR : rm.frames + 1 ≤ R.frames ∧ 8 + (yn + 11) + rm.locals ≤ R.locals) (hn : As.length = n) (hstk : stk = As.reverse ++ st) (hcat : (st.map fun v => v.category).sum ≤ 8) (hdg : decode cc pc = .ok (.invokestatic idx, 3)) (hf : cells ≤ R.cells ∧ slots ≤ R.slots)
    (k : ∀ σ' : gSt, gX (K σ') res (gG p l e R s m args below meth c D cI cJ ad A nL cells slots Q σ' (pc + 3) L (st))) : gX (gbv (F σ) K) res (gG p l e R s m args below meth c D cI cJ ad A nL cells slots Q σ pc L stk) := by
  intro hX
  cases hF : F σ with
  | none => rw [hF] at hX; cases hX
  | some σ' =>
    rw [hF] at hX
    intro H locs ls hl hP hS
    exact gConV C hl hS (gRunS C (hM _ _ _ hF) hrm hw hR hn hl hP hS hstk hcat hdg hf) (k σ' hX)
theorem g_callni (C : gC p s m args meth c D cI cJ ad A cc nL own) {idx n : Nat} {host : String} {y : MethodName} {yb : ByteArray} {yn : Nat} {yret : Option FieldType} {rm : Room} {As : List Value} {F : gSt → Option (Int32 × gSt)} {K : Int32 → gSt → Option ρ} {stk : List Value}
    (hM : gMi l D cI cJ ad y yb yn yret rm As F) (hrm : rm.cells = 0 ∧ rm.slots = 0) (hw : gWn own idx host y yb yn yret n) (hR : rm.frames + 1 ≤ R.frames ∧ 8 + (yn + 11) + rm.locals ≤ R.locals) (hn : As.length = n) (hstk : stk = As.reverse ++ st) (hcat : (st.map fun v => v.category).sum ≤ 8) (hdg : decode cc pc = .ok (.invokestatic idx, 3)) (hf : cells ≤ R.cells ∧ slots ≤ R.slots)
    (k : ∀ (r : Int32) (σ' : gSt), gX (K r σ') res (gG p l e R s m args below meth c D cI cJ ad A nL cells slots Q σ' (pc + 3) L (.int r :: st))) : gX (gbi (F σ) K) res (gG p l e R s m args below meth c D cI cJ ad A nL cells slots Q σ pc L stk) := by
  intro hX
  cases hF : F σ with
  | none => rw [hF] at hX; cases hX
  | some q =>
    rw [hF] at hX
    obtain ⟨r, σ'⟩ := q
    intro H locs ls hl hP hS
    exact gConI C hl hS (gRunN C (hM _ _ _ _ hF) hrm hw hR hn hl hP hS hstk hcat hdg hf) (k r σ' hX)
theorem g_callnv (C : gC p s m args meth c D cI cJ ad A cc nL own) {idx n : Nat} {host : String} {y : MethodName} {yb : ByteArray} {yn : Nat} {yret : Option FieldType} {rm : Room} {As : List Value} {F : gSt → Option gSt} {K : gSt → Option ρ} {stk : List Value}
    (hM : gMv l D cI cJ ad y yb yn yret rm As F) (hrm : rm.cells = 0 ∧ rm.slots = 0) (hw : gWn own idx host y yb yn yret n) (hR : rm.frames + 1 ≤ R.frames ∧ 8 + (yn + 11) + rm.locals ≤ R.locals) (hn : As.length = n) (hstk : stk = As.reverse ++ st) (hcat : (st.map fun v => v.category).sum ≤ 8) (hdg : decode cc pc = .ok (.invokestatic idx, 3)) (hf : cells ≤ R.cells ∧ slots ≤ R.slots)
    (k : ∀ σ' : gSt, gX (K σ') res (gG p l e R s m args below meth c D cI cJ ad A nL cells slots Q σ' (pc + 3) L (st))) : gX (gbv (F σ) K) res (gG p l e R s m args below meth c D cI cJ ad A nL cells slots Q σ pc L stk) := by
  intro hX
  cases hF : F σ with
  | none => rw [hF] at hX; cases hX
  | some σ' =>
    rw [hF] at hX
    intro H locs ls hl hP hS
    exact gConV C hl hS (gRunN C (hM _ _ _ hF) hrm hw hR hn hl hP hS hstk hcat hdg hf) (k σ' hX)
theorem g_ireti (C : gC p s m args meth c D cI cJ ad A cc nL own) {v r : Int32} {σ' : gSt} (hr : meth.sig.returnType = some .int) (hdg : decode cc pc = .ok (.ireturn, 1)) : gX (some (v, σ)) (r, σ') (gG p l e R s m args below meth c D cI cJ ad A nL 0 0 (MQ below (va_Qi (fun r1 (_ : Unit) => r1 = r) (fun _ t => va_P D vwCl (gw cI cJ ad σ') t.heap) A) args s 0 0 A) σ pc L [.int v]) := by
  intro hX H locs ls hl hP hS
  cases hX
  have hlk : meth.locks = false := C.2.2.2.2.2.2.2.2.2.2.2
  exact W.iret C.1 C.2.1 hr (fun t ht hW => ⟨⟨v, (), rfl, rfl, by show va_P D vwCl _ t.heap; rw [ht]; exact hP⟩, hS.F ht⟩) hS.2.2 hdg hlk
theorem g_iretz (C : gC p s m args meth c D cI cJ ad A cc nL own) {v r : Int32} {σ' : gSt} (hv : v = 0 ∨ v = 1) (hr : meth.sig.returnType = some .boolean) (hdg : decode cc pc = .ok (.ireturn, 1)) : gX (some (v, σ)) (r, σ') (gG p l e R s m args below meth c D cI cJ ad A nL 0 0 (MQ below (va_Qi (fun r1 (_ : Unit) => r1 = r) (fun _ t => va_P D vwCl (gw cI cJ ad σ') t.heap) A) args s 0 0 A) σ pc L [.int v]) := by
  intro hX H locs ls hl hP hS
  cases hX
  have hlk : meth.locks = false := C.2.2.2.2.2.2.2.2.2.2.2
  exact W.zret C.1 C.2.1 hr (gz_n hv) (fun t ht hW => ⟨⟨v, (), rfl, rfl, by show va_P D vwCl _ t.heap; rw [ht]; exact hP⟩, hS.F ht⟩) hS.2.2 hdg hlk
theorem g_retv (C : gC p s m args meth c D cI cJ ad A cc nL own) {σ' : gSt} (hr : meth.sig.returnType = none) (hdg : decode cc pc = .ok (.return_, 1)) : gX (some σ) σ' (gG p l e R s m args below meth c D cI cJ ad A nL 0 0 (MQ below (va_Qv (fun (_ : Unit) => True) (fun _ t => va_P D vwCl (gw cI cJ ad σ') t.heap) A) args s 0 0 A) σ pc L []) := by
  intro hX H locs ls hl hP hS
  cases hX
  have hlk : meth.locks = false := C.2.2.2.2.2.2.2.2.2.2.2
  exact W.vret C.1 C.2.1 hr (fun t ht hW => ⟨⟨(), rfl, trivial, by show va_P D vwCl _ t.heap; rw [ht]; exact hP⟩, hS.F ht⟩) hS.2.2 hdg hlk
theorem g_areto (C : gC p s m args meth c D cI cJ ad A cc nL own) {o r : Nat} {σ' : gSt} {rt : FieldType} (hr : meth.sig.returnType = some rt) (hrt : (∃ n, rt = .object n) ∨ ∃ t, rt = .array t) (hdg : decode cc pc = .ok (.areturn, 1)) : gX (some (o, σ)) (r, σ') (gG p l e R s m args below meth c D cI cJ ad A nL 0 0 (MQ below (va_Qr (fun (_ : Unit) => True) (fun _ a t => a = ad r ∧ va_P D vwCl (gw cI cJ ad σ') t.heap) A) args s 0 0 A) σ pc L [.ref (ad o)]) := by
  intro hX H locs ls hl hP hS
  cases hX
  have hlk : meth.locks = false := C.2.2.2.2.2.2.2.2.2.2.2
  exact W.aret C.1 C.2.1 hr hrt (Or.inr ⟨_, rfl⟩) (fun t ht hW => ⟨⟨(), _, rfl, trivial, rfl, by show va_P D vwCl _ t.heap; rw [ht]; exact hP⟩, hS.F ht⟩) hS.2.2 hdg hlk
theorem gStartI {y : MethodName} {yb : ByteArray} {yn : Nat} {yret : Option FieldType} {rm : Room} {av : List Value} {F : gSt → Option (Int32 × gSt)} {L0 : List (Nat × Value)} (own : String) (hy : plainName y.cls = true) (hyc : y.cls = own) (hL0 : lv_args 0 av = L0) (hlen : (lg_sl av).length ≤ yn)
    (body : ∀ (p : Program) (e : Env) (s : State) (m : MethodId) (args : Array Value) (below : List Frame) (meth : Method) (c : Code) (sz : Nat) (σ : gSt) (r : Int32) (σ' : gSt), gC p s m args meth c D cI cJ ad (gA ad sz) yb yn own → meth.sig.returnType = yret →
      gX (F σ) (r, σ') (gG p l e rm s m args below meth c D cI cJ ad (gA ad sz) yn 0 0 (MQ below (va_Qi (fun r1 (_ : Unit) => r1 = r) (fun _ t => va_P D vwCl (gw cI cJ ad σ') t.heap) (gA ad sz)) args s 0 0 (gA ad sz)) σ 0 L0 [])) : gMi l D cI cJ ad y yb yn yret rm av F := by
  intro σ r σ' sz hF
  refine Met.ofW (cc := yb) (maxL := yn) (ret := yret) hy rfl ?_
  intro p e s m args below meth c s₁ B hml hv
  obtain ⟨rfl, hsz, hP, hK, hi, hB, hZ⟩ := hv
  have hts := atoms_spec (ws := .code y yb yn yret :: gT) B.pre
  have hown : s.vm.findClass own = some m.cls := by rw [← hyc]; exact findClass_of_methodNamed B.named
  have hl := lv_entry av (n := yn) hlen
  rw [lg_entry_eq]
  rw [hL0] at hl
  subst hsz
  exact body p e s m _ below meth c s.heap.size σ r σ' ⟨B.exec, B.bytes, hml, hown, fun w hw => hts w (List.mem_cons_of_mem _ hw), hK, fun q h => Or.inr h, fun k hk => Or.inl ⟨k, hk, rfl⟩, hi, hB, hZ, B.notSynchronized⟩ B.returns hF s.heap [] _ hl hP va_S.rf
theorem gStartV {y : MethodName} {yb : ByteArray} {yn : Nat} {yret : Option FieldType} {rm : Room} {av : List Value} {F : gSt → Option gSt} {L0 : List (Nat × Value)} (own : String) (hy : plainName y.cls = true) (hyc : y.cls = own) (hL0 : lv_args 0 av = L0) (hlen : (lg_sl av).length ≤ yn)
    (body : ∀ (p : Program) (e : Env) (s : State) (m : MethodId) (args : Array Value) (below : List Frame) (meth : Method) (c : Code) (sz : Nat) (σ : gSt) (σ' : gSt), gC p s m args meth c D cI cJ ad (gA ad sz) yb yn own → meth.sig.returnType = yret →
      gX (F σ) σ' (gG p l e rm s m args below meth c D cI cJ ad (gA ad sz) yn 0 0 (MQ below (va_Qv (fun (_ : Unit) => True) (fun _ t => va_P D vwCl (gw cI cJ ad σ') t.heap) (gA ad sz)) args s 0 0 (gA ad sz)) σ 0 L0 [])) : gMv l D cI cJ ad y yb yn yret rm av F := by
  intro σ σ' sz hF
  refine Met.ofW (cc := yb) (maxL := yn) (ret := yret) hy rfl ?_
  intro p e s m args below meth c s₁ B hml hv
  obtain ⟨rfl, hsz, hP, hK, hi, hB, hZ⟩ := hv
  have hts := atoms_spec (ws := .code y yb yn yret :: gT) B.pre
  have hown : s.vm.findClass own = some m.cls := by rw [← hyc]; exact findClass_of_methodNamed B.named
  have hl := lv_entry av (n := yn) hlen
  rw [lg_entry_eq]
  rw [hL0] at hl
  subst hsz
  exact body p e s m _ below meth c s.heap.size σ σ' ⟨B.exec, B.bytes, hml, hown, fun w hw => hts w (List.mem_cons_of_mem _ hw), hK, fun q h => Or.inr h, fun k hk => Or.inl ⟨k, hk, rfl⟩, hi, hB, hZ, B.notSynchronized⟩ B.returns hF s.heap [] _ hl hP va_S.rf
theorem gStartR {y : MethodName} {yb : ByteArray} {yn : Nat} {yret : Option FieldType} {rm : Room} {av : List Value} {F : gSt → Option (Nat × gSt)} {L0 : List (Nat × Value)} (own : String) (hy : plainName y.cls = true) (hyc : y.cls = own) (hL0 : lv_args 0 av = L0) (hlen : (lg_sl av).length ≤ yn)
    (body : ∀ (p : Program) (e : Env) (s : State) (m : MethodId) (args : Array Value) (below : List Frame) (meth : Method) (c : Code) (sz : Nat) (σ : gSt) (r : Nat) (σ' : gSt), gC p s m args meth c D cI cJ ad (gA ad sz) yb yn own → meth.sig.returnType = yret →
      gX (F σ) (r, σ') (gG p l e rm s m args below meth c D cI cJ ad (gA ad sz) yn 0 0 (MQ below (va_Qr (fun (_ : Unit) => True) (fun _ a t => a = ad r ∧ va_P D vwCl (gw cI cJ ad σ') t.heap) (gA ad sz)) args s 0 0 (gA ad sz)) σ 0 L0 [])) : gMr l D cI cJ ad y yb yn yret rm av F := by
  intro σ r σ' sz hF
  refine Met.ofW (cc := yb) (maxL := yn) (ret := yret) hy rfl ?_
  intro p e s m args below meth c s₁ B hml hv
  obtain ⟨rfl, hsz, hP, hK, hi, hB, hZ⟩ := hv
  have hts := atoms_spec (ws := .code y yb yn yret :: gT) B.pre
  have hown : s.vm.findClass own = some m.cls := by rw [← hyc]; exact findClass_of_methodNamed B.named
  have hl := lv_entry av (n := yn) hlen
  rw [lg_entry_eq]
  rw [hL0] at hl
  subst hsz
  exact body p e s m _ below meth c s.heap.size σ r σ' ⟨B.exec, B.bytes, hml, hown, fun w hw => hts w (List.mem_cons_of_mem _ hw), hK, fun q h => Or.inr h, fun k hk => Or.inl ⟨k, hk, rfl⟩, hi, hB, hZ, B.notSynchronized⟩ B.returns hF s.heap [] _ hl hP va_S.rf
end GK
