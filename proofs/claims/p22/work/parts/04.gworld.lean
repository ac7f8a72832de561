/-! THE WORLD: 29 cells by number (0 the game, 1..7 its court, 8..14 the kept court, 15 rally, 16 17 sheet, 18 reader, 19..25 its court, 26 27 its rows, 28 the law's own row); what they hold is a function of two numbers -/
abbrev gSt : Type := Nat → Nat → Int32
def gup (σ : gSt) (k j : Nat) (v : Int32) : gSt := fun k' j' => if k' = k ∧ j' = j then v else σ k' j'
theorem gup_s {σ : gSt} {k j : Nat} {v : Int32} : gup σ k j v k j = v := if_pos ⟨rfl, rfl⟩
theorem gup_n {σ : gSt} {k j k' j' : Nat} {v : Int32} (h : ¬ (k' = k ∧ j' = j)) : gup σ k j v k' j' = σ k' j' := if_neg h
theorem gup_k {σ : gSt} {k j k' j' : Nat} {v : Int32} (h : k' ≠ k) : gup σ k j v k' j' = σ k' j' := if_neg (fun q => h q.1)
theorem gup_row {σ : gSt} {k j : Nat} {v : Int32} : gup σ k j v k = upd (σ k) j v := by
  funext j'
  unfold gup upd
  by_cases h : j' = j
  · rw [if_pos h, if_pos ⟨rfl, h⟩]
  · rw [if_neg h, if_neg (fun q => h q.2)]
theorem gup_oth {σ : gSt} {k j k' : Nat} {v : Int32} (h : k' ≠ k) : gup σ k j v k' = σ k' := by
  funext j'
  exact gup_k h
def gKs : List Nat := [5, 0, 4, 7, 7, 4, 7, 7, 0, 4, 7, 7, 4, 7, 7, 1, 3, 7, 2, 0, 4, 7, 7, 4, 7, 7, 7, 7, 7]
def gKd (k : Nat) : Nat := gKs.getD k 9
def gRs : List (List (Option Nat)) := [[some 1, some 8, some 15, some 16, some 18], [some 2, some 5], [some 3, some 4], [], [], [some 6, some 7], [], [],
  [some 9, some 12], [some 10, some 11], [], [], [some 13, some 14], [], [], [], [some 17], [], [some 19, some 26, some 27],
  [some 20, some 23], [some 21, some 22], [], [], [some 24, some 25], [], [], [], [], []]
def gRf (k j : Nat) : Option Nat := (gRs.getD k []).getD j none
def gLs : List Nat := [0, 0, 0, 7, 21, 0, 7, 21, 0, 0, 7, 21, 0, 7, 21, 0, 0, 640, 0, 0, 0, 7, 21, 0, 7, 21, 6, 6, 3]
def gLn (k : Nat) : Nat := gLs.getD k 0
def gNf (c : Nat) : Nat := [4, 7, 3, 2, 10, 8].getD c 0
def gfv (ad : Nat → Nat) (σ : gSt) (k j : Nat) : Value := match gRf k j with
  | some k' => .ref (ad k')
  | none => .int (σ k j)
def gcell (cI cJ : ClassId) (ad : Nat → Nat) (σ : gSt) (k : Nat) : va_E := if gKd k = 7 then .inl (cI, gLn k, .inl (σ k)) else if gKd k = 8 then .inl (cJ, gLn k, .inr (.inl (fun j => (σ k j).toInt64))) else .inr (gKd k, (List.range (gNf (gKd k))).map (gfv ad σ k))
def gw (cI cJ : ClassId) (ad : Nat → Nat) (σ : gSt) : va_W := (List.range 29).map (fun k => (ad k, gcell cI cJ ad σ k))
theorem gw_get {cI cJ : ClassId} {ad : Nat → Nat} {σ : gSt} {k : Nat} (h : k < 29) : (gw cI cJ ad σ)[k]? = some (ad k, gcell cI cJ ad σ k) := by
  unfold gw
  rw [List.getElem?_map, List.getElem?_range h]
  rfl
theorem gw_no {cI cJ : ClassId} {ad : Nat → Nat} {σ : gSt} {k : Nat} {q : Nat × va_E} (h : (gw cI cJ ad σ)[k]? = some q) : k < 29 ∧ q = (ad k, gcell cI cJ ad σ k) := by
  have hk : k < 29 := by
    have h1 := (List.getElem?_eq_some_iff.mp h).1
    simpa [gw] using h1
  refine ⟨hk, ?_⟩
  rw [gw_get hk] at h
  exact (Option.some.inj h).symm
theorem gcell_o {cI cJ : ClassId} {ad : Nat → Nat} {σ : gSt} {k c : Nat} (h : gKd k = c) (hc : c < 7) : gcell cI cJ ad σ k = .inr (c, (List.range (gNf c)).map (gfv ad σ k)) := by
  unfold gcell
  rw [if_neg (by omega), if_neg (by omega), h]
theorem gcell_i {cI cJ : ClassId} {ad : Nat → Nat} {σ : gSt} {k : Nat} (h : gKd k = 7) : gcell cI cJ ad σ k = .inl (cI, gLn k, .inl (σ k)) := by
  unfold gcell
  rw [if_pos h]
theorem gcell_j {cI cJ : ClassId} {ad : Nat → Nat} {σ : gSt} {k : Nat} (h : gKd k = 8) : gcell cI cJ ad σ k = .inl (cJ, gLn k, .inr (.inl (fun j => (σ k j).toInt64))) := by
  unfold gcell
  rw [if_neg (by omega), if_pos h]
theorem gKd_lt {k c : Nat} (h : gKd k = c) (hc : c < 9) : k < 29 := by
  rcases Nat.lt_or_ge k 29 with q | q
  · exact q
  · have : gKd k = 9 := by
      unfold gKd
      rw [List.getD_eq_getElem?_getD, List.getElem?_eq_none (by simpa [gKs] using q)]
      rfl
    omega
theorem gfl_get {ad : Nat → Nat} {σ : gSt} {k n j : Nat} (h : j < n) : ((List.range n).map (gfv ad σ k))[j]? = some (gfv ad σ k j) := by
  rw [List.getElem?_map, List.getElem?_range h]
  rfl
theorem gfv_i {ad : Nat → Nat} {σ : gSt} {k j : Nat} (h : gRf k j = none) : gfv ad σ k j = .int (σ k j) := by
  unfold gfv
  rw [h]
theorem gfv_r {ad : Nat → Nat} {σ : gSt} {k j k' : Nat} (h : gRf k j = some k') : gfv ad σ k j = .ref (ad k') := by
  unfold gfv
  rw [h]
theorem gcell_n {cI cJ : ClassId} {ad : Nat → Nat} {σ σ' : gSt} {k : Nat} (h : σ' k = σ k) : gcell cI cJ ad σ' k = gcell cI cJ ad σ k := by
  have h2 : gfv ad σ' k = gfv ad σ k := by
    funext j
    unfold gfv
    rw [h]
  unfold gcell
  rw [h, h2]
theorem gw_set {cI cJ : ClassId} {ad : Nat → Nat} {σ σ' : gSt} {k : Nat} (hk : k < 29) {e : va_E} (he : gcell cI cJ ad σ' k = e) (ho : ∀ k', k' ≠ k → σ' k' = σ k') : (gw cI cJ ad σ).set k (ad k, e) = gw cI cJ ad σ' := by
  apply List.ext_getElem?
  intro i
  rw [List.getElem?_set]
  by_cases h : k = i
  · subst h
    rw [if_pos rfl, if_pos (by simpa [gw] using hk), gw_get hk, he]
  · rw [if_neg h]
    rcases Nat.lt_or_ge i 29 with q | q
    · rw [gw_get q, gw_get q, gcell_n (ho i (Ne.symm h))]
    · rw [List.getElem?_eq_none (by simpa [gw] using q), List.getElem?_eq_none (by simpa [gw] using q)]
theorem gw_putf {cI cJ : ClassId} {ad : Nat → Nat} {σ : gSt} {k c j : Nat} {v : Int32} (h : gKd k = c) (hc : c < 7) (hr : gRf k j = none) : (gw cI cJ ad σ).set k (ad k, .inr (c, ((List.range (gNf c)).map (gfv ad σ k)).set j (.int v))) = gw cI cJ ad (gup σ k j v) := by
  refine gw_set (gKd_lt h (by omega)) ?_ (fun k' hk => gup_oth hk)
  rw [gcell_o h hc]
  congr 2
  apply List.ext_getElem?
  intro i
  rw [List.getElem?_set]
  by_cases hi : j = i
  · subst hi
    rw [if_pos rfl]
    rcases Nat.lt_or_ge j (gNf c) with q | q
    · rw [if_pos (by simpa using q), gfl_get q, gfv_i hr, gup_s]
    · rw [if_neg (by simpa using q), List.getElem?_eq_none (by simpa using q)]
  · rw [if_neg hi]
    rcases Nat.lt_or_ge i (gNf c) with q | q
    · rw [gfl_get q, gfl_get q]
      unfold gfv
      rw [gup_n (fun z => hi z.2.symm)]
    · rw [List.getElem?_eq_none (by simpa using q), List.getElem?_eq_none (by simpa using q)]
theorem gw_puti {cI cJ : ClassId} {ad : Nat → Nat} {σ : gSt} {k j : Nat} {v : Int32} (h : gKd k = 7) : (gw cI cJ ad σ).set k (ad k, .inl (cI, gLn k, .inl (upd (σ k) j v))) = gw cI cJ ad (gup σ k j v) := by
  refine gw_set (gKd_lt h (by omega)) ?_ (fun k' hk => gup_oth hk)
  rw [gcell_i h, gup_row]
theorem gw_putj {cI cJ : ClassId} {ad : Nat → Nat} {σ : gSt} {k j : Nat} {v : Int32} (h : gKd k = 8) : (gw cI cJ ad σ).set k (ad k, .inl (cJ, gLn k, .inr (.inl (vp_updL (fun j => (σ k j).toInt64) j v.toInt64)))) = gw cI cJ ad (gup σ k j v) := by
  refine gw_set (gKd_lt h (by omega)) ?_ (fun k' hk => gup_oth hk)
  rw [gcell_j h]
  congr 5
  funext j'
  rw [gup_row]
  unfold upd vp_updL
  by_cases hj : j' = j
  · rw [if_pos hj, if_pos hj]
  · rw [if_neg hj, if_neg hj]
/-- the addresses are unlike -/
def gInj (ad : Nat → Nat) : Prop := ∀ i j : Nat, i < 29 → j < 29 → ad i = ad j → i = j
theorem gw_D {cI cJ : ClassId} {ad : Nat → Nat} {σ : gSt} {A : Nat → Prop} (hi : gInj ad) (hA : ∀ k, k < 29 → A (ad k)) : va_D A (gw cI cJ ad σ) := by
  refine ⟨fun i j p q hp hq h => ?_, fun k q hq => ?_⟩
  · obtain ⟨h1, rfl⟩ := gw_no hp
    obtain ⟨h2, rfl⟩ := gw_no hq
    exact hi i j h1 h2 h
  · obtain ⟨h1, rfl⟩ := gw_no hq
    exact hA k h1
/-- what a method may write: the world's cells, and new ones -/
def gA (ad : Nat → Nat) (sz : Nat) : Nat → Prop := fun q => (∃ k, k < 29 ∧ q = ad k) ∨ sz ≤ q
/-- the words that all methods share -/
def gT : List Cond := lw_tbl.filter goodWord
theorem gT_in {w : Cond} (h : w ∈ lw_tbl) (hg : goodWord w = true) : w ∈ gT := List.mem_filter.mpr ⟨h, hg⟩
theorem gT_good {w : Cond} (h : w ∈ gT) : goodWord w = true := (List.mem_filter.mp h).2
theorem gT_lw {w : Cond} (h : w ∈ gT) : w ∈ lw_tbl := (List.mem_filter.mp h).1
/-- the answer of a method's picture, and that a goal is wanted only where there is one -/
def gX {ρ : Type} (X : Option ρ) (res : ρ) (G : Prop) : Prop := X = some res → G
def gl {α β : Type} (v : α) (K : α → β) : β := K v
theorem gX_none {ρ : Type} {res : ρ} {G : Prop} : gX none res G := fun h => nomatch h
theorem gX_if {ρ : Type} {res : ρ} {G : Prop} {c : Prop} [Decidable c] {X1 X2 : Option ρ} (a : c → gX X1 res G) (b : ¬ c → gX X2 res G) : gX (if c then X1 else X2) res G := by
  by_cases h : c
  · rw [if_pos h]; exact a h
  · rw [if_neg h]; exact b h
def gNestF : List (String × Nat × String × String × String × String) := [("Rotationary", 71, "Rotationary$Side", "libero", "I", "Rotationary"), ("Rotationary$Reader", 86, "Rotationary$Side", "libero", "I", "Rotationary"), ("Rotationary$Court", 42, "Rotationary$Side", "points", "I", "Rotationary"), ("Rotationary", 211, "Rotationary$Side", "points", "I", "Rotationary"), ("Rotationary$Court", 28, "Rotationary$Side", "sets", "I", "Rotationary"), ("Rotationary", 219, "Rotationary$Side", "sets", "I", "Rotationary"), ("Rotationary$Reader", 113, "Rotationary$Side", "rotations", "I", "Rotationary"), ("Rotationary", 193, "Rotationary$Side", "substitutions", "I", "Rotationary"), ("Rotationary", 196, "Rotationary$Side", "challenges", "I", "Rotationary"), ("Rotationary$Court", 45, "Rotationary$Side", "hasExchanged", "Z", "Rotationary"), ("Rotationary", 74, "Rotationary$Court", "first", "LRotationary$Side;", "Rotationary"), ("Rotationary$Reader", 62, "Rotationary$Court", "first", "LRotationary$Side;", "Rotationary"), ("Rotationary", 82, "Rotationary$Court", "second", "LRotationary$Side;", "Rotationary"), ("Rotationary$Reader", 71, "Rotationary$Court", "second", "LRotationary$Side;", "Rotationary"), ("Rotationary", 115, "Rotationary$Court", "server", "I", "Rotationary"), ("Rotationary", 162, "Rotationary$Court", "pointsAheadOfWrong", "I", "Rotationary"), ("Rotationary", 158, "Rotationary$Rally", "isOn", "Z", "Rotationary"), ("Rotationary", 152, "Rotationary$Rally", "team", "I", "Rotationary"), ("Rotationary", 225, "Rotationary$Rally", "shirt", "I", "Rotationary"), ("Rotationary$Reader", 28, "Rotationary$Sheet", "length", "I", "Rotationary"), ("Rotationary", 256, "Rotationary$Sheet", "length", "I", "Rotationary"), ("Rotationary", 218, "Rotationary$Reader", "court", "LRotationary$Court;", "Rotationary")]
def gNestM : List (String × Nat × MethodName × String) := [("Rotationary", 9, ⟨"Rotationary$Court", "<init>", "()V"⟩, "Rotationary"), ("Rotationary$Side", 28, ⟨"Rotationary", "putIn", "([III)V"⟩, "Rotationary"), ("Rotationary", 21, ⟨"Rotationary$Rally", "<init>", "()V"⟩, "Rotationary"), ("Rotationary", 28, ⟨"Rotationary$Sheet", "<init>", "()V"⟩, "Rotationary"), ("Rotationary", 35, ⟨"Rotationary$Reader", "<init>", "()V"⟩, "Rotationary"), ("Rotationary$Reader", 11, ⟨"Rotationary$Court", "<init>", "()V"⟩, "Rotationary"), ("Rotationary$Side", 32, ⟨"Rotationary", "valueIn", "([II)I"⟩, "Rotationary"), ("Rotationary$Sheet", 17, ⟨"Rotationary", "putIn", "([III)V"⟩, "Rotationary"), ("Rotationary$Reader", 74, ⟨"Rotationary", "putIn", "([III)V"⟩, "Rotationary"), ("Rotationary$Sheet", 23, ⟨"Rotationary", "valueIn", "([II)I"⟩, "Rotationary"), ("Rotationary$Reader", 58, ⟨"Rotationary", "valueIn", "([II)I"⟩, "Rotationary")]
def gNestD : List MethodName := [⟨"java/lang/RuntimeException", "<init>", "(Ljava/lang/String;)V"⟩, ⟨"java/lang/Exception", "<init>", "(Ljava/lang/String;)V"⟩, ⟨"java/lang/Throwable", "<init>", "(Ljava/lang/String;)V"⟩]
def gNestC : List (String × String) := [("java/lang/IndexOutOfBoundsException", "java/lang/IndexOutOfBoundsException"), ("java/lang/IllegalArgumentException", "java/lang/IllegalArgumentException"), ("java/lang/IllegalStateException", "java/lang/IllegalStateException")]
def gNcs : List (String × String) := [("java/lang/IndexOutOfBoundsException", "java/lang/IllegalArgumentException"), ("java/lang/IndexOutOfBoundsException", "java/lang/IllegalStateException"), ("java/lang/IllegalArgumentException", "java/lang/IndexOutOfBoundsException"), ("java/lang/IllegalArgumentException", "java/lang/IllegalStateException"), ("java/lang/IllegalStateException", "java/lang/IndexOutOfBoundsException"), ("java/lang/IllegalStateException", "java/lang/IllegalArgumentException")]
def gStr : List (String × Nat × String) := [("Rotationary", 240, "no such team"), ("Rotationary", 243, "no such place"), ("Rotationary", 245, "no such shirt"), ("Rotationary", 250, "a set goes on, or the match is over"), ("Rotationary", 87, "the orders are not as told"), ("Rotationary", 252, "no set goes on, or a rally goes on"), ("Rotationary", 121, "the shirt is not on the court"), ("Rotationary", 132, "no such touch"), ("Rotationary", 254, "no rally goes on"), ("Rotationary", 165, "nothing can be found"), ("Rotationary", 176, "it cannot be exchanged"), ("Rotationary", 188, "it cannot be substituted"), ("Rotationary", 199, "the team may not challenge"), ("Rotationary", 228, "nothing is told about this"), ("Rotationary", 230, "nothing is told of this"), ("Rotationary", 232, "no such remainder")]
def gNest : List Cond := gNestF.map (fun q => .fieldLinkNest q.1 q.2.1 q.2.2.1 q.2.2.2.1 q.2.2.2.2.1 q.2.2.2.2.2) ++ (gNestM.map (fun q => .methodLinkNest q.1 q.2.1 q.2.2.1 q.2.2.2) ++ (gNestD.map (fun q => .declares q) ++ gNestC.map (fun q => .castable q.1 q.2)))
theorem gNest_tab : ∀ w ∈ gNest, w.onTables = true := by
  intro w hw
  simp only [gNest, List.mem_append, List.mem_map] at hw
  rcases hw with ⟨q, -, rfl⟩ | ⟨q, -, rfl⟩ | ⟨q, -, rfl⟩ | ⟨q, -, rfl⟩ <;> rfl
theorem gNest_warm {s U : State} (hW : s.WarmedH U.vm) : ∀ w ∈ gNest, va_Nw w s → va_Nw w U := by
  intro w hw h
  simp only [gNest, List.mem_append, List.mem_map] at hw
  rcases hw with ⟨q, -, rfl⟩ | ⟨q, -, rfl⟩ | ⟨q, -, rfl⟩ | ⟨q, -, rfl⟩
  · exact va_Nw.warmF hW h
  · exact va_Nw.warmM hW h
  · exact va_Nw.warmD hW h
  · exact va_Nw.warmC hW h
/-- what the tables say beside the shared words -/
def gB (U : State) : Prop := (∀ w ∈ gNest, va_Nw w U) ∧ (∀ q ∈ gNcs, va_Nc q.1 q.2 U) ∧ ∀ q ∈ gStr, ∃ sa, vk_R q.1 q.2.1 q.2.2 sa U
theorem gB_warm {s U : State} (hW : s.WarmedH U.vm) (h : gB s) : gB U := by
  refine ⟨fun w hw => gNest_warm hW w hw (h.1 w hw), fun q hq => va_Nc.moved hW.alike (h.2.1 q hq), fun q hq => ?_⟩
  obtain ⟨sa, h1⟩ := h.2.2 q hq
  exact ⟨sa, vk_R.warm hW h1⟩
theorem gB_nest {s : State} (h : gB s) {w : Cond} (hw : w ∈ gNest) : va_Nw w s := h.1 w hw
/-- the two statics that a throw reads -/
def gZ (A : Nat → Prop) (U : State) (H : Heap) : Prop := vx_Zq Bundle.tN "UNASSIGNED_STACK" Bundle.steD A U H ∧ vx_Zq Bundle.tN "SUPPRESSED_SENTINEL" Bundle.listD A U H
theorem gZ_moved {A : Nat → Prop} {u U : State} {H : Heap} (hvm : u.vm.Alike U.vm) (h : gZ A u H) : gZ A U H := ⟨vx_Zq.moved hvm h.1, vx_Zq.moved hvm h.2⟩
theorem gZ_kept {A : Nat → Prop} {U : State} {H H1 : Heap} (h : gZ A U H) (hq : ∀ a : Nat, a < H.size → ¬ A a → H1[a]? = H[a]?) : gZ A U H1 := ⟨h.1.kept hq, h.2.kept hq⟩
theorem gZ_narrow {A B : Nat → Prop} {U : State} {H : Heap} (h : gZ A U H) (hAB : ∀ q, B q → A q) : gZ B U H := ⟨h.1.narrow hAB, h.2.narrow hAB⟩
