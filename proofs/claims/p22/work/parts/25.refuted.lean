/-! the statement is false: at a start with the script of 170 times 21 the law returns 1 and has made more than 150 cells -/
def nP9 (b : Addr) (xs : List Int32) (args : Array Value) (s : State) : Prop := args = #[.ref b] ∧ s.IntsAt b xs ∧ (xs.length = 170 ∧ ∀ j, j < 170 → xs.getD j 0 = 21) ∧ (Jvm.Cond.and given_1 narrow_1).before args s = true
def nBig : Room := { frames := 40, cells := 8000, slots := 60000, locals := 2000 }
set_option maxHeartbeats 4000000 in
theorem w_walk (l : Launch) (hflags : l.flags = flags0) (b : Addr) (xs : List Int32) : MetFree l x (headSpec (Jvm.Cond.code x code maxLocals ret :: tables_1) nBig) (nP9 b xs) (fun _ _ _ _ _ => True) nQ9 := by
  refine MetFree.of_bodyS (code := code) (maxLocals := maxLocals) (ret := ret) (by decide) ?_ ?_
  · intro args s m h hn
    obtain ⟨meth, c, h1, h2, h3, h4, h5, h6, -, -⟩ := Cond.code_spec hn (atoms_spec (ws := Jvm.Cond.code x code maxLocals ret :: tables_1) h _ List.mem_cons_self)
    exact ⟨meth, c, h1, h2, h3, h4, h5, h6⟩
  · intro p e s m args below meth c s₁ B hml0 hP _
    obtain ⟨rfl, hx, ⟨hlen, h21⟩, hgv⟩ := hP
    obtain ⟨scr, harrAt, hlist, hof, hsmall⟩ := hx
    obtain ⟨hcb, hkn, -, -⟩ := State.arrayAt?_spec harrAt
    have hown : s.vm.findClass RL = some m.cls := findClass_of_methodNamed B.named
    have hts0 : ∀ c ∈ (Jvm.Cond.code x code maxLocals ret :: tables_1), c.before #[Value.ref b] s = true := atoms_spec (ws := Jvm.Cond.code x code maxLocals ret :: tables_1) B.pre
    have hts : ∀ w ∈ lw_tbl, w.before #[Value.ref b] s = true := k2_hts_sels lw_privs (fun w hw => hts0 w (List.mem_cons_of_mem _ hw)) lw_privs_ok
    have hml : c.maxLocals = 17 := B.maxLocals_eq (hts0 _ List.mem_cons_self)
    have hh0 : s₁.heap = s.heap := by rw [B.state]; rfl
    have hsz : scr.slots.size = 170 := by rw [← Array.length_toList, hlist, List.length_map, hlen]
    have hval : ∀ j : Nat, j < 170 → scr.slots[j]? = some (.int (xs.getD j 0)) := fun j hj => by
      rw [← Array.getElem?_toList, hlist]
      simp [hlen, hj]
    have hbl : b < s.heap.size := (Array.getElem?_eq_some_iff.mp hcb).1
    have hX : va_X b 170 (fun j => xs.getD j 0) s s.heap := ⟨scr, hcb, hof, hkn, hsz, hval⟩
    have K := w_start (p := p) (e := e) (m := m) (below := below) (meth := meth) (c := c) l hflags h21 B.exec B.bytes B.returns hml hown hts hX hbl B.notSynchronized hgv
    have K2 : W p l e nBig s m #[Value.ref b] below meth c s₁.heap [] 0 0 (MQ below nQ9 #[Value.ref b] s 8000 60000 (fun q : Nat => s.heap.size ≤ q)) (entryFrame m ([Value.ref b] : List Value).toArray 17) := by
      rw [hh0]
      exact K
    obtain ⟨t, a1, o, b1, b2, b3, -⟩ := K2 s₁ rfl (Stand.of_body B)
    exact ⟨t, o, a1, b1, b2, b3⟩
/-- the start: the witness's own, with another script -/
def nScript : Array Value := Array.replicate 170 (.int 21)
def nAbout : State := start1.aboutOf nScript
set_option maxRecDepth 16384 in
theorem n_words : ∀ c ∈ (Cond.code x code maxLocals ret :: tables_1), c.before start1.args0 nAbout = true := by
  intro c hc
  have h1 := start1.words c hc
  have key : ∀ c ∈ (Cond.code x code maxLocals ret :: tables_1), (vx_ot c || c.before start1.args0 nAbout) = true := List.all_eq_true.mp (by decide +kernel)
  cases hot : vx_ot c with
  | true => exact vx_ot_at (s := start1.about) (U := nAbout) (show start1.about.WarmedH nAbout.vm from State.WarmedH.refl _) rfl hot h1
  | false =>
    have h2 := key c hc
    rw [hot] at h2
    exact h2
set_option maxRecDepth 16384 in
theorem n_given : (Cond.and given_1 narrow_1).before start1.args0 nAbout = true := by decide +kernel
set_option maxRecDepth 16384 in
theorem n_atStart : AtStart classFile x code maxLocals ret World_1 tables_1 room_1 Calls_1 rest_1 Pre_1 launch0 start1.p0 start1.e0 nAbout ⟨0, 0⟩ start1.args0 Lib.HandBits.below0 :=
  ⟨lists_1, trivial, launch0.admits_env _ _ _, launch0.least_env, fairChoices_fair.cas, fairChoices_fair.clock, rfl, by decide +kernel, by decide +kernel,
    (Spec.applies_iff rfl).mpr ⟨rfl, rfl, rfl, by decide +kernel, by decide +kernel, by decide +kernel, launch0.hasRoom_least _ room_1 (by decide +kernel) (by decide +kernel) (by decide +kernel) (by decide +kernel) (by decide +kernel) (by decide +kernel), atoms_intro n_words⟩,
    trivial, (show rest_1_c.before start1.args0 nAbout = true by decide +kernel), (show (Cond.and given_1 narrow_1).before start1.args0 nAbout = true from n_given)⟩
set_option maxRecDepth 16384 in
theorem n_bigApplies : (headSpec (Cond.code x code maxLocals ret :: tables_1) nBig).applies x start1.e0.platform nAbout = true :=
  (Spec.applies_iff rfl).mpr ⟨rfl, rfl, rfl, by decide +kernel, by decide +kernel, by decide +kernel, launch0.hasRoom_least _ nBig (by decide +kernel) (by decide +kernel) (by decide +kernel) (by decide +kernel) (by decide +kernel) (by decide +kernel), atoms_intro n_words⟩
theorem n_P9 : ∃ xs : List Int32, nP9 0 xs start1.args0 nAbout := by
  refine ⟨List.replicate 170 21, rfl, ?_, ⟨by rw [List.length_replicate], fun j hj => ?_⟩, n_given⟩
  · have hq := flat_of_before _ (show rest_1_c.before start1.args0 nAbout = true from n_atStart.2.2.2.2.2.2.2.2.2.2.2.1)
    have hs := flat_of_before _ n_given
    have harr : (Cond.arrayOf (.arg 0) .int).before start1.args0 nAbout = true := hs _ (by decide +kernel)
    have hlen : (Cond.isInt (.length (.arg 0))).before start1.args0 nAbout = true := hq _ (by decide +kernel)
    have hall : (Cond.all (.arg 0) (.isInt (.elem (.arg 0) (.index 0)))).before start1.args0 nAbout = true := hq _ (by decide +kernel)
    obtain ⟨b, xs, hb, hx⟩ := State.ints_of_pre rfl harr hlen hall
    obtain rfl : b = 0 := by
      have h2 : start1.args0[0]? = some (Value.ref 0) := rfl
      have h3 : start1.args0[0]? = some (Value.ref b) := hb
      cases h2.symm.trans h3
      rfl
    obtain ⟨scr, harrAt, hlist, hof, hsmall⟩ := id hx
    obtain ⟨hcb, -, -, -⟩ := State.arrayAt?_spec harrAt
    have hscr : scr.slots = nScript := by
      have h2 : nAbout.heap[0]? = some { cls := 16, slots := nScript, vm := .none } := rfl
      rw [h2] at hcb
      cases hcb
      rfl
    rw [hscr] at hlist
    have hxs : xs = List.replicate 170 21 := by
      have h3 : xs.map Value.int = (List.replicate 170 (21 : Int32)).map Value.int := by
        rw [← hlist]
        unfold nScript
        rw [Array.toList_replicate, List.map_replicate]
      exact List.map_inj_right (fun a b h => by cases h; rfl) |>.mp h3
    rw [← hxs]
    exact hx
  · rw [List.getD_eq_getElem?_getD, List.getElem?_replicate, if_pos hj]
    rfl
theorem n_run : ∃ (n : Nat) (o : Outcome), (∀ k, k < n → Within (stepsAlone start1.p0.tables start1.e0 k nAbout) Lib.HandBits.below0) ∧ (stepsAlone start1.p0.tables start1.e0 n nAbout).status = Status.running ∧ Ended (stepsAlone start1.p0.tables start1.e0 n nAbout) Lib.HandBits.below0 o ∧ nQ9 start1.args0 nAbout o (stepsAlone start1.p0.tables start1.e0 n nAbout) := by
  obtain ⟨xs, hP⟩ := n_P9
  have hf : nAbout.frames = .invoking ⟨0, 0⟩ start1.args0 :: Lib.HandBits.below0 := rfl
  exact w_walk launch0 rfl 0 xs start1.p0 start1.e0 (launch0.admits_env _ _ _) fairChoices_fair.cas fairChoices_fair.clock nAbout ⟨0, 0⟩ start1.args0 Lib.HandBits.below0 hf ((Spec.applies_iff_loose hf).mp n_bigApplies).1 hP trivial
theorem n_notFramed {args : Array Value} {s t : State} {o : Outcome} {L : List Loc} (h : nQ9 args s o t) : ¬ Framed s o t L 150 1849 := by
  intro hF
  have h1 : t.heap.size ≤ s.heap.size + 150 := hF.2.2.2.2.1
  exact absurd h.2 (by omega)
theorem p22_refuted : RefutedClaimed_1_1 ∧ RefutedClaimed_1_2 := by
  obtain ⟨n, o, h1, h2, h3, h4⟩ := n_run
  exact ⟨⟨launch0, start1.p0, start1.e0, nAbout, ⟨0, 0⟩, start1.args0, Lib.HandBits.below0, rfl, n_atStart, n, o, h1, h2, h3, fun hp => n_notFramed h4 hp.2⟩,
    ⟨launch0, start1.p0, start1.e0, nAbout, ⟨0, 0⟩, start1.args0, Lib.HandBits.below0, rfl, n_atStart, n, o, h1, h2, h3, fun hp => n_notFramed h4 hp.2⟩⟩
/-- so neither half of what is owed can be proved -/
theorem n_once {tb : Tables} {e : Env} {s : State} {below : List Frame} {n n2 : Nat} {o o2 : Outcome} (h1 : ∀ k, k < n → Within (stepsAlone tb e k s) below) (h2 : Ended (stepsAlone tb e n s) below o) (g1 : ∀ k, k < n2 → Within (stepsAlone tb e k s) below) (g2 : Ended (stepsAlone tb e n2 s) below o2) : n = n2 := by
  rcases Nat.lt_trichotomy n n2 with h | h | h
  · exact absurd (g1 n h) h2.not_within
  · exact h
  · exact absurd (h1 n2 h) g2.not_within
theorem n_falls {Post : Tables → Env → Array Value → State → Outcome → State → Prop} (hp : ∀ tb e a s o t, Post tb e a s o t → ∃ L, Framed s o t L 150 1849) : ¬ ArmFor flags0 classFile x code maxLocals ret World_1 tables_1 room_1 Calls_1 rest_1 Pre_1 Post := by
  intro hA
  obtain ⟨n, o, h1, h2, h3, h4⟩ := n_run
  obtain ⟨a1, a2, a3, a4, a5, a6, a7, a8, a9, a10, a11, a12, a13⟩ := n_atStart
  obtain ⟨n2, o2, g1, g2, g3, g4⟩ := hA launch0 rfl a1 a2 start1.p0 start1.e0 a3 a5 a6 nAbout ⟨0, 0⟩ start1.args0 Lib.HandBits.below0 a7 a8 a9 a10 ⟨a11, a12, a13⟩
  obtain rfl := n_once h1 h3 g1 g3
  obtain ⟨L, hL⟩ := hp _ _ _ _ _ _ g4
  have k1 : (stepsAlone start1.p0.tables start1.e0 n nAbout).heap.size ≤ nAbout.heap.size + 150 := hL.2.2.2.2.1
  exact absurd h4.2 (by omega)
theorem p22_not_1 : ¬ Claimed_1_1 := n_falls (fun _ _ _ _ _ _ h => ⟨_, h.2⟩)
theorem p22_not_2 : ¬ Claimed_1_2 := n_falls (fun _ _ _ _ _ _ h => ⟨_, h.2⟩)
theorem p22_false : ¬ (Claimed_1_1 ∧ Claimed_1_2) := fun h => p22_not_1 h.1
theorem refuted_1_1 : RefutedClaimed_1_1 := p22_refuted.1
theorem refuted_1_2 : RefutedClaimed_1_2 := p22_refuted.2
