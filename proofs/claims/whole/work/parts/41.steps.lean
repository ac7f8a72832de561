/-! the first world, every call, the whole -/
theorem INV_0 : INV 0 gInit := by
  have key : ∀ j, j < 12 → kRow2 (80 + j) = 0 := by decide
  refine ⟨rfl, ⟨rfl, Or.inl rfl⟩, ⟨rfl, Or.inl rfl⟩, Or.inl ⟨rfl, rfl⟩, 0, by decide, rfl, Or.inr ⟨rfl, rfl, rfl, ⟨rfl, rfl, fun t ht => ?_⟩, fun t ht => ?_, Or.inl ⟨rfl, rfl, rfl, rfl, rfl, fun j hj => key j hj⟩⟩⟩
  · rcases two ht with rfl | rfl
    · exact ⟨⟨rfl, rfl, rfl, rfl, six rfl rfl rfl rfl rfl rfl⟩, ⟨rfl, rfl, rfl, 2, by decide, rfl⟩, rfl⟩
    · exact ⟨⟨rfl, rfl, rfl, rfl, six rfl rfl rfl rfl rfl rfl⟩, ⟨rfl, rfl, rfl, 2, by decide, rfl⟩, rfl⟩
  · rcases two ht with rfl | rfl
    · exact ⟨Or.inl rfl, six (Or.inl rfl) (Or.inl rfl) (Or.inl rfl) (Or.inl rfl) (Or.inl rfl) (Or.inl rfl)⟩
    · exact ⟨Or.inl rfl, six (Or.inl rfl) (Or.inl rfl) (Or.inl rfl) (Or.inl rfl) (Or.inl rfl) (Or.inl rfl)⟩
theorem step_all (n : Nat) (σ : gSt) (op v1 v2 v3 v4 : Int32) (hn : n < 512) (h : INV n σ) : ∃ σ', F_step op v1 v2 v3 v4 σ = some ((1 : Int32), σ') ∧ INV (n + 1) σ' := by
  unfold F_step
  by_cases g0 : op = (0 : Int32)
  · rw [if_pos g0]; exact st_line h
  rw [if_neg g0]
  by_cases g1 : op = (1 : Int32)
  · rw [if_pos g1]; exact st_libero h
  rw [if_neg g1]
  by_cases g2 : op = (2 : Int32)
  · rw [if_pos g2]; exact st_begin h
  rw [if_neg g2]
  by_cases g3 : op = (3 : Int32)
  · rw [if_pos g3]; exact st_serve h hn
  rw [if_neg g3]
  by_cases g4 : op = (4 : Int32)
  · rw [if_pos g4]; exact st_touch h hn
  rw [if_neg g4]
  by_cases g5 : op = (5 : Int32)
  · rw [if_pos g5]; exact st_fall h hn
  rw [if_neg g5]
  by_cases g6 : op = (6 : Int32)
  · rw [if_pos g6]; exact st_net h hn
  rw [if_neg g6]
  by_cases g7 : op = (7 : Int32)
  · rw [if_pos g7]; exact st_find h hn
  rw [if_neg g7]
  by_cases g8 : op = (8 : Int32)
  · rw [if_pos g8]; exact st_exchange h hn
  rw [if_neg g8]
  by_cases g9 : op = (9 : Int32)
  · rw [if_pos g9]; exact st_substitute h hn
  rw [if_neg g9]
  by_cases g10 : op = (10 : Int32)
  · rw [if_pos g10]; exact st_challenge h hn
  rw [if_neg g10]
  by_cases g11 : op = (11 : Int32)
  · rw [if_pos g11]; exact st_points h
  rw [if_neg g11]
  by_cases g12 : op = (12 : Int32)
  · rw [if_pos g12]; exact st_pointsAnew h hn
  rw [if_neg g12]
  by_cases g13 : op = (13 : Int32)
  · rw [if_pos g13]; exact st_sets h
  rw [if_neg g13]
  by_cases g14 : op = (14 : Int32)
  · rw [if_pos g14]; exact st_at h
  rw [if_neg g14]
  by_cases g15 : op = (15 : Int32)
  · rw [if_pos g15]; exact st_atAnew h hn
  rw [if_neg g15]
  by_cases g16 : op = (16 : Int32)
  · rw [if_pos g16]; exact st_about h
  rw [if_neg g16]
  by_cases g17 : op = (17 : Int32)
  · rw [if_pos g17]; exact st_of h
  rw [if_neg g17]
  by_cases g18 : op = (18 : Int32)
  · rw [if_pos g18]; exact st_lost h hn
  rw [if_neg g18]
  exact ⟨σ, rfl, INV_same h (fun _ _ => rfl) rfl rfl (fun a b _ _ => ⟨a, b⟩)⟩
theorem whole_start {p : Program} {e : Env} {s : State} {m : MethodId} {below : List Frame} {meth : Method} {c : Code} (l : Launch) (hflags : l.flags = flags0) {b L : Nat} {xs : Nat → Int32} (hL : L ≤ 2560) (C0 : lw_At p s m meth c b L xs) : W p l e room_1 s m #[Value.ref b] below meth c s.heap [] 0 0 (lw_Z below #[Value.ref b] s) (entryFrame m ([Value.ref b] : List Value).toArray 7) := start_of INV INV_0 step_all l hflags hL C0
