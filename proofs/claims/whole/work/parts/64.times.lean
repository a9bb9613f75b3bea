/-! TIMES ARE APART, all along -/
def TkS (s : Sg) : Prop := Tok s.2.1.2.2 s.2.2.1 ∧ (∀ c, c ∈ s.2.2.2.1 → Tok s.2.1.2.2 c) ∧ ∀ i c, s.2.2.2.2.1 i = some c → Tok s.2.1.2.2 c
theorem Tok_0 {last : Nat} {b : Bd} (h : ∀ c, b.2.1 c = 0) : Tok last b := ⟨fun c _ => by rw [h]; exact Nat.zero_le _, fun c k _ _ _ h0 => by rw [h] at h0; exact absurd h0 (Nat.lt_irrefl 0)⟩
theorem tk_move {x y : Int32} {s : Sg} (h : TkS s) : TkS (sMove x y s) := by
  unfold sMove
  split
  · refine ⟨Tok_mk h.1, fun c hc => ?_, h.2.2⟩
    rcases psh_mem hc with k | k
    · exact h.2.1 c k
    · rw [k]; exact h.1
  · exact h
theorem tk_pass {s : Sg} (h : TkS s) : TkS (sPass s) := by
  unfold sPass
  split
  · refine ⟨Tok_mk h.1, fun c hc => ?_, h.2.2⟩
    rcases psh_mem hc with k | k
    · exact h.2.1 c k
    · rw [k]; exact h.1
  · exact h
theorem tk_undo {s : Sg} (h : TkS s) : TkS (sUndo s) := by
  unfold sUndo
  split
  · exact h
  · rename_i c hc
    exact ⟨h.2.1 c (List.mem_of_getLast? hc), fun k hk => h.2.1 k (List.dropLast_subset _ hk), h.2.2⟩
theorem tk_keep {x : Int32} {s : Sg} (h : TkS s) : TkS (sKeep x s) := by
  unfold sKeep
  split
  · refine ⟨h.1, h.2.1, fun i c hc => ?_⟩
    have h1 : (if i = cI x then some s.2.2.1 else s.2.2.2.2.1 i) = some c := hc
    split at h1
    · cases h1; exact h.1
    · exact h.2.2 i c h1
  · exact h
theorem tk_again {x : Int32} {s : Sg} (h : TkS s) : TkS (sAgain x s) := by
  unfold sAgain
  split
  · split
    · exact h
    · rename_i c hc
      exact ⟨h.2.2 _ c hc, fun k hk => absurd hk List.not_mem_nil, h.2.2⟩
  · exact h
theorem tk_board {t : List Nat} {s : Sg} (h : TkS s) : TkS (sBoard t s) := by
  unfold sBoard
  split
  · exact ⟨Tok_0 (fun _ => rfl), fun k hk => absurd hk List.not_mem_nil, fun i c hc => by cases hc⟩
  · exact h
