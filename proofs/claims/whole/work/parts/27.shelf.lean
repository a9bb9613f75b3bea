/-! SHELVES OF PLACES; THE ROW OF PLACES BEHIND -/
def isS (s n : Nat) : Prop := (s = 20 ∧ n = 16) ∨ (s = 25 ∧ n = 2)
theorem isS_sh {s n : Nat} (h : isS s n) : (ΩC.1[s]? = some (0, 3, 0) ∧ Nat.beq s 1010 = false) ∧ (ΩC.2 s 0 = some (s + 1) ∧ ΩC.1[s + 1]? = some (1, 1, n) ∧ Nat.beq (s + 1) 1010 = false) ∧ (ΩC.2 s 1 = some (s + 2) ∧ ΩC.1[s + 2]? = some (1, 1, n) ∧ Nat.beq (s + 2) 1010 = false) ∧ (ΩC.2 s 2 = some (s + 3) ∧ ΩC.1[s + 3]? = some (1, 0, n) ∧ Nat.beq (s + 3) 1010 = false) ∧ (ΩC.2 s 3 = some (s + 4) ∧ ΩC.1[s + 4]? = some (1, 0, n) ∧ Nat.beq (s + 4) 1010 = false) := by
  rcases h with ⟨rfl, rfl⟩ | ⟨rfl, rfl⟩ <;> exact ⟨⟨rfl, rfl⟩, ⟨rfl, rfl, rfl⟩, ⟨rfl, rfl, rfl⟩, ⟨rfl, rfl, rfl⟩, ⟨rfl, rfl, rfl⟩⟩
theorem isS_n {s n : Nat} (h : isS s n) : 20 ≤ s ∧ s ≤ 25 ∧ n ≤ 16 := by
  rcases h with ⟨rfl, rfl⟩ | ⟨rfl, rfl⟩ <;> exact ⟨by decide, by decide, by decide⟩
/-- what lies on the shelf -/
def SL (s n : Nat) (f : Nat → Option Bd) (I : MemI) (J : MemJ) : Prop := ∀ i, i < n → match f i with
  | none => I (s + 3) i = -9
  | some b => J (s + 1) i = lN (pk b.1) ∧ J (s + 2) i = lN (pk b.2.1) ∧ I (s + 3) i = nI b.2.2.1 ∧ I (s + 4) i = lsI b.2.2.2
theorem SL_some {s n i : Nat} {f : Nat → Option Bd} {b : Bd} {I : MemI} {J : MemJ} (h : SL s n f I J) (hi : i < n) (hf : f i = some b) : J (s + 1) i = lN (pk b.1) ∧ J (s + 2) i = lN (pk b.2.1) ∧ I (s + 3) i = nI b.2.2.1 ∧ I (s + 4) i = lsI b.2.2.2 := by
  have := h i hi
  rw [hf] at this
  exact this
theorem SL_none {s n i : Nat} {f : Nat → Option Bd} {I : MemI} {J : MemJ} (h : SL s n f I J) (hi : i < n) (hf : f i = none) : I (s + 3) i = -9 := by
  have := h i hi
  rw [hf] at this
  exact this
/-- a board laid on it -/
def slI (s i : Nat) (b : Bd) (I : MemI) : MemI := uI (uI I (s + 3) i (nI b.2.2.1)) (s + 4) i (lsI b.2.2.2)
def slJ (s i : Nat) (b : Bd) (J : MemJ) : MemJ := uJ (uJ J (s + 1) i (lN (pk b.1))) (s + 2) i (lN (pk b.2.1))
def clI (s n : Nat) (I : MemI) : MemI := fun a i => if a = s + 3 ∧ i < n then -9 else I a i
def upO (f : Nat → Option Bd) (i : Nat) (o : Option Bd) : Nat → Option Bd := fun k => if k = i then o else f k
theorem SL_put {s n i : Nat} {f : Nat → Option Bd} {b : Bd} {I : MemI} {J : MemJ} (h : SL s n f I J) : SL s n (upO f i (some b)) (slI s i b I) (slJ s i b J) := by
  intro k hk
  by_cases e : k = i
  · subst e
    simp [upO, slI, slJ, uI, uJ]
  · have h1 := h k hk
    have e2 : upO f i (some b) k = f k := by simp [upO, e]
    rw [e2]
    cases hf : f k with
    | none =>
      rw [hf] at h1
      simp [slI, uI, e]
      exact h1
    | some b2 =>
      rw [hf] at h1
      simp [slI, slJ, uI, uJ, e]
      exact h1
theorem SL_clear {s n : Nat} {I : MemI} {J : MemJ} : SL s n (fun _ => none) (clI s n I) J := by
  intro k hk
  simp [clI, hk]
theorem SL_n {s n : Nat} {f : Nat → Option Bd} {I I' : MemI} {J J' : MemJ} (h : SL s n f I J) (hI : ∀ a i, s < a → a ≤ s + 4 → I' a i = I a i) (hJ : ∀ a i, s < a → a ≤ s + 4 → J' a i = J a i) : SL s n f I' J' := by
  intro k hk
  have h1 := h k hk
  cases hf : f k with
  | none =>
    rw [hf] at h1
    show I' (s + 3) k = -9
    rw [hI _ _ (by omega) (by omega)]; exact h1
  | some b =>
    rw [hf] at h1
    show J' (s + 1) k = _ ∧ J' (s + 2) k = _ ∧ I' (s + 3) k = _ ∧ I' (s + 4) k = _
    rw [hI _ _ (by omega) (by omega), hI _ _ (by omega) (by omega), hJ _ _ (by omega) (by omega), hJ _ _ (by omega) (by omega)]; exact h1
/-- the row of places: the oldest first -/
def PT (ps : List Bd) (I : MemI) (J : MemJ) : Prop := ∃ a f, I 19 1 = nI a ∧ I 19 2 = nI ps.length ∧ a < 16 ∧ ps.length ≤ 16 ∧ SL 20 16 f I J ∧ ∀ j b, ps[j]? = some b → f ((a + j) % 16) = some b
def psh (ps : List Bd) (b : Bd) : List Bd := (if ps.length < 16 then ps else ps.tail) ++ [b]
section SLF
variable {d : Nat} {I : MemI} {J : MemJ}
set_option maxHeartbeats 16000000 in
theorem sp_X3_isInside {s n i : Nat} (hS : isS s n) (hi : i < n) : CALL ΩC d kX3_isInside [.ref s, .int (nI i)] I J (PQ (.int (nI 1)) I J) := by
  obtain ⟨n1, n2, n3⟩ := isS_n hS
  obtain ⟨⟨a1, a2⟩, ⟨b1, b2, b3⟩, ⟨c1, c2, c3⟩, ⟨e1, e2, e3⟩, ⟨f1, f2, f3⟩⟩ := isS_sh hS
  refine call_of_wp (by decide) (Nat.le_of_ble_eq_true rfl) ?_
  refine wp_iload_n (pc := 0) (i := 1) dX3_isInside_0 rfl rfl ?_
  refine wp_if_ltN (pc := 1) (tgt := 44) dX3_isInside_1 (by decide) (by first | with_reducible assumption | omega) ?_
  refine wp_iload_n (pc := 4) (i := 1) dX3_isInside_4 rfl rfl ?_
  refine wp_aload_n (pc := 5) (i := 0) dX3_isInside_5 rfl rfl (by first | with_reducible assumption | rfl) ?_
  refine wp_getR (pc := 6) dX3_isInside_6 lf_X3_9 (by first | with_reducible assumption | rfl) (by first | with_reducible assumption | rfl) rfl (by first | with_reducible assumption | rfl) (by first | with_reducible assumption | rfl) ?_
  refine wp_alen (pc := 9) dX3_isInside_9 (by first | with_reducible assumption | rfl) (by first | with_reducible assumption | rfl) (by first | decide | omega) ?_
  first | (refine wp_icmp_geN (pc := 10) (tgt := 44) dX3_isInside_10 (by decide) (by first | with_reducible assumption | omega) (by first | with_reducible assumption | omega) (fun c_10 => ?_) (fun c_10 => ?_)) | (refine wp_icmp_ge (pc := 10) (tgt := 44) dX3_isInside_10 (by decide) (fun c_10 => ?_) (fun c_10 => ?_))
  · exact absurd c_10 (by omega)
  · refine wp_iload_n (pc := 13) (i := 1) dX3_isInside_13 rfl rfl ?_
    refine wp_aload_n (pc := 14) (i := 0) dX3_isInside_14 rfl rfl (by first | with_reducible assumption | rfl) ?_
    refine wp_getR (pc := 15) dX3_isInside_15 lf_X3_15 (by first | with_reducible assumption | rfl) (by first | with_reducible assumption | rfl) rfl (by first | with_reducible assumption | rfl) (by first | with_reducible assumption | rfl) ?_
    refine wp_alen (pc := 18) dX3_isInside_18 (by first | with_reducible assumption | rfl) (by first | with_reducible assumption | rfl) (by first | decide | omega) ?_
    first | (refine wp_icmp_geN (pc := 19) (tgt := 44) dX3_isInside_19 (by decide) (by first | with_reducible assumption | omega) (by first | with_reducible assumption | omega) (fun c_19 => ?_) (fun c_19 => ?_)) | (refine wp_icmp_ge (pc := 19) (tgt := 44) dX3_isInside_19 (by decide) (fun c_19 => ?_) (fun c_19 => ?_))
    · exact absurd c_19 (by omega)
    · refine wp_iload_n (pc := 22) (i := 1) dX3_isInside_22 rfl rfl ?_
      refine wp_aload_n (pc := 23) (i := 0) dX3_isInside_23 rfl rfl (by first | with_reducible assumption | rfl) ?_
      refine wp_getR (pc := 24) dX3_isInside_24 lf_X3_18 (by first | with_reducible assumption | rfl) (by first | with_reducible assumption | rfl) rfl (by first | with_reducible assumption | rfl) (by first | with_reducible assumption | rfl) ?_
      refine wp_alen (pc := 27) dX3_isInside_27 (by first | with_reducible assumption | rfl) (by first | with_reducible assumption | rfl) (by first | decide | omega) ?_
      first | (refine wp_icmp_geN (pc := 28) (tgt := 44) dX3_isInside_28 (by decide) (by first | with_reducible assumption | omega) (by first | with_reducible assumption | omega) (fun c_28 => ?_) (fun c_28 => ?_)) | (refine wp_icmp_ge (pc := 28) (tgt := 44) dX3_isInside_28 (by decide) (fun c_28 => ?_) (fun c_28 => ?_))
      · exact absurd c_28 (by omega)
      · refine wp_iload_n (pc := 31) (i := 1) dX3_isInside_31 rfl rfl ?_
        refine wp_aload_n (pc := 32) (i := 0) dX3_isInside_32 rfl rfl (by first | with_reducible assumption | rfl) ?_
        refine wp_getR (pc := 33) dX3_isInside_33 lf_X3_22 (by first | with_reducible assumption | rfl) (by first | with_reducible assumption | rfl) rfl (by first | with_reducible assumption | rfl) (by first | with_reducible assumption | rfl) ?_
        refine wp_alen (pc := 36) dX3_isInside_36 (by first | with_reducible assumption | rfl) (by first | with_reducible assumption | rfl) (by first | decide | omega) ?_
        first | (refine wp_icmp_geN (pc := 37) (tgt := 44) dX3_isInside_37 (by decide) (by first | with_reducible assumption | omega) (by first | with_reducible assumption | omega) (fun c_37 => ?_) (fun c_37 => ?_)) | (refine wp_icmp_ge (pc := 37) (tgt := 44) dX3_isInside_37 (by decide) (fun c_37 => ?_) (fun c_37 => ?_))
        · exact absurd c_37 (by omega)
        · refine wp_iconst (pc := 40) (v := nI 1) dX3_isInside_40 (by decide +kernel) ?_
          refine wp_goto (pc := 41) (tgt := 45) dX3_isInside_41 (by decide) ?_
          refine wp_zreturn (pc := 45) dX3_isInside_45 rfl (by first | exact bI_narrow _ | exact nI_narrow01 (by omega) | decide +kernel | assumption) ?_
          exact pq_i rfl
set_option maxHeartbeats 16000000 in
theorem sp_X3_clear {s n : Nat} (hS : isS s n) : CALL ΩC d kX3_clear [.ref s] I J (VQ (fun I' J' => I' = clI s n I ∧ J' = J)) := by
  obtain ⟨n1, n2, n3⟩ := isS_n hS
  have loop : ∀ m k, m + k = n → WP ΩC d kX3_clear 2 [(0, .ref s), (1, .int (nI k))] [] (clI s k I) J (VQ (fun I' J' => I' = clI s n I ∧ J' = J)) := by
    obtain ⟨⟨a1, a2⟩, ⟨b1, b2, b3⟩, ⟨c1, c2, c3⟩, ⟨e1, e2, e3⟩, ⟨f1, f2, f3⟩⟩ := isS_sh hS
    intro m
    induction m with
    | zero =>
      intro k hk
      have hk' : k = n := (Nat.zero_add k).symm.trans hk
      refine wp_iload_n (pc := 2) (i := 1) dX3_clear_2 rfl rfl ?_
      refine wp_aload_n (pc := 3) (i := 0) dX3_clear_3 rfl rfl (by first | with_reducible assumption | rfl) ?_
      refine wp_getR (pc := 4) dX3_clear_4 lf_X3_18 (by first | with_reducible assumption | rfl) (by first | with_reducible assumption | rfl) rfl (by first | with_reducible assumption | rfl) (by first | with_reducible assumption | rfl) ?_
      refine wp_alen (pc := 7) dX3_clear_7 (by first | with_reducible assumption | rfl) (by first | with_reducible assumption | rfl) (by first | decide | omega) ?_
      first | (refine wp_icmp_geN (pc := 8) (tgt := 25) dX3_clear_8 (by decide) (by first | with_reducible assumption | omega) (by first | with_reducible assumption | omega) (fun c_8 => ?_) (fun c_8 => ?_)) | (refine wp_icmp_ge (pc := 8) (tgt := 25) dX3_clear_8 (by decide) (fun c_8 => ?_) (fun c_8 => ?_))
      · refine wp_return (pc := 25) dX3_clear_25 rfl ?_
        exact vq_i ⟨by rw [hk'], rfl⟩
      · exact absurd (show n ≤ k by omega) (by omega)
    | succ m ih =>
      intro k hk
      have hkn : k < n := by omega
      have hu : uI (clI s k I) (s + 3) k (-9) = clI s (k + 1) I := by
        funext a i
        unfold uI clI
        by_cases h1 : a = s + 3
        · subst h1
          by_cases h2 : i = k
          · subst h2; simp
          · by_cases h3 : i < k
            · have : i < k + 1 := by omega
              simp [h2, h3, this]
            · have : ¬ i < k + 1 := by omega
              simp [h2, h3, this]
        · simp [h1]
      have h0 := ih (k + 1) (by omega)
      rw [← hu] at h0
      clear ih
      refine wp_iload_n (pc := 2) (i := 1) dX3_clear_2 rfl rfl ?_
      refine wp_aload_n (pc := 3) (i := 0) dX3_clear_3 rfl rfl (by first | with_reducible assumption | rfl) ?_
      refine wp_getR (pc := 4) dX3_clear_4 lf_X3_18 (by first | with_reducible assumption | rfl) (by first | with_reducible assumption | rfl) rfl (by first | with_reducible assumption | rfl) (by first | with_reducible assumption | rfl) ?_
      refine wp_alen (pc := 7) dX3_clear_7 (by first | with_reducible assumption | rfl) (by first | with_reducible assumption | rfl) (by first | decide | omega) ?_
      first | (refine wp_icmp_geN (pc := 8) (tgt := 25) dX3_clear_8 (by decide) (by first | with_reducible assumption | omega) (by first | with_reducible assumption | omega) (fun c_8 => ?_) (fun c_8 => ?_)) | (refine wp_icmp_ge (pc := 8) (tgt := 25) dX3_clear_8 (by decide) (fun c_8 => ?_) (fun c_8 => ?_))
      · exact absurd c_8 (by omega)
      · refine wp_aload_n (pc := 11) (i := 0) dX3_clear_11 rfl rfl (by first | with_reducible assumption | rfl) ?_
        refine wp_getR (pc := 12) dX3_clear_12 lf_X3_18 (by first | with_reducible assumption | rfl) (by first | with_reducible assumption | rfl) rfl (by first | with_reducible assumption | rfl) (by first | with_reducible assumption | rfl) ?_
        refine wp_iload_n (pc := 15) (i := 1) dX3_clear_15 rfl rfl ?_
        refine wp_bipush (pc := 16) (v := (-9)) dX3_clear_16 (by decide +kernel) ?_
        refine wp_iast (pc := 18) dX3_clear_18 (by first | with_reducible assumption | rfl) (by first | with_reducible assumption | rfl) (by first | with_reducible assumption | omega) (by first | decide | omega) ?_
        first | (refine wp_iincN (pc := 19) (m := 1) dX3_clear_19 rfl rfl (by decide) ?_) | (refine wp_iinc (pc := 19) dX3_clear_19 rfl rfl (by decide) ?_)
        refine wp_goto (pc := 22) (tgt := 2) dX3_clear_22 (by decide) ?_
        exact h0
  have e0 : clI s 0 I = I := by
    funext a i
    simp [clI]
  refine call_of_wp (by decide) (Nat.le_of_ble_eq_true rfl) ?_
  refine wp_iconst (pc := 0) (v := nI 0) dX3_clear_0 (by decide +kernel) ?_
  refine wp_istore_n (pc := 1) (i := 1) dX3_clear_1 rfl (by decide) ?_
  have h0 := loop n 0 rfl
  rw [e0] at h0
  exact h0
theorem nine_ne {o : Nat} (h : o < 2) : ¬ nI o = -9 := fun z => nI_pos (n := o) (by omega) (by rw [z]; decide)
set_option maxHeartbeats 16000000 in
theorem sp_X3_holds {s n i : Nat} {f : Nat → Option Bd} (hS : isS s n) (hi : i < n) (hL : SL s n f I J) (ho : ∀ b, f i = some b → b.2.2.1 < 2) : CALL ΩC (d + 1) kX3_holds [.ref s, .int (nI i)] I J (PQ (.int (bI (f i).isSome)) I J) := by
  obtain ⟨n1, n2, n3⟩ := isS_n hS
  obtain ⟨⟨a1, a2⟩, ⟨b1, b2, b3⟩, ⟨c1, c2, c3⟩, ⟨e1, e2, e3⟩, ⟨f1, f2, f3⟩⟩ := isS_sh hS
  cases hf : f i with
  | none =>
    have e9 := SL_none hL hi hf
    refine call_of_wp (by decide) (Nat.le_of_ble_eq_true rfl) ?_
    refine wp_aload_n (pc := 0) (i := 0) dX3_holds_0 rfl rfl (by first | with_reducible assumption | rfl) ?_
    refine wp_iload_n (pc := 1) (i := 1) dX3_holds_1 rfl rfl ?_
    refine wp_cVP1 (pc := 2) (ci := 3) dX3_holds_2 lm_X3_25 m_X3_isInside (by first | with_reducible assumption | rfl) (by first | with_reducible assumption | rfl) (by decide) rfl (Nat.le_of_ble_eq_true rfl) (sp_X3_isInside (by with_reducible assumption) (by with_reducible assumption)) ?_
    refine wp_if_eqN (pc := 5) (tgt := 23) dX3_holds_5 (by decide) (by first | with_reducible assumption | omega) (fun c_5 => ?_) (fun c_5 => ?_)
    · exact absurd c_5 (by decide)
    · refine wp_aload_n (pc := 8) (i := 0) dX3_holds_8 rfl rfl (by first | with_reducible assumption | rfl) ?_
      refine wp_getR (pc := 9) dX3_holds_9 lf_X3_18 (by first | with_reducible assumption | rfl) (by first | with_reducible assumption | rfl) rfl (by first | with_reducible assumption | rfl) (by first | with_reducible assumption | rfl) ?_
      refine wp_iload_n (pc := 12) (i := 1) dX3_holds_12 rfl rfl ?_
      refine wp_iald (pc := 13) dX3_holds_13 (by first | with_reducible assumption | rfl) (by first | with_reducible assumption | rfl) (by first | with_reducible assumption | omega) (by first | decide | omega) ?_
      rw [e9]
      refine wp_bipush (pc := 14) (v := (-9)) dX3_holds_14 (by decide +kernel) ?_
      refine wp_icmp_eq (pc := 16) (tgt := 23) dX3_holds_16 (by decide) (fun c_16 => ?_) (fun c_16 => ?_)
      · refine wp_iconst (pc := 23) (v := nI 0) dX3_holds_23 (by decide +kernel) ?_
        refine wp_zreturn (pc := 24) dX3_holds_24 rfl (by first | exact bI_narrow _ | exact nI_narrow01 (by omega) | decide +kernel | assumption) ?_
        exact pq_i rfl
      · exact absurd rfl c_16
  | some b =>
    have e9 := (SL_some hL hi hf).2.2.1
    have hne := nine_ne (ho b hf)
    refine call_of_wp (by decide) (Nat.le_of_ble_eq_true rfl) ?_
    refine wp_aload_n (pc := 0) (i := 0) dX3_holds_0 rfl rfl (by first | with_reducible assumption | rfl) ?_
    refine wp_iload_n (pc := 1) (i := 1) dX3_holds_1 rfl rfl ?_
    refine wp_cVP1 (pc := 2) (ci := 3) dX3_holds_2 lm_X3_25 m_X3_isInside (by first | with_reducible assumption | rfl) (by first | with_reducible assumption | rfl) (by decide) rfl (Nat.le_of_ble_eq_true rfl) (sp_X3_isInside (by with_reducible assumption) (by with_reducible assumption)) ?_
    refine wp_if_eqN (pc := 5) (tgt := 23) dX3_holds_5 (by decide) (by first | with_reducible assumption | omega) (fun c_5 => ?_) (fun c_5 => ?_)
    · exact absurd c_5 (by decide)
    · refine wp_aload_n (pc := 8) (i := 0) dX3_holds_8 rfl rfl (by first | with_reducible assumption | rfl) ?_
      refine wp_getR (pc := 9) dX3_holds_9 lf_X3_18 (by first | with_reducible assumption | rfl) (by first | with_reducible assumption | rfl) rfl (by first | with_reducible assumption | rfl) (by first | with_reducible assumption | rfl) ?_
      refine wp_iload_n (pc := 12) (i := 1) dX3_holds_12 rfl rfl ?_
      refine wp_iald (pc := 13) dX3_holds_13 (by first | with_reducible assumption | rfl) (by first | with_reducible assumption | rfl) (by first | with_reducible assumption | omega) (by first | decide | omega) ?_
      rw [e9]
      refine wp_bipush (pc := 14) (v := (-9)) dX3_holds_14 (by decide +kernel) ?_
      refine wp_icmp_eq (pc := 16) (tgt := 23) dX3_holds_16 (by decide) (fun c_16 => ?_) (fun c_16 => ?_)
      · exact absurd c_16 hne
      · refine wp_iconst (pc := 19) (v := nI 1) dX3_holds_19 (by decide +kernel) ?_
        refine wp_goto (pc := 20) (tgt := 24) dX3_holds_20 (by decide) ?_
        refine wp_zreturn (pc := 24) dX3_holds_24 rfl (by first | exact bI_narrow _ | exact nI_narrow01 (by omega) | decide +kernel | assumption) ?_
        exact pq_i rfl
set_option maxHeartbeats 16000000 in
theorem sp_X3_set {s n i p : Nat} {b : Bd} (hS : isS s n) (hi : i < n) (hp : isP p) (hb : PL p b I J) : CALL ΩC (d + 1) kX3_set [.ref s, .int (nI i), .ref p] I J (VQ (fun I' J' => I' = slI s i b I ∧ J' = slJ s i b J)) := by
  obtain ⟨n1, n2, n3⟩ := isS_n hS
  have hp2 : p ≤ 13 := hp.2
  have x1 : ¬ p = s + 1 := by omega
  have x3 : ¬ p = s + 3 := by omega
  have r3 : J p 3 = lN (pk b.1) := hb.2 3 (by omega) (by omega)
  have r4 : ∀ v, uJ J (s + 1) i v p 4 = lN (pk b.2.1) := fun v => by
    have := hb.2 4 (by omega) (by omega)
    simp [uJ, x1, this, fJ]
  have r9 : I p 9 = nI b.2.2.1 := hb.1 9 (by omega) (by omega)
  have r10 : ∀ v, uI I (s + 3) i v p 10 = lsI b.2.2.2 := fun v => by
    have := hb.1 10 (by omega) (by omega)
    simp [uI, x3, this, fI]
  obtain ⟨⟨a1, a2⟩, ⟨b1, b2, b3⟩, ⟨c1, c2, c3⟩, ⟨e1, e2, e3⟩, ⟨f1, f2, f3⟩⟩ := isS_sh hS
  obtain ⟨q1, q2, q3, q4, q5⟩ := isP_sh hp
  refine call_of_wp (by decide) (Nat.le_of_ble_eq_true rfl) ?_
  refine wp_aload_n (pc := 0) (i := 0) dX3_set_0 rfl rfl (by first | with_reducible assumption | rfl) ?_
  refine wp_iload_n (pc := 1) (i := 1) dX3_set_1 rfl rfl ?_
  refine wp_cVP1 (pc := 2) (ci := 3) dX3_set_2 lm_X3_25 m_X3_isInside (by first | with_reducible assumption | rfl) (by first | with_reducible assumption | rfl) (by decide) rfl (Nat.le_of_ble_eq_true rfl) (sp_X3_isInside (by with_reducible assumption) (by with_reducible assumption)) ?_
  refine wp_if_eqN (pc := 5) (tgt := 48) dX3_set_5 (by decide) (by first | with_reducible assumption | omega) (fun c_5 => ?_) (fun c_5 => ?_)
  · exact absurd c_5 (by decide)
  · refine wp_aload_n (pc := 8) (i := 0) dX3_set_8 rfl rfl (by first | with_reducible assumption | rfl) ?_
    refine wp_getR (pc := 9) dX3_set_9 lf_X3_9 (by first | with_reducible assumption | rfl) (by first | with_reducible assumption | rfl) rfl (by first | with_reducible assumption | rfl) (by first | with_reducible assumption | rfl) ?_
    refine wp_iload_n (pc := 12) (i := 1) dX3_set_12 rfl rfl ?_
    refine wp_aload_n (pc := 13) (i := 2) dX3_set_13 rfl rfl (by first | with_reducible assumption | rfl) ?_
    refine wp_getJ (pc := 14) dX3_set_14 lf_X3_29 (by first | with_reducible assumption | rfl) (by first | with_reducible assumption | rfl) rfl ?_
    rw [r3]
    refine wp_last (pc := 17) dX3_set_17 (by first | with_reducible assumption | rfl) (by first | with_reducible assumption | rfl) (by first | with_reducible assumption | omega) (by first | decide | omega) ?_
    refine wp_aload_n (pc := 18) (i := 0) dX3_set_18 rfl rfl (by first | with_reducible assumption | rfl) ?_
    refine wp_getR (pc := 19) dX3_set_19 lf_X3_15 (by first | with_reducible assumption | rfl) (by first | with_reducible assumption | rfl) rfl (by first | with_reducible assumption | rfl) (by first | with_reducible assumption | rfl) ?_
    refine wp_iload_n (pc := 22) (i := 1) dX3_set_22 rfl rfl ?_
    refine wp_aload_n (pc := 23) (i := 2) dX3_set_23 rfl rfl (by first | with_reducible assumption | rfl) ?_
    refine wp_getJ (pc := 24) dX3_set_24 lf_X3_34 (by first | with_reducible assumption | rfl) (by first | with_reducible assumption | rfl) rfl ?_
    rw [r4]
    refine wp_last (pc := 27) dX3_set_27 (by first | with_reducible assumption | rfl) (by first | with_reducible assumption | rfl) (by first | with_reducible assumption | omega) (by first | decide | omega) ?_
    refine wp_aload_n (pc := 28) (i := 0) dX3_set_28 rfl rfl (by first | with_reducible assumption | rfl) ?_
    refine wp_getR (pc := 29) dX3_set_29 lf_X3_18 (by first | with_reducible assumption | rfl) (by first | with_reducible assumption | rfl) rfl (by first | with_reducible assumption | rfl) (by first | with_reducible assumption | rfl) ?_
    refine wp_iload_n (pc := 32) (i := 1) dX3_set_32 rfl rfl ?_
    refine wp_aload_n (pc := 33) (i := 2) dX3_set_33 rfl rfl (by first | with_reducible assumption | rfl) ?_
    refine wp_getI (pc := 34) dX3_set_34 lf_X3_36 (by first | with_reducible assumption | rfl) (by first | with_reducible assumption | rfl) rfl ?_
    rw [r9]
    refine wp_iast (pc := 37) dX3_set_37 (by first | with_reducible assumption | rfl) (by first | with_reducible assumption | rfl) (by first | with_reducible assumption | omega) (by first | decide | omega) ?_
    refine wp_aload_n (pc := 38) (i := 0) dX3_set_38 rfl rfl (by first | with_reducible assumption | rfl) ?_
    refine wp_getR (pc := 39) dX3_set_39 lf_X3_22 (by first | with_reducible assumption | rfl) (by first | with_reducible assumption | rfl) rfl (by first | with_reducible assumption | rfl) (by first | with_reducible assumption | rfl) ?_
    refine wp_iload_n (pc := 42) (i := 1) dX3_set_42 rfl rfl ?_
    refine wp_aload_n (pc := 43) (i := 2) dX3_set_43 rfl rfl (by first | with_reducible assumption | rfl) ?_
    refine wp_getI (pc := 44) dX3_set_44 lf_X3_40 (by first | with_reducible assumption | rfl) (by first | with_reducible assumption | rfl) rfl ?_
    rw [r10]
    refine wp_iast (pc := 47) dX3_set_47 (by first | with_reducible assumption | rfl) (by first | with_reducible assumption | rfl) (by first | with_reducible assumption | omega) (by first | decide | omega) ?_
    refine wp_return (pc := 48) dX3_set_48 rfl ?_
    exact vq_i ⟨rfl, rfl⟩
set_option maxHeartbeats 16000000 in
theorem sp_X3_get {s n i p : Nat} {f : Nat → Option Bd} {b b2 : Bd} (hS : isS s n) (hi : i < n) (hL : SL s n f I J) (hf : f i = some b2) (ho : b2.2.2.1 < 2) (hl2 : b2.2.2.2 < 3) (hg : ∀ c, c < 16 → b2.1 c < 12) (hp : isP p) (hb : PL p b I J) (hs : ∀ c, c < 16 → b.1 c < 12) : CALL ΩC (d + 3) kX3_get [.ref s, .int (nI i), .ref p] I J (VQ (fun I' J' => I' = wI p b2 I ∧ J' = wJ p b2 J)) := by
  obtain ⟨n1, n2, n3⟩ := isS_n hS
  obtain ⟨r1, r2, r3, r4⟩ := SL_some hL hi hf
  have hO : ∀ b, f i = some b → b.2.2.1 < 2 := fun z hz => by rw [hf] at hz; cases hz; exact ho
  have hh : bI (f i).isSome = nI 1 := by rw [hf]; rfl
  obtain ⟨⟨a1, a2⟩, ⟨b1, b2, b3⟩, ⟨c1, c2, c3⟩, ⟨e1, e2, e3⟩, ⟨f1, f2, f3⟩⟩ := isS_sh hS
  obtain ⟨q1, q2, q3, q4, q5⟩ := isP_sh hp
  refine call_of_wp (by decide) (Nat.le_of_ble_eq_true rfl) ?_
  refine wp_aload_n (pc := 0) (i := 0) dX3_get_0 rfl rfl (by first | with_reducible assumption | rfl) ?_
  refine wp_iload_n (pc := 1) (i := 1) dX3_get_1 rfl rfl ?_
  refine wp_cVP1 (pc := 2) (ci := 3) dX3_get_2 lm_X3_43 m_X3_holds (by first | with_reducible assumption | rfl) (by first | with_reducible assumption | rfl) (by decide) rfl (Nat.le_of_ble_eq_true rfl) (sp_X3_holds hS hi hL hO) ?_
  rw [hh]
  refine wp_if_eqN (pc := 5) (tgt := 36) dX3_get_5 (by decide) (by first | with_reducible assumption | omega) (fun c_5 => ?_) (fun c_5 => ?_)
  · exact absurd c_5 (by decide)
  · refine wp_aload_n (pc := 8) (i := 2) dX3_get_8 rfl rfl (by first | with_reducible assumption | rfl) ?_
    refine wp_aload_n (pc := 9) (i := 0) dX3_get_9 rfl rfl (by first | with_reducible assumption | rfl) ?_
    refine wp_getR (pc := 10) dX3_get_10 lf_X3_9 (by first | with_reducible assumption | rfl) (by first | with_reducible assumption | rfl) rfl (by first | with_reducible assumption | rfl) (by first | with_reducible assumption | rfl) ?_
    refine wp_iload_n (pc := 13) (i := 1) dX3_get_13 rfl rfl ?_
    refine wp_lald (pc := 14) dX3_get_14 (by first | with_reducible assumption | rfl) (by first | with_reducible assumption | rfl) (by first | with_reducible assumption | omega) (by first | decide | omega) ?_
    rw [r1]
    refine wp_aload_n (pc := 15) (i := 0) dX3_get_15 rfl rfl (by first | with_reducible assumption | rfl) ?_
    refine wp_getR (pc := 16) dX3_get_16 lf_X3_15 (by first | with_reducible assumption | rfl) (by first | with_reducible assumption | rfl) rfl (by first | with_reducible assumption | rfl) (by first | with_reducible assumption | rfl) ?_
    refine wp_iload_n (pc := 19) (i := 1) dX3_get_19 rfl rfl ?_
    refine wp_lald (pc := 20) dX3_get_20 (by first | with_reducible assumption | rfl) (by first | with_reducible assumption | rfl) (by first | with_reducible assumption | omega) (by first | decide | omega) ?_
    rw [r2]
    refine wp_aload_n (pc := 21) (i := 0) dX3_get_21 rfl rfl (by first | with_reducible assumption | rfl) ?_
    refine wp_getR (pc := 22) dX3_get_22 lf_X3_18 (by first | with_reducible assumption | rfl) (by first | with_reducible assumption | rfl) rfl (by first | with_reducible assumption | rfl) (by first | with_reducible assumption | rfl) ?_
    refine wp_iload_n (pc := 25) (i := 1) dX3_get_25 rfl rfl ?_
    refine wp_iald (pc := 26) dX3_get_26 (by first | with_reducible assumption | rfl) (by first | with_reducible assumption | rfl) (by first | with_reducible assumption | omega) (by first | decide | omega) ?_
    rw [r3]
    refine wp_aload_n (pc := 27) (i := 0) dX3_get_27 rfl rfl (by first | with_reducible assumption | rfl) ?_
    refine wp_getR (pc := 28) dX3_get_28 lf_X3_22 (by first | with_reducible assumption | rfl) (by first | with_reducible assumption | rfl) rfl (by first | with_reducible assumption | rfl) (by first | with_reducible assumption | rfl) ?_
    refine wp_iload_n (pc := 31) (i := 1) dX3_get_31 rfl rfl ?_
    refine wp_iald (pc := 32) dX3_get_32 (by first | with_reducible assumption | rfl) (by first | with_reducible assumption | rfl) (by first | with_reducible assumption | omega) (by first | decide | omega) ?_
    rw [r4]
    refine wp_cVV4 (pc := 33) (ci := 2) dX3_get_33 lm_X3_46 m_X2_set (by first | with_reducible assumption | rfl) (by first | with_reducible assumption | rfl) (by decide) rfl (Nat.le_of_ble_eq_true rfl) (sp_X2_set hp hb hs hg hl2) (fun I_33 J_33 h_33 => ?_)
    refine wp_return (pc := 36) dX3_get_36 rfl ?_
    exact vq_i h_33
set_option maxHeartbeats 16000000 in
theorem sp_X1_clear : CALL ΩC d kX1_clear [.ref 19] I J (VQ (fun I' J' => I' = uI (uI I 19 1 (nI 0)) 19 2 (nI 0) ∧ J' = J)) := by
  refine call_of_wp (by decide) (Nat.le_of_ble_eq_true rfl) ?_
  refine wp_aload_n (pc := 0) (i := 0) dX1_clear_0 rfl rfl (by first | with_reducible assumption | rfl) ?_
  refine wp_iconst (pc := 1) (v := nI 0) dX1_clear_1 (by decide +kernel) ?_
  refine wp_putI (pc := 2) dX1_clear_2 lf_X1_20 (by first | with_reducible assumption | rfl) (by first | with_reducible assumption | rfl) rfl rfl ?_
  refine wp_aload_n (pc := 5) (i := 0) dX1_clear_5 rfl rfl (by first | with_reducible assumption | rfl) ?_
  refine wp_iconst (pc := 6) (v := nI 0) dX1_clear_6 (by decide +kernel) ?_
  refine wp_putI (pc := 7) dX1_clear_7 lf_X1_24 (by first | with_reducible assumption | rfl) (by first | with_reducible assumption | rfl) rfl rfl ?_
  refine wp_return (pc := 10) dX1_clear_10 rfl ?_
  exact vq_i ⟨rfl, rfl⟩
theorem PT_clear {f : Nat → Option Bd} {I : MemI} {J : MemJ} (h : SL 20 16 f I J) : PT [] (uI (uI I 19 1 (nI 0)) 19 2 (nI 0)) J := by
  refine ⟨0, f, rfl, rfl, by decide, by decide, SL_n h (fun a i h1 _ => ?_) (fun _ _ _ _ => rfl), fun j b hj => by simp at hj⟩
  have : ¬ a = 19 := by omega
  simp [uI, this]
theorem PT_sl {ps : List Bd} {I : MemI} {J : MemJ} (h : PT ps I J) : ∃ f, SL 20 16 f I J := by
  obtain ⟨a, f, -, -, -, -, h5, -⟩ := h
  exact ⟨f, h5⟩
theorem PT_n {ps : List Bd} {I I' : MemI} {J J' : MemJ} (h : PT ps I J) (hI : ∀ a i, 19 ≤ a → a ≤ 24 → I' a i = I a i) (hJ : ∀ a i, 19 ≤ a → a ≤ 24 → J' a i = J a i) : PT ps I' J' := by
  obtain ⟨a, f, h1, h2, h3, h4, h5, h6⟩ := h
  exact ⟨a, f, by rw [hI _ _ (by omega) (by omega)]; exact h1, by rw [hI _ _ (by omega) (by omega)]; exact h2, h3, h4, SL_n h5 (fun a i z1 z2 => hI a i (by omega) (by omega)) (fun a i z1 z2 => hJ a i (by omega) (by omega)), h6⟩
theorem slI_o {s i : Nat} {b : Bd} {I : MemI} {a k : Nat} (h : a ≤ s + 2 ∨ s + 4 < a) : slI s i b I a k = I a k := by
  have e1 : ¬ a = s + 3 := by omega
  have e2 : ¬ a = s + 4 := by omega
  simp [slI, uI, e1, e2]
theorem slJ_o {s i : Nat} {b : Bd} {J : MemJ} {a k : Nat} (h : a ≤ s ∨ s + 2 < a) : slJ s i b J a k = J a k := by
  have e1 : ¬ a = s + 1 := by omega
  have e2 : ¬ a = s + 2 := by omega
  simp [slJ, uJ, e1, e2]
set_option maxHeartbeats 16000000 in
theorem sp_X1_add {p : Nat} {ps : List Bd} {b : Bd} (hP : PT ps I J) (hp : isP p) (hb : PL p b I J) : CALL ΩC (d + 2) kX1_add [.ref 19, .ref p] I J (VQ (fun I' J' => PT (psh ps b) I' J' ∧ (∀ a i, (a < 19 ∨ 24 < a) → I' a i = I a i) ∧ ∀ a i, (a < 19 ∨ 24 < a) → J' a i = J a i)) := by
  obtain ⟨a, f, h1, h2, h3, h4, h5, h6⟩ := hP
  have hk : (a + ps.length) % 16 < 16 := Nat.mod_lt _ (by decide)
  have hset := SL_put (i := (a + ps.length) % 16) (b := b) h5
  have g1 : slI 20 ((a + ps.length) % 16) b I 19 1 = nI a := by rw [slI_o (by omega)]; exact h1
  have g2 : slI 20 ((a + ps.length) % 16) b I 19 2 = nI ps.length := by rw [slI_o (by omega)]; exact h2
  have hfr : ∀ (k : Nat) (v : Int32) (a2 i : Nat), (a2 < 19 ∨ 24 < a2) → uI (slI 20 ((a + ps.length) % 16) b I) 19 k v a2 i = I a2 i := fun k v a2 i ha => by
    have e1 : ¬ a2 = 19 := by omega
    have := slI_o (s := 20) (i := (a + ps.length) % 16) (b := b) (I := I) (a := a2) (k := i) (by omega)
    simp [uI, e1, this]
  have hfJ : ∀ (a2 i : Nat), (a2 < 19 ∨ 24 < a2) → slJ 20 ((a + ps.length) % 16) b J a2 i = J a2 i := fun a2 i ha => slJ_o (by omega)
  have hSn : ∀ (k : Nat) (v : Int32), SL 20 16 (upO f ((a + ps.length) % 16) (some b)) (uI (slI 20 ((a + ps.length) % 16) b I) 19 k v) (slJ 20 ((a + ps.length) % 16) b J) := fun k v => SL_n hset (fun a2 i z1 _ => by
    have e1 : ¬ a2 = 19 := by omega
    simp [uI, e1]) (fun _ _ _ _ => rfl)
  have hS : isS 20 16 := Or.inl ⟨rfl, rfl⟩
  obtain ⟨q1, q2, q3, q4, q5⟩ := isP_sh hp
  refine call_of_wp (by decide) (Nat.le_of_ble_eq_true rfl) ?_
  by_cases hn : ps.length < 16
  · have hn0 := hn
    refine wp_aload_n (pc := 0) (i := 0) dX1_add_0 rfl rfl (by first | with_reducible assumption | rfl) ?_
    refine wp_getR (pc := 1) dX1_add_1 lf_X1_14 (by first | with_reducible assumption | rfl) (by first | with_reducible assumption | rfl) rfl (by first | with_reducible assumption | rfl) (by first | with_reducible assumption | rfl) ?_
    refine wp_aload_n (pc := 4) (i := 0) dX1_add_4 rfl rfl (by first | with_reducible assumption | rfl) ?_
    refine wp_getI (pc := 5) dX1_add_5 lf_X1_20 (by first | with_reducible assumption | rfl) (by first | with_reducible assumption | rfl) rfl ?_
    rw [h1]
    refine wp_aload_n (pc := 8) (i := 0) dX1_add_8 rfl rfl (by first | with_reducible assumption | rfl) ?_
    refine wp_getI (pc := 9) dX1_add_9 lf_X1_24 (by first | with_reducible assumption | rfl) (by first | with_reducible assumption | rfl) rfl ?_
    rw [h2]
    first | (refine wp_iaddN (pc := 12) dX1_add_12 ?_) | (refine wp_iadd (pc := 12) dX1_add_12 ?_)
    refine wp_bipush (pc := 13) (v := nI 16) dX1_add_13 (by decide +kernel) ?_
    refine wp_iremN (pc := 15) dX1_add_15 (by first | with_reducible assumption | omega) (by first | with_reducible assumption | omega) (by first | with_reducible assumption | omega) ?_
    refine wp_aload_n (pc := 16) (i := 1) dX1_add_16 rfl rfl (by first | with_reducible assumption | rfl) ?_
    refine wp_cVV2 (pc := 17) (ci := 3) dX1_add_17 lm_X1_27 m_X3_set (by first | with_reducible assumption | rfl) (by first | with_reducible assumption | rfl) (by decide) rfl (Nat.le_of_ble_eq_true rfl) (sp_X3_set hS hk hp hb) (fun I_17 J_17 h_17 => ?_)
    obtain ⟨rfl, rfl⟩ := h_17
    refine wp_aload_n (pc := 20) (i := 0) dX1_add_20 rfl rfl (by first | with_reducible assumption | rfl) ?_
    refine wp_getI (pc := 21) dX1_add_21 lf_X1_24 (by first | with_reducible assumption | rfl) (by first | with_reducible assumption | rfl) rfl ?_
    rw [g2]
    refine wp_bipush (pc := 24) (v := nI 16) dX1_add_24 (by decide +kernel) ?_
    first | (refine wp_icmp_geN (pc := 26) (tgt := 42) dX1_add_26 (by decide) (by first | with_reducible assumption | omega) (by first | with_reducible assumption | omega) (fun c_26 => ?_) (fun c_26 => ?_)) | (refine wp_icmp_ge (pc := 26) (tgt := 42) dX1_add_26 (by decide) (fun c_26 => ?_) (fun c_26 => ?_))
    · exact absurd c_26 (by omega)
    · refine wp_aload_n (pc := 29) (i := 0) dX1_add_29 rfl rfl (by first | with_reducible assumption | rfl) ?_
      refine wp_dup (pc := 30) dX1_add_30 rfl ?_
      refine wp_getI (pc := 31) dX1_add_31 lf_X1_24 (by first | with_reducible assumption | rfl) (by first | with_reducible assumption | rfl) rfl ?_
      rw [g2]
      refine wp_iconst (pc := 34) (v := nI 1) dX1_add_34 (by decide +kernel) ?_
      first | (refine wp_iaddN (pc := 35) dX1_add_35 ?_) | (refine wp_iadd (pc := 35) dX1_add_35 ?_)
      refine wp_putI (pc := 36) dX1_add_36 lf_X1_24 (by first | with_reducible assumption | rfl) (by first | with_reducible assumption | rfl) rfl rfl ?_
      refine wp_goto (pc := 39) (tgt := 55) dX1_add_39 (by decide) ?_
      refine wp_return (pc := 55) dX1_add_55 rfl ?_
      refine vq_i ⟨⟨a, _, ?_, ?_, h3, ?_, hSn 2 _, fun j b2 hj => ?_⟩, hfr 2 _, hfJ⟩
      · exact g1
      · show nI (ps.length + 1) = _
        unfold psh
        rw [if_pos hn, List.length_append]
        rfl
      · unfold psh
        rw [if_pos hn, List.length_append, List.length_singleton]
        omega
      · unfold psh at hj
        rw [if_pos hn] at hj
        unfold upO
        rcases Nat.lt_or_ge j ps.length with hjl | hjl
        · rw [List.getElem?_append_left hjl] at hj
          rw [if_neg (by omega)]
          exact h6 j b2 hj
        · rw [List.getElem?_append_right hjl] at hj
          have hz : j - ps.length = 0 := by
            rcases Nat.eq_zero_or_pos (j - ps.length) with z | z
            · exact z
            · rw [List.getElem?_eq_none (by rw [List.length_singleton]; omega)] at hj; cases hj
          rw [hz] at hj
          have e : j = ps.length := by omega
          rw [e, if_pos rfl]
          simpa using hj
  · have hn16 : ps.length = 16 := by omega
    refine wp_aload_n (pc := 0) (i := 0) dX1_add_0 rfl rfl (by first | with_reducible assumption | rfl) ?_
    refine wp_getR (pc := 1) dX1_add_1 lf_X1_14 (by first | with_reducible assumption | rfl) (by first | with_reducible assumption | rfl) rfl (by first | with_reducible assumption | rfl) (by first | with_reducible assumption | rfl) ?_
    refine wp_aload_n (pc := 4) (i := 0) dX1_add_4 rfl rfl (by first | with_reducible assumption | rfl) ?_
    refine wp_getI (pc := 5) dX1_add_5 lf_X1_20 (by first | with_reducible assumption | rfl) (by first | with_reducible assumption | rfl) rfl ?_
    rw [h1]
    refine wp_aload_n (pc := 8) (i := 0) dX1_add_8 rfl rfl (by first | with_reducible assumption | rfl) ?_
    refine wp_getI (pc := 9) dX1_add_9 lf_X1_24 (by first | with_reducible assumption | rfl) (by first | with_reducible assumption | rfl) rfl ?_
    rw [h2]
    first | (refine wp_iaddN (pc := 12) dX1_add_12 ?_) | (refine wp_iadd (pc := 12) dX1_add_12 ?_)
    refine wp_bipush (pc := 13) (v := nI 16) dX1_add_13 (by decide +kernel) ?_
    refine wp_iremN (pc := 15) dX1_add_15 (by first | with_reducible assumption | omega) (by first | with_reducible assumption | omega) (by first | with_reducible assumption | omega) ?_
    refine wp_aload_n (pc := 16) (i := 1) dX1_add_16 rfl rfl (by first | with_reducible assumption | rfl) ?_
    refine wp_cVV2 (pc := 17) (ci := 3) dX1_add_17 lm_X1_27 m_X3_set (by first | with_reducible assumption | rfl) (by first | with_reducible assumption | rfl) (by decide) rfl (Nat.le_of_ble_eq_true rfl) (sp_X3_set hS hk hp hb) (fun I_17 J_17 h_17 => ?_)
    obtain ⟨rfl, rfl⟩ := h_17
    refine wp_aload_n (pc := 20) (i := 0) dX1_add_20 rfl rfl (by first | with_reducible assumption | rfl) ?_
    refine wp_getI (pc := 21) dX1_add_21 lf_X1_24 (by first | with_reducible assumption | rfl) (by first | with_reducible assumption | rfl) rfl ?_
    rw [g2]
    refine wp_bipush (pc := 24) (v := nI 16) dX1_add_24 (by decide +kernel) ?_
    first | (refine wp_icmp_geN (pc := 26) (tgt := 42) dX1_add_26 (by decide) (by first | with_reducible assumption | omega) (by first | with_reducible assumption | omega) (fun c_26 => ?_) (fun c_26 => ?_)) | (refine wp_icmp_ge (pc := 26) (tgt := 42) dX1_add_26 (by decide) (fun c_26 => ?_) (fun c_26 => ?_))
    · refine wp_aload_n (pc := 42) (i := 0) dX1_add_42 rfl rfl (by first | with_reducible assumption | rfl) ?_
      refine wp_aload_n (pc := 43) (i := 0) dX1_add_43 rfl rfl (by first | with_reducible assumption | rfl) ?_
      refine wp_getI (pc := 44) dX1_add_44 lf_X1_20 (by first | with_reducible assumption | rfl) (by first | with_reducible assumption | rfl) rfl ?_
      rw [g1]
      refine wp_iconst (pc := 47) (v := nI 1) dX1_add_47 (by decide +kernel) ?_
      first | (refine wp_iaddN (pc := 48) dX1_add_48 ?_) | (refine wp_iadd (pc := 48) dX1_add_48 ?_)
      refine wp_bipush (pc := 49) (v := nI 16) dX1_add_49 (by decide +kernel) ?_
      refine wp_iremN (pc := 51) dX1_add_51 (by first | with_reducible assumption | omega) (by first | with_reducible assumption | omega) (by first | with_reducible assumption | omega) ?_
      refine wp_putI (pc := 52) dX1_add_52 lf_X1_20 (by first | with_reducible assumption | rfl) (by first | with_reducible assumption | rfl) rfl rfl ?_
      refine wp_return (pc := 55) dX1_add_55 rfl ?_
      refine vq_i ⟨⟨(a + 1) % 16, _, ?_, ?_, Nat.mod_lt _ (by decide), ?_, hSn 1 _, fun j b2 hj => ?_⟩, hfr 1 _, hfJ⟩
      · simp [uI]
      · show slI 20 ((a + ps.length) % 16) b I 19 2 = _
        rw [g2]
        unfold psh
        rw [if_neg hn, List.length_append, List.length_tail, List.length_singleton]
        congr 1
        omega
      · unfold psh
        rw [if_neg hn, List.length_append, List.length_tail, List.length_singleton]
        omega
      · unfold psh at hj
        rw [if_neg hn] at hj
        unfold upO
        have htl : ps.tail.length = 15 := by rw [List.length_tail]; omega
        rcases Nat.lt_or_ge j 15 with hjl | hjl
        · rw [List.getElem?_append_left (by omega), List.getElem?_tail] at hj
          rw [if_neg (by omega), show ((a + 1) % 16 + j) % 16 = (a + (j + 1)) % 16 by omega]
          exact h6 (j + 1) b2 hj
        · rw [List.getElem?_append_right (by omega), htl] at hj
          have hz : j - 15 = 0 := by
            rcases Nat.eq_zero_or_pos (j - 15) with z | z
            · exact z
            · rw [List.getElem?_eq_none (by rw [List.length_singleton]; omega)] at hj; cases hj
          rw [hz] at hj
          have e : j = 15 := by omega
          rw [e, if_pos (by omega)]
          simpa using hj
    · exact absurd (show 16 ≤ ps.length by omega) (by omega)
theorem PT_len {ps : List Bd} {I : MemI} {J : MemJ} (h : PT ps I J) : I 19 2 = nI ps.length ∧ ps.length ≤ 16 := by
  obtain ⟨a, f, h1, h2, h3, h4, h5, h6⟩ := h
  exact ⟨h2, h4⟩
set_option maxHeartbeats 16000000 in
theorem sp_X1_takeLast {p : Nat} {ps : List Bd} {b b2 : Bd} (hP : PT (ps ++ [b2]) I J) (ho : b2.2.2.1 < 2) (hl2 : b2.2.2.2 < 3) (hg : ∀ c, c < 16 → b2.1 c < 12) (hp : isP p) (hb : PL p b I J) (hs : ∀ c, c < 16 → b.1 c < 12) : CALL ΩC (d + 4) kX1_takeLast [.ref 19, .ref p] I J (VQ (fun I' J' => PT ps I' J' ∧ I' = wI p b2 (uI I 19 2 (nI ps.length)) ∧ J' = wJ p b2 J)) := by
  obtain ⟨a, f, h1, h2, h3, h4, h5, h6⟩ := hP
  have hp2 : p ≤ 13 := hp.2
  have hlen : (ps ++ [b2]).length = ps.length + 1 := by rw [List.length_append, List.length_singleton]
  rw [hlen] at h2 h4
  have hk : (a + ps.length) % 16 < 16 := Nat.mod_lt _ (by decide)
  have hf : f ((a + ps.length) % 16) = some b2 := h6 ps.length b2 (by rw [List.getElem?_append_right (Nat.le_refl _), Nat.sub_self]; rfl)
  have hS : isS 20 16 := Or.inl ⟨rfl, rfl⟩
  have g1 : uI I 19 2 (nI ps.length) 19 1 = nI a := by simp [uI, h1]
  have g2 : uI I 19 2 (nI ps.length) 19 2 = nI ps.length := by simp [uI]
  have hS2 : SL 20 16 f (uI I 19 2 (nI ps.length)) J := SL_n h5 (fun a2 i z1 _ => by
    have e1 : ¬ a2 = 19 := by omega
    simp [uI, e1]) (fun _ _ _ _ => rfl)
  have hb2 : PL p b (uI I 19 2 (nI ps.length)) J := ⟨fun i z1 z2 => by
    have e1 : ¬ p = 19 := by omega
    have := hb.1 i z1 z2
    simp [uI, e1, this], hb.2⟩
  obtain ⟨q1, q2, q3, q4, q5⟩ := isP_sh hp
  refine call_of_wp (by decide) (Nat.le_of_ble_eq_true rfl) ?_
  refine wp_aload_n (pc := 0) (i := 0) dX1_takeLast_0 rfl rfl (by first | with_reducible assumption | rfl) ?_
  refine wp_getI (pc := 1) dX1_takeLast_1 lf_X1_24 (by first | with_reducible assumption | rfl) (by first | with_reducible assumption | rfl) rfl ?_
  rw [h2]
  first | (refine wp_if_leN (pc := 4) (tgt := 37) dX1_takeLast_4 (by decide) (by first | with_reducible assumption | omega) (fun c_4 => ?_) (fun c_4 => ?_)) | (refine wp_if_le (pc := 4) (tgt := 37) dX1_takeLast_4 (by decide) (fun c_4 => ?_) (fun c_4 => ?_))
  · exact absurd c_4 (by omega)
  · refine wp_aload_n (pc := 7) (i := 0) dX1_takeLast_7 rfl rfl (by first | with_reducible assumption | rfl) ?_
    refine wp_dup (pc := 8) dX1_takeLast_8 rfl ?_
    refine wp_getI (pc := 9) dX1_takeLast_9 lf_X1_24 (by first | with_reducible assumption | rfl) (by first | with_reducible assumption | rfl) rfl ?_
    rw [h2]
    refine wp_iconst (pc := 12) (v := nI 1) dX1_takeLast_12 (by decide +kernel) ?_
    first | (refine wp_isubN (pc := 13) dX1_takeLast_13 (by first | with_reducible assumption | omega) ?_) | (refine wp_isub (pc := 13) dX1_takeLast_13 ?_)
    rw [Nat.add_sub_cancel]
    refine wp_putI (pc := 14) dX1_takeLast_14 lf_X1_24 (by first | with_reducible assumption | rfl) (by first | with_reducible assumption | rfl) rfl rfl ?_
    refine wp_aload_n (pc := 17) (i := 0) dX1_takeLast_17 rfl rfl (by first | with_reducible assumption | rfl) ?_
    refine wp_getR (pc := 18) dX1_takeLast_18 lf_X1_14 (by first | with_reducible assumption | rfl) (by first | with_reducible assumption | rfl) rfl (by first | with_reducible assumption | rfl) (by first | with_reducible assumption | rfl) ?_
    refine wp_aload_n (pc := 21) (i := 0) dX1_takeLast_21 rfl rfl (by first | with_reducible assumption | rfl) ?_
    refine wp_getI (pc := 22) dX1_takeLast_22 lf_X1_20 (by first | with_reducible assumption | rfl) (by first | with_reducible assumption | rfl) rfl ?_
    rw [g1]
    refine wp_aload_n (pc := 25) (i := 0) dX1_takeLast_25 rfl rfl (by first | with_reducible assumption | rfl) ?_
    refine wp_getI (pc := 26) dX1_takeLast_26 lf_X1_24 (by first | with_reducible assumption | rfl) (by first | with_reducible assumption | rfl) rfl ?_
    rw [g2]
    first | (refine wp_iaddN (pc := 29) dX1_takeLast_29 ?_) | (refine wp_iadd (pc := 29) dX1_takeLast_29 ?_)
    refine wp_bipush (pc := 30) (v := nI 16) dX1_takeLast_30 (by decide +kernel) ?_
    refine wp_iremN (pc := 32) dX1_takeLast_32 (by first | with_reducible assumption | omega) (by first | with_reducible assumption | omega) (by first | with_reducible assumption | omega) ?_
    refine wp_aload_n (pc := 33) (i := 1) dX1_takeLast_33 rfl rfl (by first | with_reducible assumption | rfl) ?_
    refine wp_cVV2 (pc := 34) (ci := 3) dX1_takeLast_34 lm_X1_31 m_X3_get (by first | with_reducible assumption | rfl) (by first | with_reducible assumption | rfl) (by decide) rfl (Nat.le_of_ble_eq_true rfl) (sp_X3_get hS hk hS2 hf ho hl2 hg hp hb2 hs) (fun I_34 J_34 h_34 => ?_)
    obtain ⟨rfl, rfl⟩ := h_34
    refine wp_return (pc := 37) dX1_takeLast_37 rfl ?_
    refine vq_i ⟨⟨a, f, ?_, ?_, h3, by omega, SL_n hS2 (fun a2 i z1 _ => wI_n (by omega)) (fun a2 i z1 _ => wJ_n (by omega)), fun j b3 hj => h6 j b3 ?_⟩, rfl, rfl⟩
    · rw [wI_n (by omega)]; exact g1
    · rw [wI_n (by omega)]; exact g2
    · have hjl : j < ps.length := by
        rcases Nat.lt_or_ge j ps.length with z | z
        · exact z
        · rw [List.getElem?_eq_none z] at hj; cases hj
      rw [List.getElem?_append_left hjl]; exact hj
end SLF
