/-! THE CLASS'S CALLS, 1 -/
/-- text; width, height, last; board; past; slots; chance -/
abbrev Sg : Type := List Nat × (Nat × Nat × Nat) × Bd × List Bd × (Nat → Option Bd) × Int64
def RC (s : Sg) (I : MemI) (J : MemJ) : Prop := RepC s.1 s.2.1.1 s.2.1.2.1 s.2.1.2.2 s.2.2.1 s.2.2.2.1 s.2.2.2.2.1 s.2.2.2.2.2 I J
/-- the answer a, the state s -/
def AQ (a : Int32) (s : Sg) : Pst := IQ (fun r I' J' => r = a ∧ RC s I' J')
theorem aq_i {x a : Int32} {s : Sg} {I : MemI} {J : MemJ} (h : x = a) (hR : RC s I J) : AQ a s (some (.int x)) I J := ⟨x, rfl, h, hR⟩
/-- the number of an int -/
def cI (x : Int32) : Nat := x.toInt.toNat
theorem cI_n {n : Nat} (h : n < 1000) : cI (nI n) = n := by unfold cI; rw [nI_ti h]; rfl
theorem rngI {x : Int32} {a b : Nat} (ha : a < 1000) (hb : b < 900) (h : ¬ (x < nI a ∨ nI b < x)) : ∃ n, a ≤ n ∧ n ≤ b ∧ x = nI n := by
  rw [Int32.lt_iff_toInt_lt, Int32.lt_iff_toInt_lt, nI_ti ha, nI_ti (by omega)] at h
  have h2 : inB x (b + 1) = true := decide_eq_true ⟨by
    rw [Int32.lt_iff_toInt_lt]
    show ¬ x.toInt < 0
    omega, by
    rw [Int32.lt_iff_toInt_lt, nI_ti (by omega)]
    omega⟩
  obtain ⟨j, h1, rfl⟩ := inB_t (by omega) h2
  rw [nI_ti (by omega)] at h
  exact ⟨j, by omega, by omega, rfl⟩
theorem inB_c {x : Int32} {n : Nat} (hn : n < 900) (h : inB x n = true) : x = nI (cI x) ∧ cI x < n := by
  obtain ⟨j, h1, rfl⟩ := inB_t (by omega) h
  rw [cI_n (by omega)]
  exact ⟨rfl, h1⟩
abbrev outW (x : Int32) : Prop := x < nI 1 ∨ nI 8 < x
def aWrite (t : List Nat) (x : Int32) : Int32 := if outW x then -2 else if 24 < t.length + cI x then -4 else nI (t.length + cI x)
def tWrite (t : List Nat) (x : Int32) (m : Nat) : List Nat := if outW x ∨ 24 < t.length + cI x then t else t ++ bys (cI x) m
/-- the board that the text tells -/
def sgT (t : List Nat) (c : Nat) : Nat := (sgn (t.getD (5 + c) 0)).getD 0
def brd (t : List Nat) (n : Nat) : Bd := (fun c => if c < n then sgT t c else 0, fun _ => 0, oT t, 2)
section PUB
variable {d : Nat} {I : MemI} {J : MemJ} {t : List Nat} {w h last : Nat} {b : Bd} {ps : List Bd} {f : Nat → Option Bd} {z : Int64}
theorem RepC_text {t' : List Nat} {I' : MemI} {J' : MemJ} (hR : RepC t w h last b ps f z I J) (hT : TX t' I') (hI : ∀ a i, (a < 1 ∨ 2 < a) → I' a i = I a i) (hJ : J' = J) : RepC t' w h last b ps f z I' J' := by
  subst hJ
  have hf : FR (fun a _ => 1 ≤ a ∧ a ≤ 2) I I' J' J' := ⟨fun a i y => hI a i (by omega), fun _ _ _ => rfl⟩
  obtain ⟨h1, h2, h3, ⟨h4, h5⟩, ⟨h6, h7⟩, ⟨h8, h9⟩, h10, k, h11, h12⟩ := hR
  exact ⟨h1, hT, Fld_fr h3 hf (fun a i x y => by omega), ⟨PL_fr h4 hf (fun i x y => by omega), h5⟩, ⟨PT_n h6 (fun a i x y => hI a i (by omega)) (fun _ _ _ _ => rfl), h7⟩, ⟨SL_n h8 (fun a i x y => hI a i (by omega)) (fun _ _ _ _ => rfl), h9⟩, h10, k, PL_fr h11 hf (fun i x y => by omega), h12⟩
set_option maxHeartbeats 16000000 in
theorem sp_X5_wipe (hR : RepC t w h last b ps f z I J) : CALL ΩC d kX5_wipe [.ref 0] I J (AQ (nI t.length) ([], (w, h, last), b, ps, f, z)) := by
  have hL := hR.2.1.1
  have hT : TX [] (uI I 1 1 (nI 0)) := ⟨by simp [uI], by simp, fun j c hj => by simp at hj⟩
  refine call_of_wp (by decide) (Nat.le_of_ble_eq_true rfl) ?_
  refine wp_aload_n (pc := 0) (i := 0) dX5_wipe_0 rfl rfl (by first | with_reducible assumption | rfl) ?_
  refine wp_getR (pc := 1) dX5_wipe_1 lf_X5_12 (by first | with_reducible assumption | rfl) (by first | with_reducible assumption | rfl) rfl (by first | with_reducible assumption | rfl) (by first | with_reducible assumption | rfl) ?_
  refine wp_getI (pc := 4) dX5_wipe_4 lf_X5_62 (by first | with_reducible assumption | rfl) (by first | with_reducible assumption | rfl) rfl ?_
  rw [hL]
  refine wp_istore_n (pc := 7) (i := 1) dX5_wipe_7 rfl (by decide) ?_
  refine wp_aload_n (pc := 8) (i := 0) dX5_wipe_8 rfl rfl (by first | with_reducible assumption | rfl) ?_
  refine wp_getR (pc := 9) dX5_wipe_9 lf_X5_12 (by first | with_reducible assumption | rfl) (by first | with_reducible assumption | rfl) rfl (by first | with_reducible assumption | rfl) (by first | with_reducible assumption | rfl) ?_
  refine wp_iconst (pc := 12) (v := nI 0) dX5_wipe_12 (by decide +kernel) ?_
  refine wp_putI (pc := 13) dX5_wipe_13 lf_X5_62 (by first | with_reducible assumption | rfl) (by first | with_reducible assumption | rfl) rfl rfl ?_
  refine wp_iload_n (pc := 16) (i := 1) dX5_wipe_16 rfl rfl ?_
  refine wp_ireturn (pc := 17) dX5_wipe_17 rfl ?_
  refine aq_i rfl (RepC_text hR hT (fun a i y => ?_) rfl)
  have e : ¬ a = 1 := by omega
  simp [uI, e]
set_option maxHeartbeats 16000000 in
theorem sp_X5_write {x : Int32} {m : Nat} (hR : RepC t w h last b ps f z I J) (hm : m < 18446744073709551616) : CALL ΩC (d + 1) kX5_write [.ref 0, .int x, .long (lN m)] I J (AQ (aWrite t x) (tWrite t x m, (w, h, last), b, ps, f, z)) := by
  have hL := hR.2.1.1
  have h24 := hR.2.1.2.1
  by_cases h1 : outW x
  · have e1 : aWrite t x = -2 := if_pos h1
    have e2 : tWrite t x m = t := if_pos (Or.inl h1)
    rw [e1, e2]
    refine call_of_wp (by decide) (Nat.le_of_ble_eq_true rfl) ?_
    refine wp_iload_n (pc := 0) (i := 1) dX5_write_0 rfl rfl ?_
    refine wp_iconst (pc := 1) (v := nI 1) dX5_write_1 (by decide +kernel) ?_
    refine wp_icmp_lt (pc := 2) (tgt := 11) dX5_write_2 (by decide) (fun c_2 => ?_) (fun c_2 => ?_)
    · refine wp_bipush (pc := 11) (v := (-2)) dX5_write_11 (by decide +kernel) ?_
      refine wp_ireturn (pc := 13) dX5_write_13 rfl ?_
      exact aq_i rfl hR
    · refine wp_iload_n (pc := 5) (i := 1) dX5_write_5 rfl rfl ?_
      refine wp_bipush (pc := 6) (v := nI 8) dX5_write_6 (by decide +kernel) ?_
      refine wp_icmp_le (pc := 8) (tgt := 14) dX5_write_8 (by decide) (fun c_8 => ?_) (fun c_8 => ?_)
      · exact absurd h1 (fun y => y.elim c_2 (Int32.not_lt.mpr c_8))
      · refine wp_bipush (pc := 11) (v := (-2)) dX5_write_11 (by decide +kernel) ?_
        refine wp_ireturn (pc := 13) dX5_write_13 rfl ?_
        exact aq_i rfl hR
  · obtain ⟨n, n1, n8, rfl⟩ := rngI (by omega) (by omega) h1
    have ec := cI_n (n := n) (by omega)
    by_cases h2 : 24 < t.length + n
    · have e1 : aWrite t (nI n) = -4 := by unfold aWrite; rw [if_neg h1, ec, if_pos h2]
      have e2 : tWrite t (nI n) m = t := if_pos (Or.inr (by rw [ec]; exact h2))
      rw [e1, e2]
      refine call_of_wp (by decide) (Nat.le_of_ble_eq_true rfl) ?_
      refine wp_iload_n (pc := 0) (i := 1) dX5_write_0 rfl rfl ?_
      refine wp_iconst (pc := 1) (v := nI 1) dX5_write_1 (by decide +kernel) ?_
      first | (refine wp_icmp_ltN (pc := 2) (tgt := 11) dX5_write_2 (by decide) (by first | with_reducible assumption | omega) (by first | with_reducible assumption | omega) (fun c_2 => ?_) (fun c_2 => ?_)) | (refine wp_icmp_lt (pc := 2) (tgt := 11) dX5_write_2 (by decide) (fun c_2 => ?_) (fun c_2 => ?_))
      · exact absurd c_2 (by omega)
      · refine wp_iload_n (pc := 5) (i := 1) dX5_write_5 rfl rfl ?_
        refine wp_bipush (pc := 6) (v := nI 8) dX5_write_6 (by decide +kernel) ?_
        first | (refine wp_icmp_leN (pc := 8) (tgt := 14) dX5_write_8 (by decide) (by first | with_reducible assumption | omega) (by first | with_reducible assumption | omega) (fun c_8 => ?_) (fun c_8 => ?_)) | (refine wp_icmp_le (pc := 8) (tgt := 14) dX5_write_8 (by decide) (fun c_8 => ?_) (fun c_8 => ?_))
        · refine wp_aload_n (pc := 14) (i := 0) dX5_write_14 rfl rfl (by first | with_reducible assumption | rfl) ?_
          refine wp_getR (pc := 15) dX5_write_15 lf_X5_12 (by first | with_reducible assumption | rfl) (by first | with_reducible assumption | rfl) rfl (by first | with_reducible assumption | rfl) (by first | with_reducible assumption | rfl) ?_
          refine wp_getI (pc := 18) dX5_write_18 lf_X5_62 (by first | with_reducible assumption | rfl) (by first | with_reducible assumption | rfl) rfl ?_
          rw [hL]
          refine wp_iload_n (pc := 21) (i := 1) dX5_write_21 rfl rfl ?_
          first | (refine wp_iaddN (pc := 22) dX5_write_22 ?_) | (refine wp_iadd (pc := 22) dX5_write_22 ?_)
          refine wp_bipush (pc := 23) (v := nI 24) dX5_write_23 (by decide +kernel) ?_
          first | (refine wp_icmp_leN (pc := 25) (tgt := 31) dX5_write_25 (by decide) (by first | with_reducible assumption | omega) (by first | with_reducible assumption | omega) (fun c_25 => ?_) (fun c_25 => ?_)) | (refine wp_icmp_le (pc := 25) (tgt := 31) dX5_write_25 (by decide) (fun c_25 => ?_) (fun c_25 => ?_))
          · exact absurd c_25 (by omega)
          · refine wp_bipush (pc := 28) (v := (-4)) dX5_write_28 (by decide +kernel) ?_
            refine wp_ireturn (pc := 30) dX5_write_30 rfl ?_
            exact aq_i rfl hR
        · exact absurd n8 c_8
    · have e1 : aWrite t (nI n) = nI (t.length + n) := by unfold aWrite; rw [if_neg h1, ec, if_neg h2]
      have e2 : tWrite t (nI n) m = t ++ bys n m := by
        unfold tWrite
        rw [ec]
        exact if_neg (fun y => y.elim h1 h2)
      rw [e1, e2]
      refine call_of_wp (by decide) (Nat.le_of_ble_eq_true rfl) ?_
      refine wp_iload_n (pc := 0) (i := 1) dX5_write_0 rfl rfl ?_
      refine wp_iconst (pc := 1) (v := nI 1) dX5_write_1 (by decide +kernel) ?_
      first | (refine wp_icmp_ltN (pc := 2) (tgt := 11) dX5_write_2 (by decide) (by first | with_reducible assumption | omega) (by first | with_reducible assumption | omega) (fun c_2 => ?_) (fun c_2 => ?_)) | (refine wp_icmp_lt (pc := 2) (tgt := 11) dX5_write_2 (by decide) (fun c_2 => ?_) (fun c_2 => ?_))
      · exact absurd c_2 (by omega)
      · refine wp_iload_n (pc := 5) (i := 1) dX5_write_5 rfl rfl ?_
        refine wp_bipush (pc := 6) (v := nI 8) dX5_write_6 (by decide +kernel) ?_
        first | (refine wp_icmp_leN (pc := 8) (tgt := 14) dX5_write_8 (by decide) (by first | with_reducible assumption | omega) (by first | with_reducible assumption | omega) (fun c_8 => ?_) (fun c_8 => ?_)) | (refine wp_icmp_le (pc := 8) (tgt := 14) dX5_write_8 (by decide) (fun c_8 => ?_) (fun c_8 => ?_))
        · refine wp_aload_n (pc := 14) (i := 0) dX5_write_14 rfl rfl (by first | with_reducible assumption | rfl) ?_
          refine wp_getR (pc := 15) dX5_write_15 lf_X5_12 (by first | with_reducible assumption | rfl) (by first | with_reducible assumption | rfl) rfl (by first | with_reducible assumption | rfl) (by first | with_reducible assumption | rfl) ?_
          refine wp_getI (pc := 18) dX5_write_18 lf_X5_62 (by first | with_reducible assumption | rfl) (by first | with_reducible assumption | rfl) rfl ?_
          rw [hL]
          refine wp_iload_n (pc := 21) (i := 1) dX5_write_21 rfl rfl ?_
          first | (refine wp_iaddN (pc := 22) dX5_write_22 ?_) | (refine wp_iadd (pc := 22) dX5_write_22 ?_)
          refine wp_bipush (pc := 23) (v := nI 24) dX5_write_23 (by decide +kernel) ?_
          first | (refine wp_icmp_leN (pc := 25) (tgt := 31) dX5_write_25 (by decide) (by first | with_reducible assumption | omega) (by first | with_reducible assumption | omega) (fun c_25 => ?_) (fun c_25 => ?_)) | (refine wp_icmp_le (pc := 25) (tgt := 31) dX5_write_25 (by decide) (fun c_25 => ?_) (fun c_25 => ?_))
          · refine wp_aload_n (pc := 31) (i := 0) dX5_write_31 rfl rfl (by first | with_reducible assumption | rfl) ?_
            refine wp_getR (pc := 32) dX5_write_32 lf_X5_12 (by first | with_reducible assumption | rfl) (by first | with_reducible assumption | rfl) rfl (by first | with_reducible assumption | rfl) (by first | with_reducible assumption | rfl) ?_
            refine wp_iload_n (pc := 35) (i := 1) dX5_write_35 rfl rfl ?_
            refine wp_lload_n (pc := 36) (i := 2) dX5_write_36 rfl rfl ?_
            refine wp_cVV2 (pc := 37) (ci := 4) dX5_write_37 lm_X5_66 m_X4_add (by first | with_reducible assumption | rfl) (by first | with_reducible assumption | rfl) (by decide) rfl (Nat.le_of_ble_eq_true rfl) (sp_X4_add hR.2.1 n8 (by omega) hm) (fun I_37 J_37 h_37 => ?_)
            obtain ⟨hT2, hfr, hJ2⟩ := h_37
            have hL2 := hT2.1
            rw [List.length_append, bys_len] at hL2
            refine wp_aload_n (pc := 40) (i := 0) dX5_write_40 rfl rfl (by first | with_reducible assumption | rfl) ?_
            refine wp_getR (pc := 41) dX5_write_41 lf_X5_12 (by first | with_reducible assumption | rfl) (by first | with_reducible assumption | rfl) rfl (by first | with_reducible assumption | rfl) (by first | with_reducible assumption | rfl) ?_
            refine wp_getI (pc := 44) dX5_write_44 lf_X5_62 (by first | with_reducible assumption | rfl) (by first | with_reducible assumption | rfl) rfl ?_
            rw [hL2]
            refine wp_ireturn (pc := 47) dX5_write_47 rfl ?_
            exact aq_i rfl (RepC_text hR hT2 hfr hJ2)
          · exact absurd (show t.length + n ≤ 24 by omega) c_25
        · exact absurd n8 c_8
set_option maxHeartbeats 16000000 in
theorem sp_X5_fault (hR : RepC t w h last b ps f z I J) : CALL ΩC (d + 7) kX5_fault [.ref 0] I J (AQ (ffI (ffT t)) (t, (w, h, last), b, ps, f, z)) := by
  have hT := hR.2.1
  refine call_of_wp (by decide) (Nat.le_of_ble_eq_true rfl) ?_
  refine wp_aload_n (pc := 0) (i := 0) dX5_fault_0 rfl rfl (by first | with_reducible assumption | rfl) ?_
  refine wp_getR (pc := 1) dX5_fault_1 lf_X5_12 (by first | with_reducible assumption | rfl) (by first | with_reducible assumption | rfl) rfl (by first | with_reducible assumption | rfl) (by first | with_reducible assumption | rfl) ?_
  refine wp_cVP0 (pc := 4) (ci := 4) dX5_fault_4 lm_X5_70 m_X4_firstFault (by first | with_reducible assumption | rfl) (by first | with_reducible assumption | rfl) (by decide) rfl (Nat.le_of_ble_eq_true rfl) (sp_X4_firstFault (by with_reducible assumption)) ?_
  refine wp_ireturn (pc := 7) dX5_fault_7 rfl ?_
  exact aq_i rfl hR
theorem sg_c {c : Nat} (hall : ∀ j, j < t.length → fitT t j = true) (hc : 5 + c < t.length) : ocI (sgn (t.getD (5 + c) 0)) = nI (sgT t c) ∧ sgT t c < 12 := by
  have h1 := hall (c + 5) (by omega)
  have h2 : (sgn (t.getD (5 + c) 0)).isSome = true := by
    have : fitT t (c + 5) = (decide (c < wT t * htT t) && (sgn (t.getD (c + 5) 0)).isSome) := rfl
    rw [this, Bool.and_eq_true] at h1
    rw [Nat.add_comm]; exact h1.2
  obtain ⟨s, hs⟩ := Option.isSome_iff_exists.mp h2
  unfold sgT
  rw [hs]
  exact ⟨rfl, (sgn_lt hs).1⟩
/-- while it is laid -/
def brK (t : List Nat) (k : Nat) : Bd := (fun c => if c < k then sgT t c else 0, fun _ => 0, 0, 2)
theorem brK_0 : (fun _ => 0, fun _ => 0, 0, 2) = brK t 0 := rfl
theorem brK_s {k : Nat} : (up (brK t k).1 k (sgT t k), (brK t k).2) = brK t (k + 1) := by
  have eU : up (fun c => if c < k then sgT t c else 0) k (sgT t k) = fun c => if c < k + 1 then sgT t c else 0 := by
    funext c
    unfold up
    by_cases y : c = k
    · subst y; rw [if_pos rfl, if_pos (by omega)]
    · rw [if_neg y]
      show (if c < k then sgT t c else 0) = if c < k + 1 then sgT t c else 0
      by_cases y2 : c < k
      · rw [if_pos y2, if_pos (by omega)]
      · rw [if_neg y2, if_neg (by omega)]
  show (up (fun c => if c < k then sgT t c else 0) k (sgT t k), _) = _
  rw [eU]
  rfl
theorem brd_fin {n : Nat} {fP : Nat → Option Bd} {I1 : MemI} {J1 : MemJ} (hl9 : lT t < 10) (hgB : Bok (wT t * htT t) (brd t n)) (hn : wT t * htT t = n) (u1 : TX t I1) (u3 : Fld (wT t) (htT t) (lT t) I1) (u4 : SL 20 16 fP I1 J1) (u5 : ∃ k, PL 13 k I1 J1 ∧ ∀ c, c < 16 → k.1 c < 12) (u6 : J1 0 7 = z) : RC (t, (wT t, htT t, lT t), brd t n, [], fun _ => none, z) (clI 25 2 (uI (uI (uI (wI 12 (brK t n) I1) 12 9 (nI (oT t))) 19 1 (nI 0)) 19 2 (nI 0))) (wJ 12 (brK t n) J1) := by
  have fr : FR (fun a _ => a = 12 ∨ a = 19 ∨ a = 28) I1 (clI 25 2 (uI (uI (uI (wI 12 (brK t n) I1) 12 9 (nI (oT t))) 19 1 (nI 0)) 19 2 (nI 0))) J1 (wJ 12 (brK t n) J1) := ⟨fun a i y => by
    have y1 : ¬ a = 12 := fun q => y (Or.inl q)
    have y2 : ¬ a = 19 := fun q => y (Or.inr (Or.inl q))
    have y3 : ¬ a = 28 := fun q => y (Or.inr (Or.inr q))
    simp [clI, uI, wI, y1, y2, y3], fun a i y => wJ_n (fun q => y (Or.inl q))⟩
  have hPw := PL_w (p := 12) (b := brK t n) (I := I1) (J := J1)
  refine ⟨hl9, TX_n u1 (fun a i x y => fr.1 a i (by omega)), Fld_fr u3 fr (fun a i x y => by omega), ⟨⟨fun i y1 y2 => ?_, fun i y1 y2 => ?_⟩, hgB⟩, ⟨?_, fun c hc => by cases hc⟩, ⟨SL_clear, fun i c y => by cases y⟩, by rw [wJ_n (by decide)]; exact u6, ?_⟩
  · by_cases y9 : i = 9
    · subst y9
      simp [clI, uI, fI, brd]
    · have e5 : fI (brd t n) i = fI (brK t n) i := by
        rcases (show i = 5 ∨ i = 6 ∨ i = 7 ∨ i = 8 ∨ i = 10 by omega) with rfl | rfl | rfl | rfl | rfl <;> rfl
      show _ = fI (brd t n) i
      rw [e5, ← hPw.1 i y1 y2]
      simp [clI, uI, y9]
  · show _ = fJ (brd t n) i
    rw [hPw.2 i y1 y2]
    rcases (show i = 3 ∨ i = 4 by omega) with rfl | rfl <;> rfl
  · exact PT_n (PT_clear (SL_n u4 (I' := uI (wI 12 (brK t n) I1) 12 9 (nI (oT t))) (J' := wJ 12 (brK t n) J1) (fun a i x y => by
      have h1 : ¬ a = 12 := by omega
      rw [← wI_n (p := 12) (b := brK t n) (I := I1) h1]
      simp [uI, h1]) (fun a i x y => wJ_n (by omega)))) (fun a i x y => by
      have : ¬ a = 28 := by omega
      simp [clI, this]) (fun _ _ _ _ => rfl)
  · obtain ⟨kk, k1, k2⟩ := u5
    exact ⟨kk, PL_fr k1 fr (fun i x y => by omega), k2⟩
/-- the state that board() makes -/
def sBoard (t : List Nat) (s : Sg) : Sg := if ffT t = none then (t, (wT t, htT t, lT t), brd t (wT t * htT t), [], fun _ => none, s.2.2.2.2.2) else s
def aBoard (t : List Nat) : Int32 := if ffT t = none then nI (wT t * htT t) else -3
set_option maxHeartbeats 16000000 in
theorem sp_X5_board (hR : RepC t w h last b ps f z I J) : CALL ΩC (d + 7) kX5_board [.ref 0] I J (AQ (aBoard t) (sBoard t (t, (w, h, last), b, ps, f, z))) := by
  have hT := hR.2.1
  cases hff : ffT t with
  | some i =>
    have e1 : aBoard t = -3 := if_neg (by rw [hff]; exact fun y => by cases y)
    have e2 : sBoard t (t, (w, h, last), b, ps, f, z) = (t, (w, h, last), b, ps, f, z) := if_neg (by rw [hff]; exact fun y => by cases y)
    have hi : i ≤ 24 := by
      have h24 := hT.2.1
      unfold ffT at hff
      split at hff
      · rename_i k hk
        have := List.mem_range.mp (List.mem_of_find?_eq_some hk)
        cases hff
        omega
      · split at hff
        · cases hff; exact h24
        · cases hff
    have hne : ¬ nI i = -9 := fun y => nI_pos (n := i) (by omega) (by rw [y]; decide)
    rw [e1, e2]
    refine call_of_wp (by decide) (Nat.le_of_ble_eq_true rfl) ?_
    refine wp_aload_n (pc := 0) (i := 0) dX5_board_0 rfl rfl (by first | with_reducible assumption | rfl) ?_
    refine wp_getR (pc := 1) dX5_board_1 lf_X5_12 (by first | with_reducible assumption | rfl) (by first | with_reducible assumption | rfl) rfl (by first | with_reducible assumption | rfl) (by first | with_reducible assumption | rfl) ?_
    refine wp_cVP0 (pc := 4) (ci := 4) dX5_board_4 lm_X5_70 m_X4_firstFault (by first | with_reducible assumption | rfl) (by first | with_reducible assumption | rfl) (by decide) rfl (Nat.le_of_ble_eq_true rfl) (sp_X4_firstFault (by with_reducible assumption)) ?_
    rw [hff]
    show WP ΩC _ _ _ _ (.int (nI i) :: _) _ _ _
    refine wp_bipush (pc := 7) (v := (-9)) dX5_board_7 (by decide +kernel) ?_
    refine wp_icmp_eq (pc := 9) (tgt := 15) dX5_board_9 (by decide) (fun c_9 => ?_) (fun c_9 => ?_)
    · exact absurd c_9 hne
    · refine wp_bipush (pc := 12) (v := (-3)) dX5_board_12 (by decide +kernel) ?_
      refine wp_ireturn (pc := 14) dX5_board_14 rfl ?_
      exact aq_i rfl hR
  | none =>
    obtain ⟨hlen, hall⟩ := ff_none hff
    have f1 := fit_w (hall 1 (by omega))
    have f2 := fit_h (hall 2 (by omega))
    have f3 : 48 ≤ t.getD 3 0 ∧ t.getD 3 0 ≤ 57 := of_decide_eq_true (hall 3 (by omega))
    have w1 : 1 ≤ wT t ∧ wT t ≤ 4 := by unfold wT; omega
    have h1 : 1 ≤ htT t ∧ htT t ≤ 4 := by unfold htT; omega
    have hl9 : lT t < 10 := by unfold lT; omega
    have hwh := wh16 w1.2 h1.2
    have e1 : aBoard t = nI (wT t * htT t) := if_pos hff
    have e2 : sBoard t (t, (w, h, last), b, ps, f, z) = (t, (wT t, htT t, lT t), brd t (wT t * htT t), [], fun _ => none, z) := if_pos hff
    rw [e1, e2]
    have p12 : isP 12 := ⟨by decide, by decide⟩
    obtain ⟨r1, r2, r3, ⟨r4, r5⟩, ⟨r6, r7⟩, ⟨r8, r9⟩, r10, k13, r11, r12⟩ := hR
    obtain ⟨fP, hfP⟩ := PT_sl r6
    have ho : oT t < 2 := by unfold oT; split <;> omega
    generalize hn : wT t * htT t = n at hlen hwh ⊢
    have hgB : Bok n (brd t n) := by
      refine ⟨fun c _ => ?_, fun _ _ => Nat.zero_lt_succ _, fun c _ y => absurd y (Nat.lt_irrefl 0), ho, by show 2 < 3; decide, fun c hc => ?_⟩
      · show (if c < n then sgT t c else 0) < 12
        split
        · exact (sg_c hall (by omega)).2
        · decide
      · show (if c < n then sgT t c else 0) = 0
        rw [if_neg (by omega)]
    have loop : ∀ (I1 : MemI) (J1 : MemJ), TX t I1 → I1 3 8 = nI n → Fld (wT t) (htT t) (lT t) I1 → SL 20 16 fP I1 J1 → (∃ k, PL 13 k I1 J1 ∧ ∀ c, c < 16 → k.1 c < 12) → J1 0 7 = z → ∀ m k, m + k = n → WP ΩC (d + 7) kX5_board 52 [(0, .ref 0), (1, .int (nI k))] [] (wI 12 (brK t k) I1) (wJ 12 (brK t k) J1) (AQ (nI n) (t, (wT t, htT t, lT t), brd t n, [], fun _ => none, z)) := by
      intro I1 J1 u1 u2 u3 u4 u5 u6 m
      obtain ⟨q1, q2, q3, q4, q5⟩ := isP_sh p12
      induction m with
      | zero =>
        intro k hk
        have hk' : k = n := (Nat.zero_add k).symm.trans hk
        have v1 : TX t (wI 12 (brK t k) I1) := TX_n u1 (fun a i _ y => wI_n (by omega))
        have v2 : wI 12 (brK t k) I1 3 8 = nI n := by rw [wI_n (by decide)]; exact u2
        have v3 : clI 25 2 (uI (uI (uI (wI 12 (brK t k) I1) 12 9 (nI (oT t))) 19 1 (nI 0)) 19 2 (nI 0)) 3 8 = nI n := by simp [clI, uI, v2]
        have hfin : RC (t, (wT t, htT t, lT t), brd t n, [], fun _ => none, z) (clI 25 2 (uI (uI (uI (wI 12 (brK t k) I1) 12 9 (nI (oT t))) 19 1 (nI 0)) 19 2 (nI 0))) (wJ 12 (brK t k) J1) := by
          rw [hk']
          exact brd_fin hl9 (by rw [hn]; exact hgB) hn u1 u3 u4 u5 u6
        clear u3 u4 u5 u6
        refine wp_iload_n (pc := 52) (i := 1) dX5_board_52 rfl rfl ?_
        refine wp_aload_n (pc := 53) (i := 0) dX5_board_53 rfl rfl (by first | with_reducible assumption | rfl) ?_
        refine wp_getR (pc := 54) dX5_board_54 lf_X5_19 (by first | with_reducible assumption | rfl) (by first | with_reducible assumption | rfl) rfl (by first | with_reducible assumption | rfl) (by first | with_reducible assumption | rfl) ?_
        refine wp_getI (pc := 57) dX5_board_57 lf_X5_86 (by first | with_reducible assumption | rfl) (by first | with_reducible assumption | rfl) rfl ?_
        rw [v2]
        first | (refine wp_icmp_geN (pc := 60) (tgt := 85) dX5_board_60 (by decide) (by first | with_reducible assumption | omega) (by first | with_reducible assumption | omega) (fun c_60 => ?_) (fun c_60 => ?_)) | (refine wp_icmp_ge (pc := 60) (tgt := 85) dX5_board_60 (by decide) (fun c_60 => ?_) (fun c_60 => ?_))
        · refine wp_aload_n (pc := 85) (i := 0) dX5_board_85 rfl rfl (by first | with_reducible assumption | rfl) ?_
          refine wp_getR (pc := 86) dX5_board_86 lf_X5_32 (by first | with_reducible assumption | rfl) (by first | with_reducible assumption | rfl) rfl (by first | with_reducible assumption | rfl) (by first | with_reducible assumption | rfl) ?_
          refine wp_aload_n (pc := 89) (i := 0) dX5_board_89 rfl rfl (by first | with_reducible assumption | rfl) ?_
          refine wp_getR (pc := 90) dX5_board_90 lf_X5_12 (by first | with_reducible assumption | rfl) (by first | with_reducible assumption | rfl) rfl (by first | with_reducible assumption | rfl) (by first | with_reducible assumption | rfl) ?_
          refine wp_cVP0 (pc := 93) (ci := 4) dX5_board_93 lm_X5_97 m_X4_side (by first | with_reducible assumption | rfl) (by first | with_reducible assumption | rfl) (by decide) rfl (Nat.le_of_ble_eq_true rfl) (sp_X4_side v1 (by omega)) ?_
          refine wp_putI (pc := 96) dX5_board_96 lf_X5_100 (by first | with_reducible assumption | rfl) (by first | with_reducible assumption | rfl) rfl rfl ?_
          refine wp_aload_n (pc := 99) (i := 0) dX5_board_99 rfl rfl (by first | with_reducible assumption | rfl) ?_
          refine wp_getR (pc := 100) dX5_board_100 lf_X5_41 (by first | with_reducible assumption | rfl) (by first | with_reducible assumption | rfl) rfl (by first | with_reducible assumption | rfl) (by first | with_reducible assumption | rfl) ?_
          refine wp_cVV0 (pc := 103) (ci := 1) dX5_board_103 lm_X5_103 m_X1_clear (by first | with_reducible assumption | rfl) (by first | with_reducible assumption | rfl) (by decide) rfl (Nat.le_of_ble_eq_true rfl) sp_X1_clear (fun I_103 J_103 h_103 => ?_)
          obtain ⟨rfl, rfl⟩ := h_103
          refine wp_aload_n (pc := 106) (i := 0) dX5_board_106 rfl rfl (by first | with_reducible assumption | rfl) ?_
          refine wp_getR (pc := 107) dX5_board_107 lf_X5_50 (by first | with_reducible assumption | rfl) (by first | with_reducible assumption | rfl) rfl (by first | with_reducible assumption | rfl) (by first | with_reducible assumption | rfl) ?_
          refine wp_cVV0 (pc := 110) (ci := 3) dX5_board_110 lm_X5_104 m_X3_clear (by first | with_reducible assumption | rfl) (by first | with_reducible assumption | rfl) (by decide) rfl (Nat.le_of_ble_eq_true rfl) (sp_X3_clear (s := 25) (n := 2) (Or.inr ⟨rfl, rfl⟩)) (fun I_110 J_110 h_110 => ?_)
          obtain ⟨rfl, rfl⟩ := h_110
          refine wp_aload_n (pc := 113) (i := 0) dX5_board_113 rfl rfl (by first | with_reducible assumption | rfl) ?_
          refine wp_getR (pc := 114) dX5_board_114 lf_X5_19 (by first | with_reducible assumption | rfl) (by first | with_reducible assumption | rfl) rfl (by first | with_reducible assumption | rfl) (by first | with_reducible assumption | rfl) ?_
          refine wp_getI (pc := 117) dX5_board_117 lf_X5_86 (by first | with_reducible assumption | rfl) (by first | with_reducible assumption | rfl) rfl ?_
          rw [v3]
          refine wp_ireturn (pc := 120) dX5_board_120 rfl ?_
          exact aq_i rfl hfin
        · exact absurd (show n ≤ k by omega) c_60
      | succ m ih =>
        intro k hk
        have hkn : k < n := by omega
        have v1 : TX t (wI 12 (brK t k) I1) := TX_n u1 (fun a i _ y => wI_n (by omega))
        have v2 : wI 12 (brK t k) I1 3 8 = nI n := by rw [wI_n (by decide)]; exact u2
        obtain ⟨sg1, sg2⟩ := sg_c hall (show 5 + k < t.length by omega)
        have hs : ∀ c, c < 16 → (brK t k).1 c < 12 := fun c _ => by
          show (if c < k then sgT t c else 0) < 12
          split
          · exact (sg_c hall (by omega)).2
          · decide
        have hput := sp_X2_put (d := d + 5) (p := 12) (c := k) (s := sgT t k) p12 (PL_w (p := 12) (b := brK t k) (I := I1) (J := J1)) hs (by omega) sg2
        rw [brK_s, wI_w, wJ_w] at hput
        have h0 := ih (k + 1) (by omega)
        clear ih u3 u4 u5 u6 hs
        refine wp_iload_n (pc := 52) (i := 1) dX5_board_52 rfl rfl ?_
        refine wp_aload_n (pc := 53) (i := 0) dX5_board_53 rfl rfl (by first | with_reducible assumption | rfl) ?_
        refine wp_getR (pc := 54) dX5_board_54 lf_X5_19 (by first | with_reducible assumption | rfl) (by first | with_reducible assumption | rfl) rfl (by first | with_reducible assumption | rfl) (by first | with_reducible assumption | rfl) ?_
        refine wp_getI (pc := 57) dX5_board_57 lf_X5_86 (by first | with_reducible assumption | rfl) (by first | with_reducible assumption | rfl) rfl ?_
        rw [v2]
        first | (refine wp_icmp_geN (pc := 60) (tgt := 85) dX5_board_60 (by decide) (by first | with_reducible assumption | omega) (by first | with_reducible assumption | omega) (fun c_60 => ?_) (fun c_60 => ?_)) | (refine wp_icmp_ge (pc := 60) (tgt := 85) dX5_board_60 (by decide) (fun c_60 => ?_) (fun c_60 => ?_))
        · exact absurd c_60 (by omega)
        · refine wp_aload_n (pc := 63) (i := 0) dX5_board_63 rfl rfl (by first | with_reducible assumption | rfl) ?_
          refine wp_getR (pc := 64) dX5_board_64 lf_X5_32 (by first | with_reducible assumption | rfl) (by first | with_reducible assumption | rfl) rfl (by first | with_reducible assumption | rfl) (by first | with_reducible assumption | rfl) ?_
          refine wp_iload_n (pc := 67) (i := 1) dX5_board_67 rfl rfl ?_
          refine wp_aload_n (pc := 68) (i := 0) dX5_board_68 rfl rfl (by first | with_reducible assumption | rfl) ?_
          refine wp_getR (pc := 69) dX5_board_69 lf_X5_12 (by first | with_reducible assumption | rfl) (by first | with_reducible assumption | rfl) rfl (by first | with_reducible assumption | rfl) (by first | with_reducible assumption | rfl) ?_
          refine wp_iload_n (pc := 72) (i := 1) dX5_board_72 rfl rfl ?_
          refine wp_cVP1 (pc := 73) (ci := 4) dX5_board_73 lm_X5_89 m_X4_signOf (by first | with_reducible assumption | rfl) (by first | with_reducible assumption | rfl) (by decide) rfl (Nat.le_of_ble_eq_true rfl) (sp_X4_signOf v1 (by omega)) ?_
          rw [sg1]
          refine wp_cVV2 (pc := 76) (ci := 2) dX5_board_76 lm_X5_93 m_X2_put (by first | with_reducible assumption | rfl) (by first | with_reducible assumption | rfl) (by decide) rfl (Nat.le_of_ble_eq_true rfl) hput (fun I_76 J_76 h_76 => ?_)
          obtain ⟨rfl, rfl⟩ := h_76
          first | (refine wp_iincN (pc := 79) (m := 1) dX5_board_79 rfl rfl (by decide) ?_) | (refine wp_iinc (pc := 79) dX5_board_79 rfl rfl (by decide) ?_)
          refine wp_goto (pc := 82) (tgt := 52) dX5_board_82 (by decide) ?_
          exact h0
    obtain ⟨q1, q2, q3, q4, q5⟩ := isP_sh p12
    refine call_of_wp (by decide) (Nat.le_of_ble_eq_true rfl) ?_
    refine wp_aload_n (pc := 0) (i := 0) dX5_board_0 rfl rfl (by first | with_reducible assumption | rfl) ?_
    refine wp_getR (pc := 1) dX5_board_1 lf_X5_12 (by first | with_reducible assumption | rfl) (by first | with_reducible assumption | rfl) rfl (by first | with_reducible assumption | rfl) (by first | with_reducible assumption | rfl) ?_
    refine wp_cVP0 (pc := 4) (ci := 4) dX5_board_4 lm_X5_70 m_X4_firstFault (by first | with_reducible assumption | rfl) (by first | with_reducible assumption | rfl) (by decide) rfl (Nat.le_of_ble_eq_true rfl) (sp_X4_firstFault (by with_reducible assumption)) ?_
    rw [hff]
    show WP ΩC _ _ _ _ (.int (-9) :: _) _ _ _
    refine wp_bipush (pc := 7) (v := (-9)) dX5_board_7 (by decide +kernel) ?_
    refine wp_icmp_eq (pc := 9) (tgt := 15) dX5_board_9 (by decide) (fun c_9 => ?_) (fun c_9 => ?_)
    · refine wp_aload_n (pc := 15) (i := 0) dX5_board_15 rfl rfl (by first | with_reducible assumption | rfl) ?_
      refine wp_getR (pc := 16) dX5_board_16 lf_X5_19 (by first | with_reducible assumption | rfl) (by first | with_reducible assumption | rfl) rfl (by first | with_reducible assumption | rfl) (by first | with_reducible assumption | rfl) ?_
      refine wp_aload_n (pc := 19) (i := 0) dX5_board_19 rfl rfl (by first | with_reducible assumption | rfl) ?_
      refine wp_getR (pc := 20) dX5_board_20 lf_X5_12 (by first | with_reducible assumption | rfl) (by first | with_reducible assumption | rfl) rfl (by first | with_reducible assumption | rfl) (by first | with_reducible assumption | rfl) ?_
      refine wp_cVP0 (pc := 23) (ci := 4) dX5_board_23 lm_X5_74 m_X4_width (by first | with_reducible assumption | rfl) (by first | with_reducible assumption | rfl) (by decide) rfl (Nat.le_of_ble_eq_true rfl) (sp_X4_width hT (by omega) (by omega)) ?_
      refine wp_aload_n (pc := 26) (i := 0) dX5_board_26 rfl rfl (by first | with_reducible assumption | rfl) ?_
      refine wp_getR (pc := 27) dX5_board_27 lf_X5_12 (by first | with_reducible assumption | rfl) (by first | with_reducible assumption | rfl) rfl (by first | with_reducible assumption | rfl) (by first | with_reducible assumption | rfl) ?_
      refine wp_cVP0 (pc := 30) (ci := 4) dX5_board_30 lm_X5_77 m_X4_height (by first | with_reducible assumption | rfl) (by first | with_reducible assumption | rfl) (by decide) rfl (Nat.le_of_ble_eq_true rfl) (sp_X4_height hT (by omega) (by omega)) ?_
      refine wp_aload_n (pc := 33) (i := 0) dX5_board_33 rfl rfl (by first | with_reducible assumption | rfl) ?_
      refine wp_getR (pc := 34) dX5_board_34 lf_X5_12 (by first | with_reducible assumption | rfl) (by first | with_reducible assumption | rfl) rfl (by first | with_reducible assumption | rfl) (by first | with_reducible assumption | rfl) ?_
      refine wp_cVP0 (pc := 37) (ci := 4) dX5_board_37 lm_X5_80 m_X4_last (by first | with_reducible assumption | rfl) (by first | with_reducible assumption | rfl) (by decide) rfl (Nat.le_of_ble_eq_true rfl) (sp_X4_last hT (by omega) (by omega)) ?_
      refine wp_cVV3 (pc := 40) (ci := 0) dX5_board_40 lm_X5_58 m_X0_shape (by first | with_reducible assumption | rfl) (by first | with_reducible assumption | rfl) (by decide) rfl (Nat.le_of_ble_eq_true rfl) (sp_X0_shape w1.1 w1.2 h1.1 h1.2) (fun I_40 J_40 h_40 => ?_)
      obtain ⟨g1, g2, rfl⟩ := h_40
      have hb12 : PL 12 b I_40 J_40 := ⟨fun i x y => by rw [g2 12 i (by omega)]; exact r4.1 i x y, r4.2⟩
      refine wp_aload_n (pc := 43) (i := 0) dX5_board_43 rfl rfl (by first | with_reducible assumption | rfl) ?_
      refine wp_getR (pc := 44) dX5_board_44 lf_X5_32 (by first | with_reducible assumption | rfl) (by first | with_reducible assumption | rfl) rfl (by first | with_reducible assumption | rfl) (by first | with_reducible assumption | rfl) ?_
      refine wp_cVV0 (pc := 47) (ci := 2) dX5_board_47 lm_X5_83 m_X2_clear (by first | with_reducible assumption | rfl) (by first | with_reducible assumption | rfl) (by decide) rfl (Nat.le_of_ble_eq_true rfl) (sp_X2_clear p12 hb12 r5.1) (fun I_47 J_47 h_47 => ?_)
      obtain ⟨rfl, rfl⟩ := h_47
      rw [brK_0 (t := t)]
      refine wp_iconst (pc := 50) (v := nI 0) dX5_board_50 (by decide +kernel) ?_
      refine wp_istore_n (pc := 51) (i := 1) dX5_board_51 rfl (by decide) ?_
      have h0 := loop I_40 J_40 (TX_n hT (fun a i x y => g2 a i (by omega))) (by rw [g1.2.2.2.2.1, hn]) g1 (SL_n hfP (fun a i x y => g2 a i (by omega)) (fun _ _ _ _ => rfl)) ⟨k13, ⟨fun i x y => by rw [g2 13 i (by omega)]; exact r11.1 i x y, r11.2⟩, r12⟩ r10 n 0 rfl
      exact h0
    · exact absurd rfl c_9
end PUB
