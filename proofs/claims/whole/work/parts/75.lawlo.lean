/-! THE LAW'S LOOP -/
theorem sub4 {L i : Nat} (hL : L ≤ 2048) (hi : i ≤ L) (h : ¬ (nI L - nI 4 < nI i)) : i + 4 ≤ L := by
  rcases Nat.lt_or_ge L 4 with h4 | h4
  · refine absurd ?_ h
    rcases (show L = 0 ∨ L = 1 ∨ L = 2 ∨ L = 3 by omega) with rfl | rfl | rfl | rfl <;> (rcases (show i = 0 ∨ i = 1 ∨ i = 2 ∨ i = 3 by omega) with rfl | rfl | rfl | rfl <;> decide +kernel)
  · rw [pk_sub h4] at h
    have hz : ¬ L - 4 < i := fun z => h ((nI_ltI (by omega) (by omega)).mpr z)
    omega
theorem and31 (x : Int32) : ∃ n, n < 32 ∧ x &&& nI 31 = nI n := by
  refine ⟨(x &&& nI 31).toBitVec.toNat, ?_, ?_⟩
  · have e : (x &&& nI 31).toBitVec = x.toBitVec &&& (nI 31).toBitVec := Int32.toBitVec_and ..
    rw [e, BitVec.toNat_and, show (nI 31).toBitVec.toNat = 31 by decide +kernel]
    have := Nat.and_le_right (n := x.toBitVec.toNat) (m := 31)
    omega
  · apply Int32.toBitVec_inj.mp
    show _ = BitVec.ofNat 32 _
    rw [BitVec.ofNat_toNat, BitVec.setWidth_eq]
section LLO
variable {l : Launch} {p : Program} {e : Env} {s : State} {m : MethodId} {below : List Frame} {meth : Method} {c : Code} {b L : Nat} {xs : Nat → Int32} {G : va_G} {cA : Nat → ClassId} {A1 A2 : Nat → Nat} {fm : Value} {i : Nat}
set_option maxHeartbeats 16000000 in
theorem law_loop (C0 : LA p s m meth c b L xs G cA A1 A2 fm) (hL : L ≤ 2048) : ∀ k i sg, i ≤ L → L < i + 4 * k → TkS sg → LWP l p e s m below meth c b G cA A1 A2 18 i [] sg sg := by
  intro k
  induction k with
  | zero => exact fun i sg h1 h2 _ => absurd h2 (by omega)
  | succ k ih =>
    intro i sg hi hk tk
    refine lp_i3 C0 dL_law_18 ?_
    refine lp_a0 C0 dL_law_19 ?_
    refine lp_alen C0 dL_law_20 ?_
    refine lp_ic (v := nI 4) C0 dL_law_21 (by decide +kernel) ?_
    refine lp_isub C0 dL_law_22 ?_
    refine lp_gt (tgt := 867) C0 dL_law_23 (by decide) (fun _ => lp_end C0) (fun hc => ?_)
    have hi4 := sub4 hL hi hc
    refine lp_a0 C0 dL_law_26 ?_
    refine lp_i3 C0 dL_law_27 ?_
    refine lp_sld (j := i) C0 hL (by omega) dL_law_28 ?_
    refine lp_bip (v := nI 31) C0 dL_law_29 (by decide +kernel) ?_
    obtain ⟨n, hn, he⟩ := and31 (xs i)
    refine lp_iand (v := nI n) C0 dL_law_31 he ?_
    have h0 : ∀ sg2 : Sg, TkS sg2 → LWP l p e s m below meth c b G cA A1 A2 861 i [] sg2 sg2 := fun sg2 tk2 => lp_inc C0 dL_law_861 (lp_goto (tgt := 18) C0 dL_law_864 (by decide) (ih (i + 4) sg2 (by omega) (by omega) tk2))
    clear ih he hc
    obtain ⟨t, ⟨w, h, last⟩, bd, ps, f, z⟩ := sg
    rcases (show n = 0 ∨ n = 1 ∨ n = 2 ∨ n = 3 ∨ n = 4 ∨ n = 5 ∨ n = 6 ∨ n = 7 ∨ n = 8 ∨ n = 9 ∨ n = 10 ∨ n = 11 ∨ n = 12 ∨ n = 13 ∨ n = 14 ∨ n = 15 ∨ n = 16 ∨ n = 17 ∨ n = 18 ∨ n = 19 ∨ n = 20 ∨ n = 21 ∨ n = 22 ∨ n = 23 ∨ n = 24 ∨ n = 25 ∨ n = 26 ∨ n = 27 ∨ n = 28 ∨ n = 29 ∨ n = 30 ∨ n = 31 by omega) with rfl | rfl | rfl | rfl | rfl | rfl | rfl | rfl | rfl | rfl | rfl | rfl | rfl | rfl | rfl | rfl | rfl | rfl | rfl | rfl | rfl | rfl | rfl | rfl | rfl | rfl | rfl | rfl | rfl | rfl | rfl | rfl
    · exact lp_tabIn (tgt := 160) (off := 128) C0 dL_law_32 (by decide +kernel) (by decide +kernel) (by decide +kernel) (by decide) (ca_write C0 hL (by omega) tk h0)
    · exact lp_tabIn (tgt := 223) (off := 191) C0 dL_law_32 (by decide +kernel) (by decide +kernel) (by decide +kernel) (by decide) (ca_wipe C0 hL (by omega) tk h0)
    · exact lp_tabIn (tgt := 236) (off := 204) C0 dL_law_32 (by decide +kernel) (by decide +kernel) (by decide +kernel) (by decide) (ca_fault C0 hL (by omega) tk h0)
    · exact lp_tabIn (tgt := 249) (off := 217) C0 dL_law_32 (by decide +kernel) (by decide +kernel) (by decide +kernel) (by decide) (ca_board C0 hL (by omega) tk h0)
    · exact lp_tabIn (tgt := 262) (off := 230) C0 dL_law_32 (by decide +kernel) (by decide +kernel) (by decide +kernel) (by decide) (ca_cell C0 hL (by omega) tk h0)
    · exact lp_tabIn (tgt := 285) (off := 253) C0 dL_law_32 (by decide +kernel) (by decide +kernel) (by decide +kernel) (by decide) (ca_gone C0 hL (by omega) tk h0)
    · exact lp_tabIn (tgt := 308) (off := 276) C0 dL_law_32 (by decide +kernel) (by decide +kernel) (by decide +kernel) (by decide) (ca_aims C0 hL (by omega) tk h0)
    · exact lp_tabIn (tgt := 331) (off := 299) C0 dL_law_32 (by decide +kernel) (by decide +kernel) (by decide +kernel) (by decide) (ca_can C0 hL (by omega) tk h0)
    · exact lp_tabIn (tgt := 354) (off := 322) C0 dL_law_32 (by decide +kernel) (by decide +kernel) (by decide +kernel) (by decide) (ca_plies C0 hL (by omega) tk h0)
    · exact lp_tabIn (tgt := 367) (off := 335) C0 dL_law_32 (by decide +kernel) (by decide +kernel) (by decide +kernel) (by decide) (ca_move C0 hL (by omega) tk h0)
    · exact lp_tabIn (tgt := 400) (off := 368) C0 dL_law_32 (by decide +kernel) (by decide +kernel) (by decide +kernel) (by decide) (ca_pass C0 hL (by omega) tk h0)
    · exact lp_tabIn (tgt := 413) (off := 381) C0 dL_law_32 (by decide +kernel) (by decide +kernel) (by decide +kernel) (by decide) (ca_undo C0 hL (by omega) tk h0)
    · exact lp_tabIn (tgt := 426) (off := 394) C0 dL_law_32 (by decide +kernel) (by decide +kernel) (by decide +kernel) (by decide) (ca_judge C0 hL (by omega) tk h0)
    · exact lp_tabIn (tgt := 459) (off := 427) C0 dL_law_32 (by decide +kernel) (by decide +kernel) (by decide +kernel) (by decide) (ca_wins C0 hL (by omega) tk h0)
    · exact lp_tabIn (tgt := 482) (off := 450) C0 dL_law_32 (by decide +kernel) (by decide +kernel) (by decide +kernel) (by decide) (ca_keys C0 hL (by omega) tk h0)
    · exact lp_tabIn (tgt := 505) (off := 473) C0 dL_law_32 (by decide +kernel) (by decide +kernel) (by decide +kernel) (by decide) (ca_keyAt C0 hL (by omega) tk h0)
    · exact lp_tabIn (tgt := 538) (off := 506) C0 dL_law_32 (by decide +kernel) (by decide +kernel) (by decide +kernel) (by decide) (ca_odds C0 hL (by omega) tk h0)
    · exact lp_tabIn (tgt := 577) (off := 545) C0 dL_law_32 (by decide +kernel) (by decide +kernel) (by decide +kernel) (by decide) (ca_parts C0 hL (by omega) tk h0)
    · exact lp_tabIn (tgt := 590) (off := 558) C0 dL_law_32 (by decide +kernel) (by decide +kernel) (by decide +kernel) (by decide) (ca_part C0 hL (by omega) tk h0)
    · exact lp_tabIn (tgt := 613) (off := 581) C0 dL_law_32 (by decide +kernel) (by decide +kernel) (by decide +kernel) (by decide) (ca_comes C0 hL (by omega) tk h0)
    · exact lp_tabIn (tgt := 636) (off := 604) C0 dL_law_32 (by decide +kernel) (by decide +kernel) (by decide +kernel) (by decide) (ca_comesAt C0 hL (by omega) tk h0)
    · exact lp_tabIn (tgt := 669) (off := 637) C0 dL_law_32 (by decide +kernel) (by decide +kernel) (by decide +kernel) (by decide) (ca_shut C0 hL (by omega) tk h0)
    · exact lp_tabIn (tgt := 682) (off := 650) C0 dL_law_32 (by decide +kernel) (by decide +kernel) (by decide +kernel) (by decide) (ca_ways C0 hL (by omega) tk h0)
    · exact lp_tabIn (tgt := 715) (off := 683) C0 dL_law_32 (by decide +kernel) (by decide +kernel) (by decide +kernel) (by decide) (ca_seed C0 hL (by omega) tk h0)
    · exact lp_tabIn (tgt := 769) (off := 737) C0 dL_law_32 (by decide +kernel) (by decide +kernel) (by decide +kernel) (by decide) (ca_play C0 hL (by omega) tk h0)
    · exact lp_tabIn (tgt := 792) (off := 760) C0 dL_law_32 (by decide +kernel) (by decide +kernel) (by decide +kernel) (by decide) (ca_keep C0 hL (by omega) tk h0)
    · exact lp_tabIn (tgt := 815) (off := 783) C0 dL_law_32 (by decide +kernel) (by decide +kernel) (by decide +kernel) (by decide) (ca_again C0 hL (by omega) tk h0)
    · exact lp_tabIn (tgt := 838) (off := 806) C0 dL_law_32 (by decide +kernel) (by decide +kernel) (by decide +kernel) (by decide) (ca_count C0 hL (by omega) tk h0)
    · exact lp_tabOut (tgt := 861) C0 dL_law_32 (Or.inr (by decide +kernel)) (by decide) (h0 _ tk)
    · exact lp_tabOut (tgt := 861) C0 dL_law_32 (Or.inr (by decide +kernel)) (by decide) (h0 _ tk)
    · exact lp_tabOut (tgt := 861) C0 dL_law_32 (Or.inr (by decide +kernel)) (by decide) (h0 _ tk)
    · exact lp_tabOut (tgt := 861) C0 dL_law_32 (Or.inr (by decide +kernel)) (by decide) (h0 _ tk)
end LLO
