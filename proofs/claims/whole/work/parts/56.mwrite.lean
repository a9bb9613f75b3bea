/-! THE REFERENCE'S CALLS, 13: write -/
theorem lsh_s : ∀ k, k < 8 → (((nI (8 * k)).toInt64 &&& 63).toBitVec.smod 64).toNat = 8 * k := by decide +kernel
theorem lsh_byte {m k : Nat} (hk : k < 8) : (lN m >>> ((nI (8 * k)).toInt64 &&& 63)) &&& lN 255 = lN (m / 2 ^ (8 * k) % 256) := by
  apply Int64.toBitVec_inj.mp
  apply BitVec.eq_of_getLsbD_eq
  intro i hi
  show ((lN m).toBitVec.sshiftRight' (((nI (8 * k)).toInt64 &&& 63).toBitVec.smod 64) &&& (lN 255).toBitVec).getLsbD i = (lN (m / 2 ^ (8 * k) % 256)).toBitVec.getLsbD i
  rw [BitVec.getLsbD_and, BitVec.sshiftRight_eq', lsh_s k hk, BitVec.getLsbD_sshiftRight, lN_bv, lN_bv, lN_bv, BitVec.getLsbD_ofNat, BitVec.getLsbD_ofNat, BitVec.getLsbD_ofNat]
  rw [show (256 : Nat) = 2 ^ 8 from rfl, Nat.testBit_mod_two_pow, Nat.testBit_div_two_pow]
  have h255 : (255 : Nat).testBit i = decide (i < 8) := by
    rw [show (255 : Nat) = 2 ^ 8 - 1 from rfl, Nat.testBit_two_pow_sub_one]
  rw [h255]
  by_cases h8 : i < 8
  · have h1 : ¬ 64 ≤ i := by omega
    have h2 : 8 * k + i < 64 := by omega
    have h3 : i < 64 := by omega
    have h4 : i + 8 * k < 64 := by omega
    simp [h8, h1, h3, h4, Nat.add_comm]
  · simp [h8]
theorem TM_push {t : List Nat} {I : MemI} {c : Nat} (h : TM t I) (hl : t.length < 24) (hc : c < 256) : TM (t ++ [c]) (uI (uI I 5 t.length (nI c)) 0 8 (nI (t.length + 1))) := by
  obtain ⟨h1, h2, h3⟩ := h
  refine ⟨?_, ?_, fun j x hj => ?_⟩
  · rw [List.length_append]; simp [uI]
  · rw [List.length_append, List.length_singleton]; omega
  · by_cases e : j = t.length
    · subst e
      rw [List.getElem?_append_right (Nat.le_refl _), Nat.sub_self] at hj
      have : c = x := by simpa using hj
      subst this
      exact ⟨by simp [uI], hc⟩
    · have hjl : j < t.length := by
        rcases Nat.lt_or_ge j t.length with y | y
        · exact y
        · rw [List.getElem?_append_right y, List.getElem?_eq_none (by rw [List.length_singleton]; omega)] at hj; cases hj
      rw [List.getElem?_append_left hjl] at hj
      have := h3 j x hj
      exact ⟨by simp [uI, e, this.1], this.2⟩
section MWR
variable {d : Nat} {I : MemI} {J : MemJ} {t : List Nat} {w h last : Nat} {b : Bd} {ps : List Bd} {f : Nat → Option Bd} {z : Int64}
theorem RepM_text {t' : List Nat} {I' : MemI} (hR : RepM t w h last b ps f z I J) (hT : TM t' I') (hI : ∀ a i, ¬ a = 5 → ¬ (a = 0 ∧ i = 8) → I' a i = I a i) : RepM t' w h last b ps f z I' J := by
  obtain ⟨h1, h2, ⟨h3, h4⟩, ⟨h5, h6⟩, ⟨h7, h8⟩, ⟨h9, h10⟩, h11⟩ := hR
  exact ⟨h1, hT, ⟨⟨h3.1, by rw [hI 0 0 (by decide) (by omega)]; exact h3.2.1, by rw [hI 0 1 (by decide) (by omega)]; exact h3.2.2⟩, by rw [hI 0 2 (by decide) (by omega)]; exact h4⟩, ⟨LX_n h5 (by decide) (fun a i y1 _ _ => hI a i (by omega) (by omega)) (hI 3 0 (by decide) (by omega)) (hI 4 0 (by decide) (by omega)), h6⟩, ⟨PM_n h7 (hI 0 11 (by decide) (by omega)) (hI 0 12 (by decide) (by omega)) (fun i => hI 8 i (by decide) (by omega)), h8⟩, ⟨KM_n h9 (fun i => hI 11 i (by decide) (by omega)) (fun i => hI 12 i (by decide) (by omega)), h10⟩, h11⟩
set_option maxHeartbeats 16000000 in
theorem sp_X6_write {x : Int32} {m : Nat} (hR : RepM t w h last b ps f z I J) (hm : m < 18446744073709551616) : CALL ΩM (d + 1) kX6_write [.ref 0, .int x, .long (lN m)] I J (AM (aWrite t x) (tWrite t x m, (w, h, last), b, ps, f, z)) := by
  have hL := hR.2.1.1
  have h24 := hR.2.1.2.1
  have hi1 : inL x.toInt64 (lN 1) (lN 8) = decide (¬ (x < nI 1 ∨ nI 8 < x)) := inL_rng (by decide) (by decide)
  by_cases h1 : outW x
  · have e1 : aWrite t x = -2 := if_pos h1
    have e2 : tWrite t x m = t := if_pos (Or.inl h1)
    rw [decide_eq_false (fun k => k h1)] at hi1
    rw [e1, e2]
    refine call_of_wp (by decide) (Nat.le_of_ble_eq_true rfl) ?_
    refine wp_iload_n (pc := 0) (i := 1) dX6_write_0 rfl rfl ?_
    refine wp_i2l (pc := 1) dX6_write_1 ?_
    refine wp_lconst (pc := 2) (v := lN 1) dX6_write_2 (by decide +kernel) ?_
    refine wp_ldc2_w (pc := 3) (v := lN 8) dX6_write_3 kl_X6_54 ?_
    refine wp_cSP3 (pc := 6) dX6_write_6 lm_X6_56 m_X6_in (Nat.le_of_ble_eq_true rfl) sp_X6_in ?_
    rw [hi1]
    refine wp_if_neB (pc := 9) (tgt := 15) dX6_write_9 (by decide) (fun c_9 => ?_) (fun c_9 => ?_)
    · exact Bool.noConfusion c_9
    · refine wp_bipush (pc := 12) (v := (-2)) dX6_write_12 (by decide +kernel) ?_
      refine wp_ireturn (pc := 14) dX6_write_14 rfl ?_
      exact am_i rfl hR
  · obtain ⟨n, n1, n8, rfl⟩ := rngI (by omega) (by omega) h1
    have ec := cI_n (n := n) (by omega)
    have hin : inL (lN n) (lN 1) (lN 8) = true := by rw [inL_nn (by omega) (by omega) (by omega)]; exact decide_eq_true ⟨n1, n8⟩
    by_cases h2 : 24 < t.length + n
    · have e1 : aWrite t (nI n) = -4 := by unfold aWrite; rw [if_neg h1, ec, if_pos h2]
      have e2 : tWrite t (nI n) m = t := if_pos (Or.inr (by rw [ec]; exact h2))
      rw [e1, e2]
      refine call_of_wp (by decide) (Nat.le_of_ble_eq_true rfl) ?_
      refine wp_iload_n (pc := 0) (i := 1) dX6_write_0 rfl rfl ?_
      first | (refine wp_i2lN (pc := 1) dX6_write_1 (by first | with_reducible assumption | omega) ?_) | (refine wp_i2l (pc := 1) dX6_write_1 ?_)
      refine wp_lconst (pc := 2) (v := lN 1) dX6_write_2 (by decide +kernel) ?_
      refine wp_ldc2_w (pc := 3) (v := lN 8) dX6_write_3 kl_X6_54 ?_
      refine wp_cSP3 (pc := 6) dX6_write_6 lm_X6_56 m_X6_in (Nat.le_of_ble_eq_true rfl) sp_X6_in ?_
      rw [hin]
      refine wp_if_neB (pc := 9) (tgt := 15) dX6_write_9 (by decide) (fun c_9 => ?_) (fun c_9 => ?_)
      · refine wp_aload_n (pc := 15) (i := 0) dX6_write_15 rfl rfl (by first | with_reducible assumption | rfl) ?_
        refine wp_getI (pc := 16) dX6_write_16 lf_X6_60 (by first | with_reducible assumption | rfl) (by first | with_reducible assumption | rfl) rfl ?_
        rw [hL]
        refine wp_iload_n (pc := 19) (i := 1) dX6_write_19 rfl rfl ?_
        first | (refine wp_iaddN (pc := 20) dX6_write_20 ?_) | (refine wp_iadd (pc := 20) dX6_write_20 ?_)
        refine wp_bipush (pc := 21) (v := nI 24) dX6_write_21 (by decide +kernel) ?_
        first | (refine wp_icmp_leN (pc := 23) (tgt := 29) dX6_write_23 (by decide) (by first | with_reducible assumption | omega) (by first | with_reducible assumption | omega) (fun c_23 => ?_) (fun c_23 => ?_)) | (refine wp_icmp_le (pc := 23) (tgt := 29) dX6_write_23 (by decide) (fun c_23 => ?_) (fun c_23 => ?_))
        · exact absurd c_23 (by omega)
        · refine wp_bipush (pc := 26) (v := (-4)) dX6_write_26 (by decide +kernel) ?_
          refine wp_ireturn (pc := 28) dX6_write_28 rfl ?_
          exact am_i rfl hR
      · exact Bool.noConfusion c_9
    · have e1 : aWrite t (nI n) = nI (t.length + n) := by unfold aWrite; rw [if_neg h1, ec, if_neg h2]
      have e2 : tWrite t (nI n) m = t ++ bys n m := by
        unfold tWrite
        rw [ec]
        exact if_neg (fun y => y.elim h1 h2)
      rw [e1, e2]
      have loop : ∀ k (u : List Nat) (I2 : MemI), k ≤ 8 → u.length + k = t.length + n → TM u I2 → (∀ a i, ¬ a = 5 → ¬ (a = 0 ∧ i = 8) → I2 a i = I a i) → u ++ bys k m = t ++ bys n m → WP ΩM (d + 1) kX6_write 34 [(0, .ref 0), (1, .int (nI n)), (2, .long (lN m)), (4, .int (zI ((k : Int) - 1)))] [] I2 J (AM (nI (t.length + n)) (t ++ bys n m, (w, h, last), b, ps, f, z)) := by
        intro k
        induction k with
        | zero =>
          intro u I2 hk hul hu hfr he
          rw [bys, List.append_nil] at he
          have hlt : zI (((0 : Nat) : Int) - 1) < 0 := by decide +kernel
          have hlu := hu.1
          have hln : u.length = t.length + n := by omega
          have hfin : RM (t ++ bys n m, (w, h, last), b, ps, f, z) I2 J := RepM_text hR (he ▸ hu) hfr
          refine wp_iload (pc := 34) dX6_write_34 rfl ?_
          refine wp_if_lt (pc := 36) (tgt := 76) dX6_write_36 (by decide) (fun c_36 => ?_) (fun c_36 => ?_)
          · refine wp_aload_n (pc := 76) (i := 0) dX6_write_76 rfl rfl (by first | with_reducible assumption | rfl) ?_
            refine wp_getI (pc := 77) dX6_write_77 lf_X6_60 (by first | with_reducible assumption | rfl) (by first | with_reducible assumption | rfl) rfl ?_
            rw [hlu]
            refine wp_ireturn (pc := 80) dX6_write_80 rfl ?_
            exact am_i (by rw [hln]) hfin
          · exact absurd hlt c_36
        | succ k ih =>
          intro u I2 hk hul hu hfr he
          have e3 : zI (((k + 1 : Nat) : Int) - 1) = nI k := by
            rw [zI_n]
            congr 1
            omega
          have hlu := hu.1
          have hul2 : u.length < 24 := by omega
          have hL2 : ∀ v, uI I2 5 u.length v 0 8 = nI u.length := fun v => by simp [uI, hlu]
          have hnext := TM_push hu hul2 (Nat.mod_lt (m / 2 ^ (8 * k)) (show 0 < 256 by decide))
          have hby := lsh_byte (m := m) (k := k) (by omega)
          rw [e3]
          refine wp_iload (pc := 34) dX6_write_34 rfl ?_
          refine wp_if_ltN (pc := 36) (tgt := 76) dX6_write_36 (by decide) (by first | with_reducible assumption | omega) ?_
          refine wp_aload_n (pc := 39) (i := 0) dX6_write_39 rfl rfl (by first | with_reducible assumption | rfl) ?_
          refine wp_getR (pc := 40) dX6_write_40 lf_X6_22 (by first | with_reducible assumption | rfl) (by first | with_reducible assumption | rfl) rfl (by first | with_reducible assumption | rfl) (by first | with_reducible assumption | rfl) ?_
          refine wp_aload_n (pc := 43) (i := 0) dX6_write_43 rfl rfl (by first | with_reducible assumption | rfl) ?_
          refine wp_getI (pc := 44) dX6_write_44 lf_X6_60 (by first | with_reducible assumption | rfl) (by first | with_reducible assumption | rfl) rfl ?_
          rw [hlu]
          refine wp_lload_n (pc := 47) (i := 2) dX6_write_47 rfl rfl ?_
          refine wp_bipush (pc := 48) (v := nI 8) dX6_write_48 (by decide +kernel) ?_
          refine wp_iload (pc := 50) dX6_write_50 rfl ?_
          first | (refine wp_imulN (pc := 52) dX6_write_52 ?_) | (refine wp_imul (pc := 52) dX6_write_52 ?_)
          refine wp_lshr (pc := 53) dX6_write_53 ?_
          refine wp_ldc2_w (pc := 54) (v := lN 255) dX6_write_54 kl_X6_63 ?_
          refine wp_land (pc := 57) dX6_write_57 ?_
          rw [hby]
          first | (refine wp_l2iN (pc := 58) dX6_write_58 ?_) | (refine wp_l2i (pc := 58) dX6_write_58 ?_)
          refine wp_iast (pc := 59) dX6_write_59 (by first | with_reducible assumption | rfl) (by first | with_reducible assumption | rfl) (by first | with_reducible assumption | omega) (by first | decide | omega) ?_
          refine wp_aload_n (pc := 60) (i := 0) dX6_write_60 rfl rfl (by first | with_reducible assumption | rfl) ?_
          refine wp_dup (pc := 61) dX6_write_61 rfl ?_
          refine wp_getI (pc := 62) dX6_write_62 lf_X6_60 (by first | with_reducible assumption | rfl) (by first | with_reducible assumption | rfl) rfl ?_
          rw [hL2]
          refine wp_iconst (pc := 65) (v := nI 1) dX6_write_65 (by decide +kernel) ?_
          first | (refine wp_iaddN (pc := 66) dX6_write_66 ?_) | (refine wp_iadd (pc := 66) dX6_write_66 ?_)
          refine wp_putI (pc := 67) dX6_write_67 lf_X6_60 (by first | with_reducible assumption | rfl) (by first | with_reducible assumption | rfl) rfl rfl ?_
          first | (refine wp_iincD (pc := 70) dX6_write_70 rfl (by decide) ?_) | (refine wp_iinc (pc := 70) dX6_write_70 rfl rfl (by decide) ?_)
          refine wp_goto (pc := 73) (tgt := 34) dX6_write_73 (by decide) ?_
          rw [show nI k + Int32.ofInt (-1) = zI ((k : Int) - 1) from zI_add k (-1)]
          refine ih _ _ (by omega) ?_ hnext (fun a i y1 y2 => ?_) ?_
          · rw [List.length_append, List.length_singleton]; omega
          · show (if a = 0 ∧ i = 8 then _ else (if a = 5 ∧ i = u.length then _ else I2 a i)) = I a i
            rw [if_neg y2, if_neg (fun q => y1 q.1)]
            exact hfr a i y1 y2
          · rw [← he, bys, List.append_assoc]; rfl
      have h00 := loop n t I n8 rfl hR.2.1 (fun _ _ _ _ => rfl) rfl
      refine call_of_wp (by decide) (Nat.le_of_ble_eq_true rfl) ?_
      refine wp_iload_n (pc := 0) (i := 1) dX6_write_0 rfl rfl ?_
      first | (refine wp_i2lN (pc := 1) dX6_write_1 (by first | with_reducible assumption | omega) ?_) | (refine wp_i2l (pc := 1) dX6_write_1 ?_)
      refine wp_lconst (pc := 2) (v := lN 1) dX6_write_2 (by decide +kernel) ?_
      refine wp_ldc2_w (pc := 3) (v := lN 8) dX6_write_3 kl_X6_54 ?_
      refine wp_cSP3 (pc := 6) dX6_write_6 lm_X6_56 m_X6_in (Nat.le_of_ble_eq_true rfl) sp_X6_in ?_
      rw [hin]
      refine wp_if_neB (pc := 9) (tgt := 15) dX6_write_9 (by decide) (fun c_9 => ?_) (fun c_9 => ?_)
      · refine wp_aload_n (pc := 15) (i := 0) dX6_write_15 rfl rfl (by first | with_reducible assumption | rfl) ?_
        refine wp_getI (pc := 16) dX6_write_16 lf_X6_60 (by first | with_reducible assumption | rfl) (by first | with_reducible assumption | rfl) rfl ?_
        rw [hL]
        refine wp_iload_n (pc := 19) (i := 1) dX6_write_19 rfl rfl ?_
        first | (refine wp_iaddN (pc := 20) dX6_write_20 ?_) | (refine wp_iadd (pc := 20) dX6_write_20 ?_)
        refine wp_bipush (pc := 21) (v := nI 24) dX6_write_21 (by decide +kernel) ?_
        first | (refine wp_icmp_leN (pc := 23) (tgt := 29) dX6_write_23 (by decide) (by first | with_reducible assumption | omega) (by first | with_reducible assumption | omega) (fun c_23 => ?_) (fun c_23 => ?_)) | (refine wp_icmp_le (pc := 23) (tgt := 29) dX6_write_23 (by decide) (fun c_23 => ?_) (fun c_23 => ?_))
        · refine wp_iload_n (pc := 29) (i := 1) dX6_write_29 rfl rfl ?_
          refine wp_iconst (pc := 30) (v := nI 1) dX6_write_30 (by decide +kernel) ?_
          refine wp_isub (pc := 31) dX6_write_31 ?_
          refine wp_istore (pc := 32) dX6_write_32 (by decide) ?_
          rw [show nI n - nI 1 = zI ((n : Int) - 1) from zI_sub n 1]
          exact h00
        · exact absurd (show t.length + n ≤ 24 by omega) c_23
      · exact Bool.noConfusion c_9
end MWR
