/-! A PLACE, 3: fall, make, follow, reach -/
theorem sd_i : ∀ s, s < 12 → 2 ≤ s → sdI s = nI (sd s) := by decide +kernel
theorem sd_lt (s : Nat) : sd s < 2 := by unfold sd; split <;> omega
theorem kn_b {g : Nat → Nat} {c : Nat} (hc : c < 16) : (mset (kng g)).testBit c = kng g c := mset_bit' _ hc
theorem kn_2 {g : Nat → Nat} {c : Nat} (h : kng g c = true) : 2 ≤ g c := by
  unfold kng at h
  have := of_decide_eq_true h
  omega
section PL3
variable {d : Nat} {I : MemI} {J : MemJ}
theorem wI_10' {p s : Nat} {b : Bd} (hs : s < 2) : uI (wI p b I) p 10 (nI s) = wI p (b.1, b.2.1, b.2.2.1, s) I := by
  have h := wI_10 (p := p) (b := b) (o := s) (I := I)
  unfold lsI at h
  rw [if_neg (by omega)] at h
  exact h
set_option maxHeartbeats 16000000 in
theorem sp_X2_fall {p c last : Nat} {b : Bd} (hp : isP p) (hb : PL p b I J) (hs : ∀ c, c < 16 → b.1 c < 12) (ht : ∀ c, c < 16 → b.2.1 c < 10) (hc : c < 16) (h2 : 2 ≤ b.1 c) (h0 : b.2.1 c = 0) (hl : last < 10) : CALL ΩC (d + 2) kX2_fall [.ref p, .int (nI c), .int (nI last)] I J (VQ (fun I' J' => I' = wI p (fal last b c) I ∧ J' = wJ p (fal last b c) J)) := by
  have ht' : ∀ c, c < 16 → b.2.1 c < 16 := fun c h => Nat.lt_trans (ht c h) (by decide)
  have hN := pn_lt ht'
  have e8 : I p 8 = nI (mset (kng b.1)) := hb.1 8 (by omega) (by omega)
  have hm := mset_lt (kng b.1)
  have hsc := hs c hc
  have hsd := sd_lt (b.1 c)
  have g4 : wJ p (up b.1 c 1, b.2) J p 4 = lN (pk b.2.1) := by simp [wJ, fJ]
  have g8 : wI p (up b.1 c 1, b.2) I p 8 = nI (mset (kng (up b.1 c 1))) := by simp [wI, fI]
  have x3 : last * 2 ^ (4 * c) < 18446744073709551616 := by
    have h1 : 2 ^ (4 * c) ≤ 2 ^ 60 := Nat.pow_le_pow_right (by decide) (by omega)
    have h2 : last * 2 ^ (4 * c) ≤ 9 * 2 ^ 60 := Nat.mul_le_mul (by omega) h1
    omega
  have hk : 4 * c < 64 := by omega
  have hmz := mset_lt (fun k => kng (up b.1 c 1) k && menP (up b.1 c 1) (sd (b.1 c)) k)
  have fin : ∀ (x : Bool), (if kng b.1 c = true ∧ hasK (up b.1 c 1) (sd (b.1 c)) = false then sd (b.1 c) else b.2.2.2) = b.2.2.2 → (up b.1 c 1, up b.2.1 c last, b.2.2) = fal last b c := fun _ h => by
    unfold fal; rw [h]
  refine call_of_wp (by decide) (Nat.le_of_ble_eq_true rfl) ?_
  obtain ⟨q1, q2, q3, q4, q5⟩ := isP_sh hp
  refine wp_aload_n (pc := 0) (i := 0) dX2_fall_0 rfl rfl (by first | with_reducible assumption | rfl) ?_
  refine wp_getI (pc := 1) dX2_fall_1 lf_X2_35 (by first | with_reducible assumption | rfl) (by first | with_reducible assumption | rfl) rfl ?_
  rw [e8]
  refine wp_iload_n (pc := 4) (i := 1) dX2_fall_4 rfl rfl ?_
  refine wp_cSP2 (pc := 5) dX2_fall_5 lm_X2_102 m_X5_has (Nat.le_of_ble_eq_true rfl) (sp_X5_has (by first | with_reducible assumption | omega) (by first | with_reducible assumption | omega)) ?_
  rw [kn_b hc]
  refine wp_istore_n (pc := 8) (i := 3) dX2_fall_8 rfl (by decide) ?_
  refine wp_aload_n (pc := 9) (i := 0) dX2_fall_9 rfl rfl (by first | with_reducible assumption | rfl) ?_
  refine wp_iload_n (pc := 10) (i := 1) dX2_fall_10 rfl rfl ?_
  refine wp_cVP1 (pc := 11) (ci := 2) dX2_fall_11 lm_X2_80 m_X2_sign (by first | with_reducible assumption | rfl) (by first | with_reducible assumption | rfl) (by decide) rfl (Nat.le_of_ble_eq_true rfl) (sp_X2_sign (by with_reducible assumption) (by with_reducible assumption) (by with_reducible assumption) (by first | with_reducible assumption | omega)) ?_
  refine wp_cSP1 (pc := 14) dX2_fall_14 lm_X2_60 m_X5_sideOf (Nat.le_of_ble_eq_true rfl) (sp_X5_sideOf (by first | with_reducible assumption | omega)) ?_
  rw [sd_i _ hsc h2]
  refine wp_istore (pc := 17) dX2_fall_17 (by decide) ?_
  refine wp_aload_n (pc := 19) (i := 0) dX2_fall_19 rfl rfl (by first | with_reducible assumption | rfl) ?_
  refine wp_iload_n (pc := 20) (i := 1) dX2_fall_20 rfl rfl ?_
  refine wp_iconst (pc := 21) (v := nI 1) dX2_fall_21 (by decide +kernel) ?_
  refine wp_cVV2 (pc := 22) (ci := 2) dX2_fall_22 lm_X2_56 m_X2_put (by first | with_reducible assumption | rfl) (by first | with_reducible assumption | rfl) (by decide) rfl (Nat.le_of_ble_eq_true rfl) (sp_X2_put (s := 1) hp hb hs hc (by decide)) (fun I_22 J_22 h_22 => ?_)
  obtain ⟨rfl, rfl⟩ := h_22
  refine wp_aload_n (pc := 25) (i := 0) dX2_fall_25 rfl rfl (by first | with_reducible assumption | rfl) ?_
  refine wp_dup (pc := 26) dX2_fall_26 rfl ?_
  refine wp_getJ (pc := 27) dX2_fall_27 lf_X2_23 (by first | with_reducible assumption | rfl) (by first | with_reducible assumption | rfl) rfl ?_
  rw [g4]
  refine wp_iload_n (pc := 30) (i := 2) dX2_fall_30 rfl rfl ?_
  first | (refine wp_i2lN (pc := 31) dX2_fall_31 (by first | with_reducible assumption | omega) ?_) | (refine wp_i2l (pc := 31) dX2_fall_31 ?_)
  refine wp_iconst (pc := 32) (v := nI 4) dX2_fall_32 (by decide +kernel) ?_
  refine wp_iload_n (pc := 33) (i := 1) dX2_fall_33 rfl rfl ?_
  first | (refine wp_imulN (pc := 34) dX2_fall_34 ?_) | (refine wp_imul (pc := 34) dX2_fall_34 ?_)
  first | (refine wp_lshlN (pc := 35) dX2_fall_35 (by first | with_reducible assumption | omega) ?_) | (refine wp_lshl (pc := 35) dX2_fall_35 ?_)
  first | (refine wp_lorN (pc := 36) dX2_fall_36 (by first | with_reducible assumption | omega) (by first | with_reducible assumption | omega) ?_) | (refine wp_lor (pc := 36) dX2_fall_36 ?_)
  rw [pn_or0 ht' hc (by omega) h0]
  refine wp_putJ (pc := 37) dX2_fall_37 lf_X2_23 (by first | with_reducible assumption | rfl) (by first | with_reducible assumption | rfl) rfl rfl ?_
  rw [wJ_4]
  show WP ΩC _ _ _ _ _ (wI p (up b.1 c 1, b.2) I) (wJ p (up b.1 c 1, up b.2.1 c last, b.2.2) J) _
  rw [show wI p (up b.1 c 1, b.2) I = wI p (up b.1 c 1, up b.2.1 c last, b.2.2) I from wI_cong (fun _ _ => rfl) rfl]
  refine wp_iload_n (pc := 40) (i := 3) dX2_fall_40 rfl rfl ?_
  refine wp_if_eqB (pc := 41) (tgt := 64) dX2_fall_41 (by decide) (fun c_41 => ?_) (fun c_41 => ?_)
  · refine wp_return (pc := 64) dX2_fall_64 rfl ?_
    first
      | (have g1 : kng b.1 c = false := c_41
         have e := fin true (if_neg (fun z => by rw [g1] at z; exact absurd z.1 (by decide)))
         exact vq_i ⟨by rw [← e], by rw [← e]⟩)
      | (have g2 : ¬ mset (fun k => kng (up b.1 c 1) k && menP (up b.1 c 1) (sd (b.1 c)) k) = 0 := c_55
         have e := fin true (if_neg (fun z => by
           have := z.2
           unfold hasK at this
           exact (of_decide_eq_false this) g2))
         exact vq_i ⟨by rw [← e], by rw [← e]⟩)
      | (have g3 : mset (fun k => kng (up b.1 c 1) k && menP (up b.1 c 1) (sd (b.1 c)) k) = 0 := c_55
         have e : (if kng b.1 c = true ∧ hasK (up b.1 c 1) (sd (b.1 c)) = false then sd (b.1 c) else b.2.2.2) = sd (b.1 c) := if_pos ⟨c_41, by unfold hasK; exact decide_eq_false (fun z => z g3)⟩
         refine vq_i ⟨?_, ?_⟩
         · unfold fal; rw [e]
         · exact wJ_cong (fun _ _ => rfl) (fun _ _ => rfl))
  · refine wp_aload_n (pc := 44) (i := 0) dX2_fall_44 rfl rfl (by first | with_reducible assumption | rfl) ?_
    refine wp_getI (pc := 45) dX2_fall_45 lf_X2_35 (by first | with_reducible assumption | rfl) (by first | with_reducible assumption | rfl) rfl ?_
    rw [show wI p (up b.1 c 1, up b.2.1 c last, b.2.2) I p 8 = nI (mset (kng (up b.1 c 1))) by simp [wI, fI]]
    refine wp_aload_n (pc := 48) (i := 0) dX2_fall_48 rfl rfl (by first | with_reducible assumption | rfl) ?_
    refine wp_iload (pc := 49) dX2_fall_49 rfl ?_
    refine wp_cVP1 (pc := 51) (ci := 2) dX2_fall_51 lm_X2_96 m_X2_men (by first | with_reducible assumption | rfl) (by first | with_reducible assumption | rfl) (by decide) rfl (Nat.le_of_ble_eq_true rfl) (sp_X2_men (b := (up b.1 c 1, up b.2.1 c last, b.2.2)) hp PL_w hsd) ?_
    first | (refine wp_iandN (pc := 54) dX2_fall_54 ?_) | (refine wp_iand (pc := 54) dX2_fall_54 ?_)
    rw [mset_and]
    show WP ΩC _ _ _ _ (.int (nI (mset (fun k => kng (up b.1 c 1) k && menP (up b.1 c 1) (sd (b.1 c)) k))) :: _) _ _ _
    refine wp_if_neN (pc := 55) (tgt := 64) dX2_fall_55 (by decide) (by first | with_reducible assumption | omega) (fun c_55 => ?_) (fun c_55 => ?_)
    · refine wp_return (pc := 64) dX2_fall_64 rfl ?_
      first
        | (have g1 : kng b.1 c = false := c_41
           have e := fin true (if_neg (fun z => by rw [g1] at z; exact absurd z.1 (by decide)))
           exact vq_i ⟨by rw [← e], by rw [← e]⟩)
        | (have g2 : ¬ mset (fun k => kng (up b.1 c 1) k && menP (up b.1 c 1) (sd (b.1 c)) k) = 0 := c_55
           have e := fin true (if_neg (fun z => by
             have := z.2
             unfold hasK at this
             exact (of_decide_eq_false this) g2))
           exact vq_i ⟨by rw [← e], by rw [← e]⟩)
        | (have g3 : mset (fun k => kng (up b.1 c 1) k && menP (up b.1 c 1) (sd (b.1 c)) k) = 0 := c_55
           have e : (if kng b.1 c = true ∧ hasK (up b.1 c 1) (sd (b.1 c)) = false then sd (b.1 c) else b.2.2.2) = sd (b.1 c) := if_pos ⟨c_41, by unfold hasK; exact decide_eq_false (fun z => z g3)⟩
           refine vq_i ⟨?_, ?_⟩
           · unfold fal; rw [e]
           · exact wJ_cong (fun _ _ => rfl) (fun _ _ => rfl))
    · refine wp_aload_n (pc := 58) (i := 0) dX2_fall_58 rfl rfl (by first | with_reducible assumption | rfl) ?_
      refine wp_iload (pc := 59) dX2_fall_59 rfl ?_
      refine wp_putI (pc := 61) dX2_fall_61 lf_X2_41 (by first | with_reducible assumption | rfl) (by first | with_reducible assumption | rfl) rfl rfl ?_
      rw [wI_10' hsd]
      refine wp_return (pc := 64) dX2_fall_64 rfl ?_
      first
        | (have g1 : kng b.1 c = false := c_41
           have e := fin true (if_neg (fun z => by rw [g1] at z; exact absurd z.1 (by decide)))
           exact vq_i ⟨by rw [← e], by rw [← e]⟩)
        | (have g2 : ¬ mset (fun k => kng (up b.1 c 1) k && menP (up b.1 c 1) (sd (b.1 c)) k) = 0 := c_55
           have e := fin true (if_neg (fun z => by
             have := z.2
             unfold hasK at this
             exact (of_decide_eq_false this) g2))
           exact vq_i ⟨by rw [← e], by rw [← e]⟩)
        | (have g3 : mset (fun k => kng (up b.1 c 1) k && menP (up b.1 c 1) (sd (b.1 c)) k) = 0 := c_55
           have e : (if kng b.1 c = true ∧ hasK (up b.1 c 1) (sd (b.1 c)) = false then sd (b.1 c) else b.2.2.2) = sd (b.1 c) := if_pos ⟨c_41, by unfold hasK; exact decide_eq_false (fun z => z g3)⟩
           refine vq_i ⟨?_, ?_⟩
           · unfold fal; rw [e]
           · exact wJ_cong (fun _ _ => rfl) (fun _ _ => rfl))
/-- where the man on c can go or take -/
def reaP (w h : Nat) (g : Nat → Nat) (c t : Nat) : Bool := if g c < 2 then false else (gngP w h (g c) (aimP w h (g c) (ful g) c) c t && !ful g t) || (aimP w h (g c) (ful g) c t && menP g (1 - sd (g c)) t)
set_option maxHeartbeats 16000000 in
theorem sp_X2_reach {p c w h last : Nat} {b : Bd} (hp : isP p) (hF : Fld w h last I) (hb : PL p b I J) (hs : ∀ c, c < 16 → b.1 c < 12) (hc : c < w * h) : CALL ΩC (d + 3) kX2_reach [.ref p, .ref 3, .int (nI c)] I J (PQ (.int (nI (mset (reaP w h b.1 c)))) I J) := by
  have h16 : c < 16 := Nat.lt_of_lt_of_le hc (wh16 hF.1.2.1 hF.1.2.2.2)
  have hsc := hs c h16
  have hsd := sd_lt (b.1 c)
  refine call_of_wp (by decide) (Nat.le_of_ble_eq_true rfl) ?_
  obtain ⟨q1, q2, q3, q4, q5⟩ := isP_sh hp
  by_cases h2 : b.1 c < 2
  · have e9 : sdI (b.1 c) = -9 := by unfold sdI; rw [if_pos h2]
    refine wp_aload_n (pc := 0) (i := 0) dX2_reach_0 rfl rfl (by first | with_reducible assumption | rfl) ?_
    refine wp_iload_n (pc := 1) (i := 2) dX2_reach_1 rfl rfl ?_
    refine wp_cVP1 (pc := 2) (ci := 2) dX2_reach_2 lm_X2_80 m_X2_sign (by first | with_reducible assumption | rfl) (by first | with_reducible assumption | rfl) (by decide) rfl (Nat.le_of_ble_eq_true rfl) (sp_X2_sign (by with_reducible assumption) (by with_reducible assumption) (by with_reducible assumption) (by first | with_reducible assumption | omega)) ?_
    refine wp_istore_n (pc := 5) (i := 3) dX2_reach_5 rfl (by decide) ?_
    refine wp_iload_n (pc := 6) (i := 3) dX2_reach_6 rfl rfl ?_
    refine wp_cSP1 (pc := 7) dX2_reach_7 lm_X2_60 m_X5_sideOf (Nat.le_of_ble_eq_true rfl) (sp_X5_sideOf (by first | with_reducible assumption | omega)) ?_
    rw [e9]
    refine wp_istore (pc := 10) dX2_reach_10 (by decide) ?_
    refine wp_iload (pc := 12) dX2_reach_12 rfl ?_
    refine wp_bipush (pc := 14) (v := (-9)) dX2_reach_14 (by decide +kernel) ?_
    refine wp_icmp_ne (pc := 16) (tgt := 21) dX2_reach_16 (by decide) (fun c_16 => ?_) (fun c_16 => ?_)
    · exact absurd rfl c_16
    · refine wp_iconst (pc := 19) (v := nI 0) dX2_reach_19 (by decide +kernel) ?_
      refine wp_ireturn (pc := 20) dX2_reach_20 rfl ?_
      exact pq_i (congrArg nI (mset_zero.mpr (fun t _ => by unfold reaP; rw [if_pos h2])).symm)
  · have e9 : sdI (b.1 c) = nI (sd (b.1 c)) := sd_i _ hsc (by omega)
    have hne : ¬ nI (sd (b.1 c)) = -9 := fun z => nI_pos (n := sd (b.1 c)) (by omega) (by rw [z]; decide)
    refine wp_aload_n (pc := 0) (i := 0) dX2_reach_0 rfl rfl (by first | with_reducible assumption | rfl) ?_
    refine wp_iload_n (pc := 1) (i := 2) dX2_reach_1 rfl rfl ?_
    refine wp_cVP1 (pc := 2) (ci := 2) dX2_reach_2 lm_X2_80 m_X2_sign (by first | with_reducible assumption | rfl) (by first | with_reducible assumption | rfl) (by decide) rfl (Nat.le_of_ble_eq_true rfl) (sp_X2_sign (by with_reducible assumption) (by with_reducible assumption) (by with_reducible assumption) (by first | with_reducible assumption | omega)) ?_
    refine wp_istore_n (pc := 5) (i := 3) dX2_reach_5 rfl (by decide) ?_
    refine wp_iload_n (pc := 6) (i := 3) dX2_reach_6 rfl rfl ?_
    refine wp_cSP1 (pc := 7) dX2_reach_7 lm_X2_60 m_X5_sideOf (Nat.le_of_ble_eq_true rfl) (sp_X5_sideOf (by first | with_reducible assumption | omega)) ?_
    rw [e9]
    refine wp_istore (pc := 10) dX2_reach_10 (by decide) ?_
    refine wp_iload (pc := 12) dX2_reach_12 rfl ?_
    refine wp_bipush (pc := 14) (v := (-9)) dX2_reach_14 (by decide +kernel) ?_
    refine wp_icmp_ne (pc := 16) (tgt := 21) dX2_reach_16 (by decide) (fun c_16 => ?_) (fun c_16 => ?_)
    · refine wp_aload_n (pc := 21) (i := 0) dX2_reach_21 rfl rfl (by first | with_reducible assumption | rfl) ?_
      refine wp_cVP0 (pc := 22) (ci := 2) dX2_reach_22 lm_X2_83 m_X2_full (by first | with_reducible assumption | rfl) (by first | with_reducible assumption | rfl) (by decide) rfl (Nat.le_of_ble_eq_true rfl) (sp_X2_full (by with_reducible assumption) (by with_reducible assumption)) ?_
      refine wp_istore (pc := 25) dX2_reach_25 (by decide) ?_
      refine wp_aload_n (pc := 27) (i := 1) dX2_reach_27 rfl rfl (by first | with_reducible assumption | rfl) ?_
      refine wp_iload_n (pc := 28) (i := 3) dX2_reach_28 rfl rfl ?_
      refine wp_iload_n (pc := 29) (i := 2) dX2_reach_29 rfl rfl ?_
      refine wp_iload (pc := 30) dX2_reach_30 rfl ?_
      refine wp_cVP3 (pc := 32) (ci := 0) dX2_reach_32 lm_X2_87 m_X0_aimed (by first | with_reducible assumption | rfl) (by first | with_reducible assumption | rfl) (by decide) rfl (Nat.le_of_ble_eq_true rfl) (sp_X0_aimed (by with_reducible assumption) (by first | with_reducible assumption | omega) (by first | with_reducible assumption | omega)) ?_
      refine wp_istore (pc := 35) dX2_reach_35 (by decide) ?_
      refine wp_aload_n (pc := 37) (i := 1) dX2_reach_37 rfl rfl (by first | with_reducible assumption | rfl) ?_
      refine wp_iload_n (pc := 38) (i := 3) dX2_reach_38 rfl rfl ?_
      refine wp_iload_n (pc := 39) (i := 2) dX2_reach_39 rfl rfl ?_
      refine wp_iload (pc := 40) dX2_reach_40 rfl ?_
      refine wp_cVP3 (pc := 42) (ci := 0) dX2_reach_42 lm_X2_93 m_X0_going (by first | with_reducible assumption | rfl) (by first | with_reducible assumption | rfl) (by decide) rfl (Nat.le_of_ble_eq_true rfl) (sp_X0_going (by with_reducible assumption) (by first | with_reducible assumption | omega) (by first | with_reducible assumption | omega)) ?_
      refine wp_iload (pc := 45) dX2_reach_45 rfl ?_
      refine wp_iconst (pc := 47) (v := (-1)) dX2_reach_47 (by decide +kernel) ?_
      refine wp_ixor (pc := 48) dX2_reach_48 ?_
      refine wp_iand (pc := 49) dX2_reach_49 ?_
      rw [mset_minus]
      refine wp_iload (pc := 50) dX2_reach_50 rfl ?_
      refine wp_aload_n (pc := 52) (i := 0) dX2_reach_52 rfl rfl (by first | with_reducible assumption | rfl) ?_
      refine wp_iconst (pc := 53) (v := nI 1) dX2_reach_53 (by decide +kernel) ?_
      refine wp_iload (pc := 54) dX2_reach_54 rfl ?_
      first | (refine wp_isubN (pc := 56) dX2_reach_56 (by first | with_reducible assumption | omega) ?_) | (refine wp_isub (pc := 56) dX2_reach_56 ?_)
      refine wp_cVP1 (pc := 57) (ci := 2) dX2_reach_57 lm_X2_96 m_X2_men (by first | with_reducible assumption | rfl) (by first | with_reducible assumption | rfl) (by decide) rfl (Nat.le_of_ble_eq_true rfl) (sp_X2_men (by with_reducible assumption) (by with_reducible assumption) (by first | with_reducible assumption | omega)) ?_
      first | (refine wp_iandN (pc := 60) dX2_reach_60 ?_) | (refine wp_iand (pc := 60) dX2_reach_60 ?_)
      rw [mset_and]
      first | (refine wp_iorN (pc := 61) dX2_reach_61 ?_) | (refine wp_ior (pc := 61) dX2_reach_61 ?_)
      rw [mset_or]
      refine wp_ireturn (pc := 62) dX2_reach_62 rfl ?_
      exact pq_i (congrArg nI (mset_eq fun t _ => by unfold reaP; rw [if_neg h2]))
    · exact absurd c_16 hne
end PL3
