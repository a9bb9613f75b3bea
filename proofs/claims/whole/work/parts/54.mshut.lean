/-! THE REFERENCE'S CALLS, 11: comesAt, shut -/
/-- whether the man on c can come at the one on o -/
noncomputable def ccP (w h : Nat) (g : Nat → Nat) (c o k : Nat) : Bool := comP w h (g c) (ded g) c k && decide (¬ mset (fun t => aimP w h (g c) (ded g) k t && comP w h (g o) (ded g) o t) = 0)
noncomputable def ccM (w h : Nat) (g : Nat → Nat) (c o : Nat) : Bool := anK (ccP w h g c o) (w * h)
def foe (g : Nat → Nat) (c o : Nat) : Bool := decide (2 ≤ g c) && menP g (1 - sd (g c)) o
theorem mset_ex {P : Nat → Bool} : ¬ mset P = 0 ↔ ∃ t, t < 16 ∧ P t = true := by
  constructor
  · intro h
    rcases Classical.em (∃ t, t < 16 ∧ P t = true) with y | y
    · exact y
    · refine absurd (mset_zero.mpr (fun t ht => ?_)) h
      cases hp : P t
      · rfl
      · exact absurd ⟨t, ht, hp⟩ y
  · rintro ⟨t, ht, hp⟩ h
    have := mset_zero.mp h t ht
    rw [hp] at this; cases this
theorem ccB_iff {w h : Nat} {g : Nat → Nat} {A B : Nat → Bool} : ccB w h g A B = true ↔ ∃ c o, c < w * h ∧ o < w * h ∧ A c = true ∧ B o = true ∧ ccM w h g c o = true := by
  unfold ccB
  rw [decide_eq_true_iff, mset_ex]
  constructor
  · rintro ⟨t, ht, hx⟩
    rw [Bool.and_eq_true, anK_iff, anK_iff] at hx
    obtain ⟨⟨c, hc, h1⟩, o, ho, h2⟩ := hx
    rw [Bool.and_eq_true] at h1 h2
    obtain ⟨k, hk, h3⟩ := (anK_iff _).mp (show anK (fun k => comP w h (g c) (ded g) c k && aimP w h (g c) (ded g) k t) (w * h) = true from h1.2)
    rw [Bool.and_eq_true] at h3
    refine ⟨c, o, hc, ho, h1.1, h2.1, (anK_iff _).mpr ⟨k, hk, ?_⟩⟩
    unfold ccP
    rw [Bool.and_eq_true, decide_eq_true_iff, mset_ex]
    exact ⟨h3.1, t, ht, by rw [h3.2, h2.2]; rfl⟩
  · rintro ⟨c, o, hc, ho, h1, h2, h3⟩
    obtain ⟨k, hk, h4⟩ := (anK_iff _).mp h3
    unfold ccP at h4
    rw [Bool.and_eq_true, decide_eq_true_iff, mset_ex] at h4
    obtain ⟨h5, t, ht, h6⟩ := h4
    rw [Bool.and_eq_true] at h6
    refine ⟨t, ht, ?_⟩
    rw [Bool.and_eq_true, anK_iff, anK_iff]
    refine ⟨⟨c, hc, ?_⟩, o, ho, ?_⟩
    · rw [Bool.and_eq_true]
      refine ⟨h1, (anK_iff _).mpr ⟨k, hk, ?_⟩⟩
      rw [Bool.and_eq_true]; exact ⟨h5, h6.1⟩
    · rw [Bool.and_eq_true]; exact ⟨h2, h6.2⟩
theorem ccB_one {w h c o : Nat} {g : Nat → Nat} (hc : c < w * h) (ho : o < w * h) : ccB w h g (fun i => decide (i = c)) (fun i => decide (i = o)) = ccM w h g c o := by
  rw [Bool.eq_iff_iff, ccB_iff]
  constructor
  · rintro ⟨c', o', -, -, h1, h2, h3⟩
    have e1 := of_decide_eq_true h1
    have e2 := of_decide_eq_true h2
    rw [e1, e2] at h3; exact h3
  · intro h3
    exact ⟨c, o, hc, ho, decide_eq_true rfl, decide_eq_true rfl, h3⟩
theorem shut_iff {w h : Nat} {g : Nat → Nat} : (ccB w h g (wht g) (blk g) || ccB w h g (blk g) (wht g)) = anK (fun c => anK (fun o => foe g c o && ccM w h g c o) (w * h)) (w * h) := by
  rw [Bool.eq_iff_iff, Bool.or_eq_true, ccB_iff, ccB_iff, anK_iff]
  constructor
  · rintro (⟨c, o, hc, ho, h1, h2, h3⟩ | ⟨c, o, hc, ho, h1, h2, h3⟩)
    · refine ⟨c, hc, (anK_iff _).mpr ⟨o, ho, ?_⟩⟩
      have := of_decide_eq_true h1
      have hs : sd (g c) = 0 := by unfold sd; rw [if_pos this.2]
      have hf : foe g c o = true := by
        unfold foe
        rw [hs, decide_eq_true this.1]
        exact h2
      rw [hf, h3]; rfl
    · refine ⟨c, hc, (anK_iff _).mpr ⟨o, ho, ?_⟩⟩
      have := of_decide_eq_true h1
      have hs : sd (g c) = 1 := by unfold sd; rw [if_neg (by omega)]
      have hf : foe g c o = true := by
        unfold foe
        rw [hs, decide_eq_true (show 2 ≤ g c by omega)]
        exact h2
      rw [hf, h3]; rfl
  · rintro ⟨c, hc, h1⟩
    obtain ⟨o, ho, h2⟩ := (anK_iff _).mp h1
    rw [Bool.and_eq_true] at h2
    have h3 := h2.1
    unfold foe at h3
    rw [Bool.and_eq_true] at h3
    have h4 := of_decide_eq_true h3.1
    by_cases h7 : g c < 7
    · have hs : sd (g c) = 0 := by unfold sd; rw [if_pos h7]
      rw [hs] at h3
      exact Or.inl ⟨c, o, hc, ho, decide_eq_true ⟨h4, h7⟩, h3.2, h2.2⟩
    · have hs : sd (g c) = 1 := by unfold sd; rw [if_neg h7]
      rw [hs] at h3
      exact Or.inr ⟨c, o, hc, ho, decide_eq_true (by omega), h3.2, h2.2⟩
section MSH
variable {d : Nat} {I : MemI} {J : MemJ} {t : List Nat} {w h last : Nat} {b : Bd} {ps : List Bd} {f : Nat → Option Bd} {z : Int64}
set_option maxHeartbeats 16000000 in
theorem sp_X6_areFoes {c o : Nat} (hR : RepM t w h last b ps f z I J) (hc : c < w * h) (ho : o < w * h) : CALL ΩM (d + 1) kX6_areFoes [.ref 0, .int (nI c), .int (nI o)] I J (PQ (.int (bI (foe b.1 c o))) I J) := by
  have hV := RepM_V hR
  have hB := hR.2.2.2.1.2
  have n16 := (RepM_16 hR).2
  have ec := (hV.1 c hc).1
  have eo := (hV.1 o ho).1
  rw [Nat.mul_zero, Nat.zero_add] at ec eo
  have hsc := hB.1 c (by omega)
  have hso := hB.1 o (by omega)
  have hac := asc_lt (b.1 c)
  have hao := asc_lt (b.1 o)
  have hsf := sp_X6_sideOf (Ω := ΩM) (d := d) (I := I) (J := J) (b := asc (b.1 c)) (by omega)
  have hsg := sp_X6_sideOf (Ω := ΩM) (d := d) (I := I) (J := J) (b := asc (b.1 o)) (by omega)
  rw [sdB_asc _ hsc] at hsf
  rw [sdB_asc _ hso] at hsg
  have hsd := sd_lt (b.1 c)
  by_cases h2 : b.1 c < 2
  · have e9 : sdI (b.1 c) = -9 := by unfold sdI; rw [if_pos h2]
    have ef : foe b.1 c o = false := by unfold foe; rw [decide_eq_false (by omega)]; rfl
    rw [e9] at hsf
    rw [ef]
    refine call_of_wp (by decide) (Nat.le_of_ble_eq_true rfl) ?_
    refine wp_aload_n (pc := 0) (i := 0) dX6_areFoes_0 rfl rfl (by first | with_reducible assumption | rfl) ?_
    refine wp_getR (pc := 1) dX6_areFoes_1 lf_X6_7 (by first | with_reducible assumption | rfl) (by first | with_reducible assumption | rfl) rfl (by first | with_reducible assumption | rfl) (by first | with_reducible assumption | rfl) ?_
    refine wp_iload_n (pc := 4) (i := 1) dX6_areFoes_4 rfl rfl ?_
    refine wp_iald (pc := 5) dX6_areFoes_5 (by first | with_reducible assumption | rfl) (by first | with_reducible assumption | rfl) (by first | with_reducible assumption | omega) (by first | decide | omega) ?_
    rw [ec]
    refine wp_cSP1 (pc := 6) dX6_areFoes_6 lm_X6_65 m_X6_sideOf (Nat.le_of_ble_eq_true rfl) hsf ?_
    refine wp_istore_n (pc := 9) (i := 3) dX6_areFoes_9 rfl (by decide) ?_
    refine wp_iload_n (pc := 10) (i := 3) dX6_areFoes_10 rfl rfl ?_
    refine wp_bipush (pc := 11) (v := (-9)) dX6_areFoes_11 (by decide +kernel) ?_
    refine wp_icmp_eq (pc := 13) (tgt := 35) dX6_areFoes_13 (by decide) (fun c_13 => ?_) (fun c_13 => ?_)
    · refine wp_iconst (pc := 35) (v := nI 0) dX6_areFoes_35 (by decide +kernel) ?_
      refine wp_zreturn (pc := 36) dX6_areFoes_36 rfl (by first | exact bI_narrow _ | exact nI_narrow01 (by omega) | decide +kernel | assumption) ?_
      exact pq_i rfl
    · exact absurd rfl c_13
  · have e9 : sdI (b.1 c) = nI (sd (b.1 c)) := sd_i _ hsc (by omega)
    have hne : ¬ nI (sd (b.1 c)) = -9 := nine_ne hsd
    have hms := menP_sd (g := b.1) (s := 1 - sd (b.1 c)) (t := o) (by omega) hso
    have ef : foe b.1 c o = menP b.1 (1 - sd (b.1 c)) o := by unfold foe; rw [decide_eq_true (by omega), Bool.true_and]
    rw [e9] at hsf
    rw [ef]
    refine call_of_wp (by decide) (Nat.le_of_ble_eq_true rfl) ?_
    refine wp_aload_n (pc := 0) (i := 0) dX6_areFoes_0 rfl rfl (by first | with_reducible assumption | rfl) ?_
    refine wp_getR (pc := 1) dX6_areFoes_1 lf_X6_7 (by first | with_reducible assumption | rfl) (by first | with_reducible assumption | rfl) rfl (by first | with_reducible assumption | rfl) (by first | with_reducible assumption | rfl) ?_
    refine wp_iload_n (pc := 4) (i := 1) dX6_areFoes_4 rfl rfl ?_
    refine wp_iald (pc := 5) dX6_areFoes_5 (by first | with_reducible assumption | rfl) (by first | with_reducible assumption | rfl) (by first | with_reducible assumption | omega) (by first | decide | omega) ?_
    rw [ec]
    refine wp_cSP1 (pc := 6) dX6_areFoes_6 lm_X6_65 m_X6_sideOf (Nat.le_of_ble_eq_true rfl) hsf ?_
    refine wp_istore_n (pc := 9) (i := 3) dX6_areFoes_9 rfl (by decide) ?_
    refine wp_iload_n (pc := 10) (i := 3) dX6_areFoes_10 rfl rfl ?_
    refine wp_bipush (pc := 11) (v := (-9)) dX6_areFoes_11 (by decide +kernel) ?_
    refine wp_icmp_eq (pc := 13) (tgt := 35) dX6_areFoes_13 (by decide) (fun c_13 => ?_) (fun c_13 => ?_)
    · exact absurd c_13 hne
    · refine wp_aload_n (pc := 16) (i := 0) dX6_areFoes_16 rfl rfl (by first | with_reducible assumption | rfl) ?_
      refine wp_getR (pc := 17) dX6_areFoes_17 lf_X6_7 (by first | with_reducible assumption | rfl) (by first | with_reducible assumption | rfl) rfl (by first | with_reducible assumption | rfl) (by first | with_reducible assumption | rfl) ?_
      refine wp_iload_n (pc := 20) (i := 2) dX6_areFoes_20 rfl rfl ?_
      refine wp_iald (pc := 21) dX6_areFoes_21 (by first | with_reducible assumption | rfl) (by first | with_reducible assumption | rfl) (by first | with_reducible assumption | omega) (by first | decide | omega) ?_
      rw [eo]
      refine wp_cSP1 (pc := 22) dX6_areFoes_22 lm_X6_65 m_X6_sideOf (Nat.le_of_ble_eq_true rfl) hsg ?_
      refine wp_iconst (pc := 25) (v := nI 1) dX6_areFoes_25 (by decide +kernel) ?_
      refine wp_iload_n (pc := 26) (i := 3) dX6_areFoes_26 rfl rfl ?_
      first | (refine wp_isubN (pc := 27) dX6_areFoes_27 (by first | with_reducible assumption | omega) ?_) | (refine wp_isub (pc := 27) dX6_areFoes_27 ?_)
      refine wp_icmp_ne (pc := 28) (tgt := 35) dX6_areFoes_28 (by decide) (fun c_28 => ?_) (fun c_28 => ?_)
      · refine wp_iconst (pc := 35) (v := nI 0) dX6_areFoes_35 (by decide +kernel) ?_
        refine wp_zreturn (pc := 36) dX6_areFoes_36 rfl (by first | exact bI_narrow _ | exact nI_narrow01 (by omega) | decide +kernel | assumption) ?_
        first | (have g := hms.mp c_28; exact pq_i (by rw [g]; rfl)) | (have g : ¬ _ = _ := c_28; exact pq_i (by rw [show menP b.1 (1 - sd (b.1 c)) o = false from Bool.eq_false_iff.mpr (fun y => g (hms.mpr y))]; rfl))
      · refine wp_iconst (pc := 31) (v := nI 1) dX6_areFoes_31 (by decide +kernel) ?_
        refine wp_goto (pc := 32) (tgt := 36) dX6_areFoes_32 (by decide) ?_
        refine wp_zreturn (pc := 36) dX6_areFoes_36 rfl (by first | exact bI_narrow _ | exact nI_narrow01 (by omega) | decide +kernel | assumption) ?_
        first | (have g := hms.mp c_28; exact pq_i (by rw [g]; rfl)) | (have g : ¬ _ = _ := c_28; exact pq_i (by rw [show menP b.1 (1 - sd (b.1 c)) o = false from Bool.eq_false_iff.mpr (fun y => g (hms.mpr y))]; rfl))
set_option maxHeartbeats 16000000 in
theorem sp_X6_canComeAt {c o : Nat} (hR : RepM t w h last b ps f z I J) (hc : c < w * h) (ho : o < w * h) (hf : foe b.1 c o = true) : CALL ΩM (d + 6) kX6_canComeAt [.ref 0, .int (nI c), .int (nI o)] I J (PQ (.int (bI (ccM w h b.1 c o))) I J) := by
  have hW := hR.2.2.1.1
  have hV := RepM_V hR
  have hB := hR.2.2.2.1.2
  have n16 := (WH_n hW).2
  have e0 := hW.2.1
  have e1 := hW.2.2
  have ec := (hV.1 c hc).1
  rw [Nat.mul_zero, Nat.zero_add] at ec
  have hsc := hB.1 c (by omega)
  unfold foe at hf
  rw [Bool.and_eq_true] at hf
  have h2 := of_decide_eq_true hf.1
  have h2o := menP_2 hf.2
  have hc1 := sp_X6_comesTo (d := d) hR hc h2
  have hc2 := sp_X6_comesTo (d := d) hR ho h2o
  have hpl := mset_lt (comP w h (b.1 c) (ded b.1) c)
  have loop : ∀ m a, m + a = w * h → WP ΩM (d + 6) kX6_canComeAt 19 [(0, .ref 0), (1, .int (nI c)), (2, .int (nI o)), (3, .int (nI (mset (comP w h (b.1 c) (ded b.1) c)))), (4, .int (nI (mset (comP w h (b.1 o) (ded b.1) o)))), (5, .int (bI (anK (ccP w h b.1 c o) a))), (6, .int (nI a))] [] I J (PQ (.int (bI (ccM w h b.1 c o))) I J) := by
    intro m
    induction m with
    | zero =>
      intro a ha
      have ha' : a = w * h := (Nat.zero_add a).symm.trans ha
      rw [ha']
      refine wp_iload (pc := 19) dX6_canComeAt_19 rfl ?_
      refine wp_aload_n (pc := 21) (i := 0) dX6_canComeAt_21 rfl rfl (by first | with_reducible assumption | rfl) ?_
      refine wp_getI (pc := 22) dX6_canComeAt_22 lf_X6_47 (by first | with_reducible assumption | rfl) (by first | with_reducible assumption | rfl) rfl ?_
      rw [e0]
      refine wp_aload_n (pc := 25) (i := 0) dX6_canComeAt_25 rfl rfl (by first | with_reducible assumption | rfl) ?_
      refine wp_getI (pc := 26) dX6_canComeAt_26 lf_X6_51 (by first | with_reducible assumption | rfl) (by first | with_reducible assumption | rfl) rfl ?_
      rw [e1]
      first | (refine wp_imulN (pc := 29) dX6_canComeAt_29 ?_) | (refine wp_imul (pc := 29) dX6_canComeAt_29 ?_)
      first | (refine wp_icmp_geN (pc := 30) (tgt := 81) dX6_canComeAt_30 (by decide) (by first | with_reducible assumption | omega) (by first | with_reducible assumption | omega) (fun c_30 => ?_) (fun c_30 => ?_)) | (refine wp_icmp_ge (pc := 30) (tgt := 81) dX6_canComeAt_30 (by decide) (fun c_30 => ?_) (fun c_30 => ?_))
      · refine wp_iload (pc := 81) dX6_canComeAt_81 rfl ?_
        refine wp_zreturn (pc := 83) dX6_canComeAt_83 rfl (by first | exact bI_narrow _ | exact nI_narrow01 (by omega) | decide +kernel | assumption) ?_
        exact pq_i rfl
      · exact absurd (Nat.le_refl _) c_30
    | succ m ih =>
      intro a ha
      have han : a < w * h := by omega
      have hbit : mset (comP w h (b.1 c) (ded b.1) c) / 2 ^ a &&& 1 = (comP w h (b.1 c) (ded b.1) c a).toNat := by rw [bit_1, mset_bit' _ (by omega)]
      have hai := sp_X6_aimsOf (d := d + 2) (J := J) (nb := true) hW hV hB.1 (show 0 < 4 by decide) han h2 hsc
      rw [nfr_t] at hai
      have hml := mset_lt (fun t => aimP w h (b.1 c) (ded b.1) a t && comP w h (b.1 o) (ded b.1) o t)
      have h0 := ih (a + 1) (by omega)
      rw [anK_s] at h0
      clear ih
      cases hv : anK (ccP w h b.1 c o) a
      · rw [hv, Bool.false_or] at h0
        cases hk : comP w h (b.1 c) (ded b.1) c a
        · rw [hk] at hbit
          rw [show ccP w h b.1 c o a = false from by unfold ccP; rw [hk]; rfl, bI_f] at h0
          refine wp_iload (pc := 19) dX6_canComeAt_19 rfl ?_
          refine wp_aload_n (pc := 21) (i := 0) dX6_canComeAt_21 rfl rfl (by first | with_reducible assumption | rfl) ?_
          refine wp_getI (pc := 22) dX6_canComeAt_22 lf_X6_47 (by first | with_reducible assumption | rfl) (by first | with_reducible assumption | rfl) rfl ?_
          rw [e0]
          refine wp_aload_n (pc := 25) (i := 0) dX6_canComeAt_25 rfl rfl (by first | with_reducible assumption | rfl) ?_
          refine wp_getI (pc := 26) dX6_canComeAt_26 lf_X6_51 (by first | with_reducible assumption | rfl) (by first | with_reducible assumption | rfl) rfl ?_
          rw [e1]
          first | (refine wp_imulN (pc := 29) dX6_canComeAt_29 ?_) | (refine wp_imul (pc := 29) dX6_canComeAt_29 ?_)
          first | (refine wp_icmp_geN (pc := 30) (tgt := 81) dX6_canComeAt_30 (by decide) (by first | with_reducible assumption | omega) (by first | with_reducible assumption | omega) (fun c_30 => ?_) (fun c_30 => ?_)) | (refine wp_icmp_ge (pc := 30) (tgt := 81) dX6_canComeAt_30 (by decide) (fun c_30 => ?_) (fun c_30 => ?_))
          · exact absurd c_30 (by omega)
          · refine wp_iload (pc := 33) dX6_canComeAt_33 rfl ?_
            refine wp_if_neB (pc := 35) (tgt := 68) dX6_canComeAt_35 (by decide) (fun c_35 => ?_) (fun c_35 => ?_)
            · exact Bool.noConfusion c_35
            · refine wp_iload_n (pc := 38) (i := 3) dX6_canComeAt_38 rfl rfl ?_
              refine wp_iload (pc := 39) dX6_canComeAt_39 rfl ?_
              first | (refine wp_ishrN (pc := 41) dX6_canComeAt_41 (by first | with_reducible assumption | omega) (by first | with_reducible assumption | omega) ?_) | (refine wp_ishr (pc := 41) dX6_canComeAt_41 ?_)
              refine wp_iconst (pc := 42) (v := nI 1) dX6_canComeAt_42 (by decide +kernel) ?_
              first | (refine wp_iandN (pc := 43) dX6_canComeAt_43 ?_) | (refine wp_iand (pc := 43) dX6_canComeAt_43 ?_)
              rw [hbit]
              refine wp_iconst (pc := 44) (v := nI 1) dX6_canComeAt_44 (by decide +kernel) ?_
              first | (refine wp_icmp_neN (pc := 45) (tgt := 72) dX6_canComeAt_45 (by decide) (by first | with_reducible assumption | omega) (by first | with_reducible assumption | omega) (fun c_45 => ?_) (fun c_45 => ?_)) | (refine wp_icmp_ne (pc := 45) (tgt := 72) dX6_canComeAt_45 (by decide) (fun c_45 => ?_) (fun c_45 => ?_))
              · refine wp_iconst (pc := 72) (v := nI 0) dX6_canComeAt_72 (by decide +kernel) ?_
                refine wp_istore (pc := 73) dX6_canComeAt_73 (by decide) ?_
                first | (refine wp_iincN (pc := 75) (m := 1) dX6_canComeAt_75 rfl rfl (by decide) ?_) | (refine wp_iinc (pc := 75) dX6_canComeAt_75 rfl rfl (by decide) ?_)
                refine wp_goto (pc := 78) (tgt := 19) dX6_canComeAt_78 (by decide) ?_
                exact h0
              · exact absurd c_45 (by decide)
        · rw [hk] at hbit
          rw [show ccP w h b.1 c o a = decide (¬ mset (fun t => aimP w h (b.1 c) (ded b.1) a t && comP w h (b.1 o) (ded b.1) o t) = 0) from by unfold ccP; rw [hk, Bool.true_and]] at h0
          refine wp_iload (pc := 19) dX6_canComeAt_19 rfl ?_
          refine wp_aload_n (pc := 21) (i := 0) dX6_canComeAt_21 rfl rfl (by first | with_reducible assumption | rfl) ?_
          refine wp_getI (pc := 22) dX6_canComeAt_22 lf_X6_47 (by first | with_reducible assumption | rfl) (by first | with_reducible assumption | rfl) rfl ?_
          rw [e0]
          refine wp_aload_n (pc := 25) (i := 0) dX6_canComeAt_25 rfl rfl (by first | with_reducible assumption | rfl) ?_
          refine wp_getI (pc := 26) dX6_canComeAt_26 lf_X6_51 (by first | with_reducible assumption | rfl) (by first | with_reducible assumption | rfl) rfl ?_
          rw [e1]
          first | (refine wp_imulN (pc := 29) dX6_canComeAt_29 ?_) | (refine wp_imul (pc := 29) dX6_canComeAt_29 ?_)
          first | (refine wp_icmp_geN (pc := 30) (tgt := 81) dX6_canComeAt_30 (by decide) (by first | with_reducible assumption | omega) (by first | with_reducible assumption | omega) (fun c_30 => ?_) (fun c_30 => ?_)) | (refine wp_icmp_ge (pc := 30) (tgt := 81) dX6_canComeAt_30 (by decide) (fun c_30 => ?_) (fun c_30 => ?_))
          · exact absurd c_30 (by omega)
          · refine wp_iload (pc := 33) dX6_canComeAt_33 rfl ?_
            refine wp_if_neB (pc := 35) (tgt := 68) dX6_canComeAt_35 (by decide) (fun c_35 => ?_) (fun c_35 => ?_)
            · exact Bool.noConfusion c_35
            · refine wp_iload_n (pc := 38) (i := 3) dX6_canComeAt_38 rfl rfl ?_
              refine wp_iload (pc := 39) dX6_canComeAt_39 rfl ?_
              first | (refine wp_ishrN (pc := 41) dX6_canComeAt_41 (by first | with_reducible assumption | omega) (by first | with_reducible assumption | omega) ?_) | (refine wp_ishr (pc := 41) dX6_canComeAt_41 ?_)
              refine wp_iconst (pc := 42) (v := nI 1) dX6_canComeAt_42 (by decide +kernel) ?_
              first | (refine wp_iandN (pc := 43) dX6_canComeAt_43 ?_) | (refine wp_iand (pc := 43) dX6_canComeAt_43 ?_)
              rw [hbit]
              refine wp_iconst (pc := 44) (v := nI 1) dX6_canComeAt_44 (by decide +kernel) ?_
              first | (refine wp_icmp_neN (pc := 45) (tgt := 72) dX6_canComeAt_45 (by decide) (by first | with_reducible assumption | omega) (by first | with_reducible assumption | omega) (fun c_45 => ?_) (fun c_45 => ?_)) | (refine wp_icmp_ne (pc := 45) (tgt := 72) dX6_canComeAt_45 (by decide) (fun c_45 => ?_) (fun c_45 => ?_))
              · exact absurd rfl c_45
              · refine wp_aload_n (pc := 48) (i := 0) dX6_canComeAt_48 rfl rfl (by first | with_reducible assumption | rfl) ?_
                refine wp_iconst (pc := 49) (v := nI 0) dX6_canComeAt_49 (by decide +kernel) ?_
                refine wp_aload_n (pc := 50) (i := 0) dX6_canComeAt_50 rfl rfl (by first | with_reducible assumption | rfl) ?_
                refine wp_getR (pc := 51) dX6_canComeAt_51 lf_X6_7 (by first | with_reducible assumption | rfl) (by first | with_reducible assumption | rfl) rfl (by first | with_reducible assumption | rfl) (by first | with_reducible assumption | rfl) ?_
                refine wp_iload_n (pc := 54) (i := 1) dX6_canComeAt_54 rfl rfl ?_
                refine wp_iald (pc := 55) dX6_canComeAt_55 (by first | with_reducible assumption | rfl) (by first | with_reducible assumption | rfl) (by first | with_reducible assumption | omega) (by first | decide | omega) ?_
                rw [ec]
                refine wp_iload (pc := 56) dX6_canComeAt_56 rfl ?_
                refine wp_iconst (pc := 58) (v := bI true) dX6_canComeAt_58 (by decide +kernel) ?_
                refine wp_cVP4 (pc := 59) (ci := 6) dX6_canComeAt_59 lm_X6_115 m_X6_aimsOf (by first | with_reducible assumption | rfl) (by first | with_reducible assumption | rfl) (by decide) rfl (Nat.le_of_ble_eq_true rfl) hai ?_
                refine wp_iload (pc := 62) dX6_canComeAt_62 rfl ?_
                first | (refine wp_iandN (pc := 64) dX6_canComeAt_64 ?_) | (refine wp_iand (pc := 64) dX6_canComeAt_64 ?_)
                rw [mset_and]
                refine wp_if_eqN (pc := 65) (tgt := 72) dX6_canComeAt_65 (by decide) (by first | with_reducible assumption | omega) (fun c_65 => ?_) (fun c_65 => ?_)
                · refine wp_iconst (pc := 72) (v := nI 0) dX6_canComeAt_72 (by decide +kernel) ?_
                  refine wp_istore (pc := 73) dX6_canComeAt_73 (by decide) ?_
                  first | (refine wp_iincN (pc := 75) (m := 1) dX6_canComeAt_75 rfl rfl (by decide) ?_) | (refine wp_iinc (pc := 75) dX6_canComeAt_75 rfl rfl (by decide) ?_)
                  refine wp_goto (pc := 78) (tgt := 19) dX6_canComeAt_78 (by decide) ?_
                  first
                    | (have g : ¬ _ = 0 := c_65; rw [decide_eq_true g, bI_t] at h0; exact h0)
                    | (have g : _ = 0 := c_65; rw [decide_eq_false (fun y => y g), bI_f] at h0; exact h0)
                · refine wp_iconst (pc := 68) (v := nI 1) dX6_canComeAt_68 (by decide +kernel) ?_
                  refine wp_goto (pc := 69) (tgt := 73) dX6_canComeAt_69 (by decide) ?_
                  refine wp_istore (pc := 73) dX6_canComeAt_73 (by decide) ?_
                  first | (refine wp_iincN (pc := 75) (m := 1) dX6_canComeAt_75 rfl rfl (by decide) ?_) | (refine wp_iinc (pc := 75) dX6_canComeAt_75 rfl rfl (by decide) ?_)
                  refine wp_goto (pc := 78) (tgt := 19) dX6_canComeAt_78 (by decide) ?_
                  first
                    | (have g : ¬ _ = 0 := c_65; rw [decide_eq_true g, bI_t] at h0; exact h0)
                    | (have g : _ = 0 := c_65; rw [decide_eq_false (fun y => y g), bI_f] at h0; exact h0)
      · rw [hv, Bool.true_or, bI_t] at h0
        refine wp_iload (pc := 19) dX6_canComeAt_19 rfl ?_
        refine wp_aload_n (pc := 21) (i := 0) dX6_canComeAt_21 rfl rfl (by first | with_reducible assumption | rfl) ?_
        refine wp_getI (pc := 22) dX6_canComeAt_22 lf_X6_47 (by first | with_reducible assumption | rfl) (by first | with_reducible assumption | rfl) rfl ?_
        rw [e0]
        refine wp_aload_n (pc := 25) (i := 0) dX6_canComeAt_25 rfl rfl (by first | with_reducible assumption | rfl) ?_
        refine wp_getI (pc := 26) dX6_canComeAt_26 lf_X6_51 (by first | with_reducible assumption | rfl) (by first | with_reducible assumption | rfl) rfl ?_
        rw [e1]
        first | (refine wp_imulN (pc := 29) dX6_canComeAt_29 ?_) | (refine wp_imul (pc := 29) dX6_canComeAt_29 ?_)
        first | (refine wp_icmp_geN (pc := 30) (tgt := 81) dX6_canComeAt_30 (by decide) (by first | with_reducible assumption | omega) (by first | with_reducible assumption | omega) (fun c_30 => ?_) (fun c_30 => ?_)) | (refine wp_icmp_ge (pc := 30) (tgt := 81) dX6_canComeAt_30 (by decide) (fun c_30 => ?_) (fun c_30 => ?_))
        · exact absurd c_30 (by omega)
        · refine wp_iload (pc := 33) dX6_canComeAt_33 rfl ?_
          refine wp_if_neB (pc := 35) (tgt := 68) dX6_canComeAt_35 (by decide) (fun c_35 => ?_) (fun c_35 => ?_)
          · refine wp_iconst (pc := 68) (v := nI 1) dX6_canComeAt_68 (by decide +kernel) ?_
            refine wp_goto (pc := 69) (tgt := 73) dX6_canComeAt_69 (by decide) ?_
            refine wp_istore (pc := 73) dX6_canComeAt_73 (by decide) ?_
            first | (refine wp_iincN (pc := 75) (m := 1) dX6_canComeAt_75 rfl rfl (by decide) ?_) | (refine wp_iinc (pc := 75) dX6_canComeAt_75 rfl rfl (by decide) ?_)
            refine wp_goto (pc := 78) (tgt := 19) dX6_canComeAt_78 (by decide) ?_
            exact h0
          · exact Bool.noConfusion c_35
  have h00 := loop (w * h) 0 rfl
  rw [show ∀ g : Nat → Bool, anK g 0 = false from fun _ => rfl, bI_f] at h00
  refine call_of_wp (by decide) (Nat.le_of_ble_eq_true rfl) ?_
  refine wp_aload_n (pc := 0) (i := 0) dX6_canComeAt_0 rfl rfl (by first | with_reducible assumption | rfl) ?_
  refine wp_iload_n (pc := 1) (i := 1) dX6_canComeAt_1 rfl rfl ?_
  refine wp_cVP1 (pc := 2) (ci := 6) dX6_canComeAt_2 lm_X6_175 m_X6_comesTo (by first | with_reducible assumption | rfl) (by first | with_reducible assumption | rfl) (by decide) rfl (Nat.le_of_ble_eq_true rfl) hc1 ?_
  refine wp_istore_n (pc := 5) (i := 3) dX6_canComeAt_5 rfl (by decide) ?_
  refine wp_aload_n (pc := 6) (i := 0) dX6_canComeAt_6 rfl rfl (by first | with_reducible assumption | rfl) ?_
  refine wp_iload_n (pc := 7) (i := 2) dX6_canComeAt_7 rfl rfl ?_
  refine wp_cVP1 (pc := 8) (ci := 6) dX6_canComeAt_8 lm_X6_175 m_X6_comesTo (by first | with_reducible assumption | rfl) (by first | with_reducible assumption | rfl) (by decide) rfl (Nat.le_of_ble_eq_true rfl) hc2 ?_
  refine wp_istore (pc := 11) dX6_canComeAt_11 (by decide) ?_
  refine wp_iconst (pc := 13) (v := nI 0) dX6_canComeAt_13 (by decide +kernel) ?_
  refine wp_istore (pc := 14) dX6_canComeAt_14 (by decide) ?_
  refine wp_iconst (pc := 16) (v := nI 0) dX6_canComeAt_16 (by decide +kernel) ?_
  refine wp_istore (pc := 17) dX6_canComeAt_17 (by decide) ?_
  exact h00
end MSH
