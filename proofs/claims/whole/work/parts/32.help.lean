/-! WHAT THE CALLS SHARE -/
/-- a told PLY may be: r is 100 from + to -/
def mayB (w h : Nat) (b : Bd) (r : Nat) : Bool := decide (r / 100 < w * h ∧ r % 100 < w * h ∧ b.2.2.2 = 2) && plP w h b (16 * (r / 100) + r % 100)
/-- the first open cell of its part -/
noncomputable def ldr (w h : Nat) (O : Nat → Bool) (c : Nat) : Bool := O c && !anK (fun k => O k && clB (hgR w h O) k c) c
noncomputable def hits (w h : Nat) (O W : Nat → Bool) (c : Nat) : Bool := decide (¬ mset (fun t => clB (hgR w h O) c t && W t) = 0)
noncomputable def pao (w h : Nat) (O W : Nat → Bool) : Nat := match (List.range (w * h)).find? (fun c => ldr w h O c && hits w h O W c) with
  | some c => fb_ct (ldr w h O) c
  | none => fb_ct (ldr w h O) (w * h)
def opn (w h : Nat) (g : Nat → Nat) (c : Nat) : Bool := decide (c < w * h) && !ded g c
/-- whether any of A can come at any of B -/
noncomputable def ccB (w h : Nat) (g : Nat → Nat) (A B : Nat → Bool) : Bool := decide (¬ mset (fun t => anK (fun c => A c && thrP w h (g c) (ded g) c (w * h) t) (w * h) && anK (fun c => B c && comP w h (g c) (ded g) c t) (w * h)) = 0)
/-- the KEYS -/
def keyL (w h last : Nat) (b : Bd) (n : Nat) : List Nat := (PLY w h b).filter (fun x => frc w h last b.2.2.1 n (mkB last b x))
section HLP
variable {d : Nat} {I : MemI} {J : MemJ}
set_option maxHeartbeats 16000000 in
theorem sp_X5_isCell {w h last : Nat} {x : Int32} (hF : Fld w h last I) : CALL ΩC d kX5_isCell [.ref 0, .int x] I J (PQ (.int (bI (inB x (w * h)))) I J) := by
  have eF : I 3 8 = nI (w * h) := hF.2.2.2.2.1
  refine call_of_wp (by decide) (Nat.le_of_ble_eq_true rfl) ?_
  refine wp_iload_n (pc := 0) (i := 1) dX5_isCell_0 rfl rfl ?_
  refine wp_if_lt (pc := 1) (tgt := 19) dX5_isCell_1 (by decide) (fun c_1 => ?_) (fun c_1 => ?_)
  · refine wp_iconst (pc := 19) (v := nI 0) dX5_isCell_19 (by decide +kernel) ?_
    refine wp_zreturn (pc := 20) dX5_isCell_20 rfl (by first | exact bI_narrow _ | exact nI_narrow01 (by omega) | decide +kernel | assumption) ?_
    first | exact pq_i (inB_f0 c_1) | exact pq_i (inB_f1 c_12) | exact pq_i (inB_1 c_1 c_12)
  · refine wp_iload_n (pc := 4) (i := 1) dX5_isCell_4 rfl rfl ?_
    refine wp_aload_n (pc := 5) (i := 0) dX5_isCell_5 rfl rfl (by first | with_reducible assumption | rfl) ?_
    refine wp_getR (pc := 6) dX5_isCell_6 lf_X5_19 (by first | with_reducible assumption | rfl) (by first | with_reducible assumption | rfl) rfl (by first | with_reducible assumption | rfl) (by first | with_reducible assumption | rfl) ?_
    refine wp_getI (pc := 9) dX5_isCell_9 lf_X5_86 (by first | with_reducible assumption | rfl) (by first | with_reducible assumption | rfl) rfl ?_
    rw [eF]
    refine wp_icmp_ge (pc := 12) (tgt := 19) dX5_isCell_12 (by decide) (fun c_12 => ?_) (fun c_12 => ?_)
    · refine wp_iconst (pc := 19) (v := nI 0) dX5_isCell_19 (by decide +kernel) ?_
      refine wp_zreturn (pc := 20) dX5_isCell_20 rfl (by first | exact bI_narrow _ | exact nI_narrow01 (by omega) | decide +kernel | assumption) ?_
      first | exact pq_i (inB_f0 c_1) | exact pq_i (inB_f1 c_12) | exact pq_i (inB_1 c_1 c_12)
    · refine wp_iconst (pc := 15) (v := nI 1) dX5_isCell_15 (by decide +kernel) ?_
      refine wp_goto (pc := 16) (tgt := 20) dX5_isCell_16 (by decide) ?_
      refine wp_zreturn (pc := 20) dX5_isCell_20 rfl (by first | exact bI_narrow _ | exact nI_narrow01 (by omega) | decide +kernel | assumption) ?_
      first | exact pq_i (inB_f0 c_1) | exact pq_i (inB_f1 c_12) | exact pq_i (inB_1 c_1 c_12)
theorem inB_no {r n : Nat} (hr : r < 2147483648) (hn : n < 2147483648) (h : ¬ r < n) : inB (nI r) n = false := by rw [inB_n hr hn]; exact decide_eq_false h
theorem inB_yes {r n : Nat} (hr : r < 2147483648) (hn : n < 2147483648) (h : r < n) : inB (nI r) n = true := by rw [inB_n hr hn]; exact decide_eq_true h
set_option maxHeartbeats 16000000 in
theorem sp_X5_may {p w h last r : Nat} {b : Bd} (hp : isP p) (hF : Fld w h last I) (hb : PL p b I J) (hB : Bok (w * h) b) (hr : r < 100000) : CALL ΩC (d + 4) kX5_may [.ref 0, .ref p, .int (nI r)] I J (PQ (.int (bI (mayB w h b r))) I J) := by
  have hwh := wh16 hF.1.2.1 hF.1.2.2.2
  have e10 : I p 10 = lsI b.2.2.2 := hb.1 10 (by omega) (by omega)
  have e9 : I p 9 = nI b.2.2.1 := hb.1 9 (by omega) (by omega)
  have ho := hB.2.2.2.1
  have hl3 := hB.2.2.2.2.1
  obtain ⟨f, hf⟩ : ∃ f, f = r / 100 := ⟨_, rfl⟩
  obtain ⟨t, ht⟩ : ∃ t, t = r % 100 := ⟨_, rfl⟩
  have hf9 : f < 1000 := by omega
  have ht9 : t < 100 := by omega
  have eM : mayB w h b r = (decide (f < w * h ∧ t < w * h ∧ b.2.2.2 = 2) && plP w h b (16 * f + t)) := by rw [hf, ht]; rfl
  rw [eM]
  obtain ⟨q1, q2, q3, q4, q5⟩ := isP_sh hp
  by_cases h1 : f < w * h
  · have i1 := inB_yes (n := w * h) (by omega) (by omega) h1
    by_cases h2 : t < w * h
    · have i2 := inB_yes (n := w * h) (by omega) (by omega) h2
      by_cases h3 : b.2.2.2 = 2
      · have e3 : I p 10 = -9 := by rw [e10, h3]; rfl
        have hm := mset_lt (menP b.1 b.2.2.1)
        have hm2 := mset_lt (reaP w h b.1 f)
        have d1 : (16 * f + t) / 16 = f := by omega
        have d2 : (16 * f + t) % 16 = t := by omega
        have eP : plP w h b (16 * f + t) = (menP b.1 b.2.2.1 f && reaP w h b.1 f t) := by unfold plP; rw [d1, d2]
        rw [eP, decide_eq_true ⟨h1, h2, h3⟩, Bool.true_and]
        have b1 := mset_bit' (menP b.1 b.2.2.1) (show f < 16 by omega)
        have b2 := mset_bit' (reaP w h b.1 f) (show t < 16 by omega)
        refine call_of_wp (by decide) (Nat.le_of_ble_eq_true rfl) ?_
        refine wp_iload_n (pc := 0) (i := 2) dX5_may_0 rfl rfl ?_
        refine wp_bipush (pc := 1) (v := nI 100) dX5_may_1 (by decide +kernel) ?_
        refine wp_idivN (pc := 3) dX5_may_3 (by first | with_reducible assumption | omega) (by first | with_reducible assumption | omega) (by first | with_reducible assumption | omega) ?_
        rw [← hf]
        refine wp_istore_n (pc := 4) (i := 3) dX5_may_4 rfl (by decide) ?_
        refine wp_iload_n (pc := 5) (i := 2) dX5_may_5 rfl rfl ?_
        refine wp_bipush (pc := 6) (v := nI 100) dX5_may_6 (by decide +kernel) ?_
        refine wp_iremN (pc := 8) dX5_may_8 (by first | with_reducible assumption | omega) (by first | with_reducible assumption | omega) (by first | with_reducible assumption | omega) ?_
        rw [← ht]
        refine wp_istore (pc := 9) dX5_may_9 (by decide) ?_
        refine wp_aload_n (pc := 11) (i := 0) dX5_may_11 rfl rfl (by first | with_reducible assumption | rfl) ?_
        refine wp_iload_n (pc := 12) (i := 3) dX5_may_12 rfl rfl ?_
        refine wp_cVP1 (pc := 13) (ci := 5) dX5_may_13 lm_X5_105 m_X5_isCell (by first | with_reducible assumption | rfl) (by first | with_reducible assumption | rfl) (by decide) rfl (Nat.le_of_ble_eq_true rfl) (sp_X5_isCell (by with_reducible assumption)) ?_
        rw [i1]
        refine wp_if_eqB (pc := 16) (tgt := 73) dX5_may_16 (by decide) (fun c_16 => ?_) (fun c_16 => ?_)
        · exact Bool.noConfusion c_16
        · refine wp_aload_n (pc := 19) (i := 0) dX5_may_19 rfl rfl (by first | with_reducible assumption | rfl) ?_
          refine wp_iload (pc := 20) dX5_may_20 rfl ?_
          refine wp_cVP1 (pc := 22) (ci := 5) dX5_may_22 lm_X5_105 m_X5_isCell (by first | with_reducible assumption | rfl) (by first | with_reducible assumption | rfl) (by decide) rfl (Nat.le_of_ble_eq_true rfl) (sp_X5_isCell (by with_reducible assumption)) ?_
          rw [i2]
          refine wp_if_eqB (pc := 25) (tgt := 73) dX5_may_25 (by decide) (fun c_25 => ?_) (fun c_25 => ?_)
          · exact Bool.noConfusion c_25
          · refine wp_aload_n (pc := 28) (i := 1) dX5_may_28 rfl rfl (by first | with_reducible assumption | rfl) ?_
            refine wp_getI (pc := 29) dX5_may_29 lf_X5_229 (by first | with_reducible assumption | rfl) (by first | with_reducible assumption | rfl) rfl ?_
            rw [e3]
            refine wp_bipush (pc := 32) (v := (-9)) dX5_may_32 (by decide +kernel) ?_
            refine wp_icmp_ne (pc := 34) (tgt := 73) dX5_may_34 (by decide) (fun c_34 => ?_) (fun c_34 => ?_)
            · exact absurd rfl c_34
            · refine wp_aload_n (pc := 37) (i := 1) dX5_may_37 rfl rfl (by first | with_reducible assumption | rfl) ?_
              refine wp_aload_n (pc := 38) (i := 1) dX5_may_38 rfl rfl (by first | with_reducible assumption | rfl) ?_
              refine wp_getI (pc := 39) dX5_may_39 lf_X5_100 (by first | with_reducible assumption | rfl) (by first | with_reducible assumption | rfl) rfl ?_
              rw [e9]
              refine wp_cVP1 (pc := 42) (ci := 2) dX5_may_42 lm_X5_176 m_X2_men (by first | with_reducible assumption | rfl) (by first | with_reducible assumption | rfl) (by decide) rfl (Nat.le_of_ble_eq_true rfl) (sp_X2_men hp hb ho) ?_
              refine wp_iload_n (pc := 45) (i := 3) dX5_may_45 rfl rfl ?_
              refine wp_cSP2 (pc := 46) dX5_may_46 lm_X5_118 m_X5_has (Nat.le_of_ble_eq_true rfl) (sp_X5_has (by first | with_reducible assumption | omega) (by first | with_reducible assumption | omega)) ?_
              rw [b1]
              refine wp_if_eqB (pc := 49) (tgt := 73) dX5_may_49 (by decide) (fun c_49 => ?_) (fun c_49 => ?_)
              · refine wp_iconst (pc := 73) (v := nI 0) dX5_may_73 (by decide +kernel) ?_
                refine wp_zreturn (pc := 74) dX5_may_74 rfl (by first | exact bI_narrow _ | exact nI_narrow01 (by omega) | decide +kernel | assumption) ?_
                first
                  | (have g : reaP w h b.1 f t = true := c_66; have g2 : menP b.1 b.2.2.1 f = true := c_49; exact pq_i (by rw [g, g2]; rfl))
                  | (have g : reaP w h b.1 f t = false := c_66; exact pq_i (by rw [g, Bool.and_false]; rfl))
                  | (have g2 : menP b.1 b.2.2.1 f = false := c_49; exact pq_i (by rw [g2]; rfl))
              · refine wp_aload_n (pc := 52) (i := 1) dX5_may_52 rfl rfl (by first | with_reducible assumption | rfl) ?_
                refine wp_aload_n (pc := 53) (i := 0) dX5_may_53 rfl rfl (by first | with_reducible assumption | rfl) ?_
                refine wp_getR (pc := 54) dX5_may_54 lf_X5_19 (by first | with_reducible assumption | rfl) (by first | with_reducible assumption | rfl) rfl (by first | with_reducible assumption | rfl) (by first | with_reducible assumption | rfl) ?_
                refine wp_iload_n (pc := 57) (i := 3) dX5_may_57 rfl rfl ?_
                refine wp_cVP2 (pc := 58) (ci := 2) dX5_may_58 lm_X5_132 m_X2_reach (by first | with_reducible assumption | rfl) (by first | with_reducible assumption | rfl) (by decide) rfl (Nat.le_of_ble_eq_true rfl) (sp_X2_reach hp hF hb hB.1 h1) ?_
                refine wp_iload (pc := 61) dX5_may_61 rfl ?_
                refine wp_cSP2 (pc := 63) dX5_may_63 lm_X5_118 m_X5_has (Nat.le_of_ble_eq_true rfl) (sp_X5_has (by first | with_reducible assumption | omega) (by first | with_reducible assumption | omega)) ?_
                rw [b2]
                refine wp_if_eqB (pc := 66) (tgt := 73) dX5_may_66 (by decide) (fun c_66 => ?_) (fun c_66 => ?_)
                · refine wp_iconst (pc := 73) (v := nI 0) dX5_may_73 (by decide +kernel) ?_
                  refine wp_zreturn (pc := 74) dX5_may_74 rfl (by first | exact bI_narrow _ | exact nI_narrow01 (by omega) | decide +kernel | assumption) ?_
                  first
                    | (have g : reaP w h b.1 f t = true := c_66; have g2 : menP b.1 b.2.2.1 f = true := c_49; exact pq_i (by rw [g, g2]; rfl))
                    | (have g : reaP w h b.1 f t = false := c_66; exact pq_i (by rw [g, Bool.and_false]; rfl))
                    | (have g2 : menP b.1 b.2.2.1 f = false := c_49; exact pq_i (by rw [g2]; rfl))
                · refine wp_iconst (pc := 69) (v := nI 1) dX5_may_69 (by decide +kernel) ?_
                  refine wp_goto (pc := 70) (tgt := 74) dX5_may_70 (by decide) ?_
                  refine wp_zreturn (pc := 74) dX5_may_74 rfl (by first | exact bI_narrow _ | exact nI_narrow01 (by omega) | decide +kernel | assumption) ?_
                  first
                    | (have g : reaP w h b.1 f t = true := c_66; have g2 : menP b.1 b.2.2.1 f = true := c_49; exact pq_i (by rw [g, g2]; rfl))
                    | (have g : reaP w h b.1 f t = false := c_66; exact pq_i (by rw [g, Bool.and_false]; rfl))
                    | (have g2 : menP b.1 b.2.2.1 f = false := c_49; exact pq_i (by rw [g2]; rfl))
      · have hne := lsI_ne h3 hl3
        rw [decide_eq_false (fun z => h3 z.2.2), Bool.false_and]
        refine call_of_wp (by decide) (Nat.le_of_ble_eq_true rfl) ?_
        refine wp_iload_n (pc := 0) (i := 2) dX5_may_0 rfl rfl ?_
        refine wp_bipush (pc := 1) (v := nI 100) dX5_may_1 (by decide +kernel) ?_
        refine wp_idivN (pc := 3) dX5_may_3 (by first | with_reducible assumption | omega) (by first | with_reducible assumption | omega) (by first | with_reducible assumption | omega) ?_
        rw [← hf]
        refine wp_istore_n (pc := 4) (i := 3) dX5_may_4 rfl (by decide) ?_
        refine wp_iload_n (pc := 5) (i := 2) dX5_may_5 rfl rfl ?_
        refine wp_bipush (pc := 6) (v := nI 100) dX5_may_6 (by decide +kernel) ?_
        refine wp_iremN (pc := 8) dX5_may_8 (by first | with_reducible assumption | omega) (by first | with_reducible assumption | omega) (by first | with_reducible assumption | omega) ?_
        rw [← ht]
        refine wp_istore (pc := 9) dX5_may_9 (by decide) ?_
        refine wp_aload_n (pc := 11) (i := 0) dX5_may_11 rfl rfl (by first | with_reducible assumption | rfl) ?_
        refine wp_iload_n (pc := 12) (i := 3) dX5_may_12 rfl rfl ?_
        refine wp_cVP1 (pc := 13) (ci := 5) dX5_may_13 lm_X5_105 m_X5_isCell (by first | with_reducible assumption | rfl) (by first | with_reducible assumption | rfl) (by decide) rfl (Nat.le_of_ble_eq_true rfl) (sp_X5_isCell (by with_reducible assumption)) ?_
        rw [i1]
        refine wp_if_eqB (pc := 16) (tgt := 73) dX5_may_16 (by decide) (fun c_16 => ?_) (fun c_16 => ?_)
        · exact Bool.noConfusion c_16
        · refine wp_aload_n (pc := 19) (i := 0) dX5_may_19 rfl rfl (by first | with_reducible assumption | rfl) ?_
          refine wp_iload (pc := 20) dX5_may_20 rfl ?_
          refine wp_cVP1 (pc := 22) (ci := 5) dX5_may_22 lm_X5_105 m_X5_isCell (by first | with_reducible assumption | rfl) (by first | with_reducible assumption | rfl) (by decide) rfl (Nat.le_of_ble_eq_true rfl) (sp_X5_isCell (by with_reducible assumption)) ?_
          rw [i2]
          refine wp_if_eqB (pc := 25) (tgt := 73) dX5_may_25 (by decide) (fun c_25 => ?_) (fun c_25 => ?_)
          · exact Bool.noConfusion c_25
          · refine wp_aload_n (pc := 28) (i := 1) dX5_may_28 rfl rfl (by first | with_reducible assumption | rfl) ?_
            refine wp_getI (pc := 29) dX5_may_29 lf_X5_229 (by first | with_reducible assumption | rfl) (by first | with_reducible assumption | rfl) rfl ?_
            rw [e10]
            refine wp_bipush (pc := 32) (v := (-9)) dX5_may_32 (by decide +kernel) ?_
            refine wp_icmp_ne (pc := 34) (tgt := 73) dX5_may_34 (by decide) (fun c_34 => ?_) (fun c_34 => ?_)
            · refine wp_iconst (pc := 73) (v := nI 0) dX5_may_73 (by decide +kernel) ?_
              refine wp_zreturn (pc := 74) dX5_may_74 rfl (by first | exact bI_narrow _ | exact nI_narrow01 (by omega) | decide +kernel | assumption) ?_
              exact pq_i rfl
            · exact absurd c_34 hne
    · have i2 := inB_no (n := w * h) (show t < 2147483648 by omega) (by omega) h2
      rw [decide_eq_false (fun z => h2 z.2.1), Bool.false_and]
      refine call_of_wp (by decide) (Nat.le_of_ble_eq_true rfl) ?_
      refine wp_iload_n (pc := 0) (i := 2) dX5_may_0 rfl rfl ?_
      refine wp_bipush (pc := 1) (v := nI 100) dX5_may_1 (by decide +kernel) ?_
      refine wp_idivN (pc := 3) dX5_may_3 (by first | with_reducible assumption | omega) (by first | with_reducible assumption | omega) (by first | with_reducible assumption | omega) ?_
      rw [← hf]
      refine wp_istore_n (pc := 4) (i := 3) dX5_may_4 rfl (by decide) ?_
      refine wp_iload_n (pc := 5) (i := 2) dX5_may_5 rfl rfl ?_
      refine wp_bipush (pc := 6) (v := nI 100) dX5_may_6 (by decide +kernel) ?_
      refine wp_iremN (pc := 8) dX5_may_8 (by first | with_reducible assumption | omega) (by first | with_reducible assumption | omega) (by first | with_reducible assumption | omega) ?_
      rw [← ht]
      refine wp_istore (pc := 9) dX5_may_9 (by decide) ?_
      refine wp_aload_n (pc := 11) (i := 0) dX5_may_11 rfl rfl (by first | with_reducible assumption | rfl) ?_
      refine wp_iload_n (pc := 12) (i := 3) dX5_may_12 rfl rfl ?_
      refine wp_cVP1 (pc := 13) (ci := 5) dX5_may_13 lm_X5_105 m_X5_isCell (by first | with_reducible assumption | rfl) (by first | with_reducible assumption | rfl) (by decide) rfl (Nat.le_of_ble_eq_true rfl) (sp_X5_isCell (by with_reducible assumption)) ?_
      rw [i1]
      refine wp_if_eqB (pc := 16) (tgt := 73) dX5_may_16 (by decide) (fun c_16 => ?_) (fun c_16 => ?_)
      · exact Bool.noConfusion c_16
      · refine wp_aload_n (pc := 19) (i := 0) dX5_may_19 rfl rfl (by first | with_reducible assumption | rfl) ?_
        refine wp_iload (pc := 20) dX5_may_20 rfl ?_
        refine wp_cVP1 (pc := 22) (ci := 5) dX5_may_22 lm_X5_105 m_X5_isCell (by first | with_reducible assumption | rfl) (by first | with_reducible assumption | rfl) (by decide) rfl (Nat.le_of_ble_eq_true rfl) (sp_X5_isCell (by with_reducible assumption)) ?_
        rw [i2]
        refine wp_if_eqB (pc := 25) (tgt := 73) dX5_may_25 (by decide) (fun c_25 => ?_) (fun c_25 => ?_)
        · refine wp_iconst (pc := 73) (v := nI 0) dX5_may_73 (by decide +kernel) ?_
          refine wp_zreturn (pc := 74) dX5_may_74 rfl (by first | exact bI_narrow _ | exact nI_narrow01 (by omega) | decide +kernel | assumption) ?_
          exact pq_i rfl
        · exact Bool.noConfusion c_25
  · have i1 := inB_no (n := w * h) (show f < 2147483648 by omega) (by omega) h1
    rw [decide_eq_false (fun z => h1 z.1), Bool.false_and]
    refine call_of_wp (by decide) (Nat.le_of_ble_eq_true rfl) ?_
    refine wp_iload_n (pc := 0) (i := 2) dX5_may_0 rfl rfl ?_
    refine wp_bipush (pc := 1) (v := nI 100) dX5_may_1 (by decide +kernel) ?_
    refine wp_idivN (pc := 3) dX5_may_3 (by first | with_reducible assumption | omega) (by first | with_reducible assumption | omega) (by first | with_reducible assumption | omega) ?_
    rw [← hf]
    refine wp_istore_n (pc := 4) (i := 3) dX5_may_4 rfl (by decide) ?_
    refine wp_iload_n (pc := 5) (i := 2) dX5_may_5 rfl rfl ?_
    refine wp_bipush (pc := 6) (v := nI 100) dX5_may_6 (by decide +kernel) ?_
    refine wp_iremN (pc := 8) dX5_may_8 (by first | with_reducible assumption | omega) (by first | with_reducible assumption | omega) (by first | with_reducible assumption | omega) ?_
    rw [← ht]
    refine wp_istore (pc := 9) dX5_may_9 (by decide) ?_
    refine wp_aload_n (pc := 11) (i := 0) dX5_may_11 rfl rfl (by first | with_reducible assumption | rfl) ?_
    refine wp_iload_n (pc := 12) (i := 3) dX5_may_12 rfl rfl ?_
    refine wp_cVP1 (pc := 13) (ci := 5) dX5_may_13 lm_X5_105 m_X5_isCell (by first | with_reducible assumption | rfl) (by first | with_reducible assumption | rfl) (by decide) rfl (Nat.le_of_ble_eq_true rfl) (sp_X5_isCell (by with_reducible assumption)) ?_
    rw [i1]
    refine wp_if_eqB (pc := 16) (tgt := 73) dX5_may_16 (by decide) (fun c_16 => ?_) (fun c_16 => ?_)
    · refine wp_iconst (pc := 73) (v := nI 0) dX5_may_73 (by decide +kernel) ?_
      refine wp_zreturn (pc := 74) dX5_may_74 rfl (by first | exact bI_narrow _ | exact nI_narrow01 (by omega) | decide +kernel | assumption) ?_
      exact pq_i rfl
    · exact Bool.noConfusion c_16
set_option maxHeartbeats 16000000 in
theorem sp_X2_plyR {p k m : Nat} (hp : isP p) (h2 : I p 2 = nI m) (hl : m ≤ 64) (hk : k < m) : CALL ΩC (d + 1) kX2_ply [.ref p, .int (nI k)] I J (PQ (.int (I (p + 5) k)) I J) := by
  refine call_of_wp (by decide) (Nat.le_of_ble_eq_true rfl) ?_
  obtain ⟨q1, q2, q3, q4, q5⟩ := isP_sh hp
  refine wp_iload_n (pc := 0) (i := 1) dX2_ply_0 rfl rfl ?_
  refine wp_if_ltN (pc := 1) (tgt := 23) dX2_ply_1 (by decide) (by first | with_reducible assumption | omega) ?_
  refine wp_iload_n (pc := 4) (i := 1) dX2_ply_4 rfl rfl ?_
  refine wp_aload_n (pc := 5) (i := 0) dX2_ply_5 rfl rfl (by first | with_reducible assumption | rfl) ?_
  refine wp_getI (pc := 6) dX2_ply_6 lf_X2_15 (by first | with_reducible assumption | rfl) (by first | with_reducible assumption | rfl) rfl ?_
  rw [h2]
  first | (refine wp_icmp_geN (pc := 9) (tgt := 23) dX2_ply_9 (by decide) (by first | with_reducible assumption | omega) (by first | with_reducible assumption | omega) (fun c_9 => ?_) (fun c_9 => ?_)) | (refine wp_icmp_ge (pc := 9) (tgt := 23) dX2_ply_9 (by decide) (fun c_9 => ?_) (fun c_9 => ?_))
  · exact absurd hk (by omega)
  · refine wp_aload_n (pc := 12) (i := 0) dX2_ply_12 rfl rfl (by first | with_reducible assumption | rfl) ?_
    refine wp_getR (pc := 13) dX2_ply_13 lf_X2_9 (by first | with_reducible assumption | rfl) (by first | with_reducible assumption | rfl) rfl (by first | with_reducible assumption | rfl) (by first | with_reducible assumption | rfl) ?_
    refine wp_iload_n (pc := 16) (i := 1) dX2_ply_16 rfl rfl ?_
    refine wp_cSP2 (pc := 17) dX2_ply_17 lm_X2_117 m_X5_at (Nat.le_of_ble_eq_true rfl) (sp_X5_at (by first | with_reducible assumption | rfl) (by first | with_reducible assumption | rfl) (by first | with_reducible assumption | omega) (by decide)) ?_
    refine wp_goto (pc := 20) (tgt := 25) dX2_ply_20 (by decide) ?_
    refine wp_ireturn (pc := 25) dX2_ply_25 rfl ?_
    exact pq_i rfl
/-- refusedAhead -/
def refA (l : Nat) (x : Int32) : Int32 := if x < nI 1 ∨ nI 4 < x then -2 else if l = 2 then -9 else -3
set_option maxHeartbeats 16000000 in
theorem sp_X5_refusedAhead {b : Bd} {x : Int32} (hb : PL 12 b I J) (hl3 : b.2.2.2 < 3) : CALL ΩC d kX5_refusedAhead [.ref 0, .int x] I J (PQ (.int (refA b.2.2.2 x)) I J) := by
  have e10 : I 12 10 = lsI b.2.2.2 := hb.1 10 (by omega) (by omega)
  by_cases h1 : x < nI 1 ∨ nI 4 < x
  · have e : refA b.2.2.2 x = -2 := if_pos h1
    rw [e]
    refine call_of_wp (by decide) (Nat.le_of_ble_eq_true rfl) ?_
    refine wp_iload_n (pc := 0) (i := 1) dX5_refusedAhead_0 rfl rfl ?_
    refine wp_iconst (pc := 1) (v := nI 1) dX5_refusedAhead_1 (by decide +kernel) ?_
    refine wp_icmp_lt (pc := 2) (tgt := 10) dX5_refusedAhead_2 (by decide) (fun c_2 => ?_) (fun c_2 => ?_)
    · refine wp_bipush (pc := 10) (v := (-2)) dX5_refusedAhead_10 (by decide +kernel) ?_
      refine wp_ireturn (pc := 12) dX5_refusedAhead_12 rfl ?_
      exact pq_i rfl
    · refine wp_iload_n (pc := 5) (i := 1) dX5_refusedAhead_5 rfl rfl ?_
      refine wp_iconst (pc := 6) (v := nI 4) dX5_refusedAhead_6 (by decide +kernel) ?_
      refine wp_icmp_le (pc := 7) (tgt := 13) dX5_refusedAhead_7 (by decide) (fun c_7 => ?_) (fun c_7 => ?_)
      · exact absurd h1 (fun z => z.elim c_2 (Int32.not_lt.mpr c_7))
      · refine wp_bipush (pc := 10) (v := (-2)) dX5_refusedAhead_10 (by decide +kernel) ?_
        refine wp_ireturn (pc := 12) dX5_refusedAhead_12 rfl ?_
        exact pq_i rfl
  · by_cases h2 : b.2.2.2 = 2
    · have e : refA b.2.2.2 x = -9 := by unfold refA; rw [if_neg h1, if_pos h2]
      have e3 : I 12 10 = -9 := by rw [e10, h2]; rfl
      rw [e]
      refine call_of_wp (by decide) (Nat.le_of_ble_eq_true rfl) ?_
      refine wp_iload_n (pc := 0) (i := 1) dX5_refusedAhead_0 rfl rfl ?_
      refine wp_iconst (pc := 1) (v := nI 1) dX5_refusedAhead_1 (by decide +kernel) ?_
      refine wp_icmp_lt (pc := 2) (tgt := 10) dX5_refusedAhead_2 (by decide) (fun c_2 => ?_) (fun c_2 => ?_)
      · exact absurd (Or.inl c_2) h1
      · refine wp_iload_n (pc := 5) (i := 1) dX5_refusedAhead_5 rfl rfl ?_
        refine wp_iconst (pc := 6) (v := nI 4) dX5_refusedAhead_6 (by decide +kernel) ?_
        refine wp_icmp_le (pc := 7) (tgt := 13) dX5_refusedAhead_7 (by decide) (fun c_7 => ?_) (fun c_7 => ?_)
        · refine wp_aload_n (pc := 13) (i := 0) dX5_refusedAhead_13 rfl rfl (by first | with_reducible assumption | rfl) ?_
          refine wp_getR (pc := 14) dX5_refusedAhead_14 lf_X5_32 (by first | with_reducible assumption | rfl) (by first | with_reducible assumption | rfl) rfl (by first | with_reducible assumption | rfl) (by first | with_reducible assumption | rfl) ?_
          refine wp_getI (pc := 17) dX5_refusedAhead_17 lf_X5_229 (by first | with_reducible assumption | rfl) (by first | with_reducible assumption | rfl) rfl ?_
          rw [e3]
          refine wp_bipush (pc := 20) (v := (-9)) dX5_refusedAhead_20 (by decide +kernel) ?_
          refine wp_icmp_eq (pc := 22) (tgt := 30) dX5_refusedAhead_22 (by decide) (fun c_22 => ?_) (fun c_22 => ?_)
          · refine wp_bipush (pc := 30) (v := (-9)) dX5_refusedAhead_30 (by decide +kernel) ?_
            refine wp_ireturn (pc := 32) dX5_refusedAhead_32 rfl ?_
            exact pq_i rfl
          · exact absurd rfl c_22
        · exact absurd (Or.inr (Int32.not_le.mp c_7)) h1
    · have e : refA b.2.2.2 x = -3 := by unfold refA; rw [if_neg h1, if_neg h2]
      have hne := lsI_ne h2 hl3
      rw [e]
      refine call_of_wp (by decide) (Nat.le_of_ble_eq_true rfl) ?_
      refine wp_iload_n (pc := 0) (i := 1) dX5_refusedAhead_0 rfl rfl ?_
      refine wp_iconst (pc := 1) (v := nI 1) dX5_refusedAhead_1 (by decide +kernel) ?_
      refine wp_icmp_lt (pc := 2) (tgt := 10) dX5_refusedAhead_2 (by decide) (fun c_2 => ?_) (fun c_2 => ?_)
      · exact absurd (Or.inl c_2) h1
      · refine wp_iload_n (pc := 5) (i := 1) dX5_refusedAhead_5 rfl rfl ?_
        refine wp_iconst (pc := 6) (v := nI 4) dX5_refusedAhead_6 (by decide +kernel) ?_
        refine wp_icmp_le (pc := 7) (tgt := 13) dX5_refusedAhead_7 (by decide) (fun c_7 => ?_) (fun c_7 => ?_)
        · refine wp_aload_n (pc := 13) (i := 0) dX5_refusedAhead_13 rfl rfl (by first | with_reducible assumption | rfl) ?_
          refine wp_getR (pc := 14) dX5_refusedAhead_14 lf_X5_32 (by first | with_reducible assumption | rfl) (by first | with_reducible assumption | rfl) rfl (by first | with_reducible assumption | rfl) (by first | with_reducible assumption | rfl) ?_
          refine wp_getI (pc := 17) dX5_refusedAhead_17 lf_X5_229 (by first | with_reducible assumption | rfl) (by first | with_reducible assumption | rfl) rfl ?_
          rw [e10]
          refine wp_bipush (pc := 20) (v := (-9)) dX5_refusedAhead_20 (by decide +kernel) ?_
          refine wp_icmp_eq (pc := 22) (tgt := 30) dX5_refusedAhead_22 (by decide) (fun c_22 => ?_) (fun c_22 => ?_)
          · exact absurd c_22 hne
          · refine wp_bipush (pc := 25) (v := (-3)) dX5_refusedAhead_25 (by decide +kernel) ?_
            refine wp_goto (pc := 27) (tgt := 32) dX5_refusedAhead_27 (by decide) ?_
            refine wp_ireturn (pc := 32) dX5_refusedAhead_32 rfl ?_
            exact pq_i rfl
        · exact absurd (Or.inr (Int32.not_le.mp c_7)) h1
end HLP
