/-! LOOKED AHEAD: isForced -/
/-- whether a side can have the last K of the other fall within n PLIES -/
def frc (w h last side : Nat) : Nat → Bd → Bool
  | 0, b => if b.2.2.2 = 2 then false else decide (¬ b.2.2.2 = side)
  | 1, b => if b.2.2.2 = 2 then (if b.2.2.1 = side then cfP w h b else false) else decide (¬ b.2.2.2 = side)
  | n + 2, b => if b.2.2.2 = 2 then (if b.2.2.1 = side then (if n = 0 then cfP w h b else (PLY w h b).any (fun x => frc w h last side (n + 1) (mkB last b x))) else (PLY w h b).all (fun x => frc w h last side (n + 1) (mkB last b x))) else decide (¬ b.2.2.2 = side)
theorem frc_l {w h last side n : Nat} {b : Bd} (hl : ¬ b.2.2.2 = 2) : frc w h last side n b = decide (¬ b.2.2.2 = side) := by
  match n with
  | 0 => simp [frc, hl]
  | 1 => simp [frc, hl]
  | n + 2 => simp [frc, hl]
theorem frc_m {w h last side n : Nat} {b : Bd} (hl : b.2.2.2 = 2) (ho : b.2.2.1 = side) (h1 : 1 ≤ n) (h3 : n < 3) : frc w h last side n b = cfP w h b := by
  rcases (show n = 1 ∨ n = 2 by omega) with rfl | rfl <;> simp [frc, hl, ho]
theorem frc_0 {w h last side : Nat} {b : Bd} (hl : b.2.2.2 = 2) : frc w h last side 0 b = false := by simp [frc, hl]
theorem frc_1 {w h last side : Nat} {b : Bd} (hl : b.2.2.2 = 2) (ho : ¬ b.2.2.1 = side) : frc w h last side 1 b = false := by simp [frc, hl, ho]
theorem frc_any {w h last side n : Nat} {b : Bd} (hl : b.2.2.2 = 2) (ho : b.2.2.1 = side) : frc w h last side (n + 3) b = (PLY w h b).any (fun x => frc w h last side (n + 2) (mkB last b x)) := by simp [frc, hl, ho]
theorem frc_all {w h last side n : Nat} {b : Bd} (hl : b.2.2.2 = 2) (ho : ¬ b.2.2.1 = side) : frc w h last side (n + 2) b = (PLY w h b).all (fun x => frc w h last side (n + 1) (mkB last b x)) := by simp [frc, hl, ho]
theorem lsI_2 : lsI 2 = -9 := rfl
theorem lsI_n {l : Nat} (h : ¬ l = 2) : lsI l = nI l := by unfold lsI; rw [if_neg h]
theorem lsI_ne {l : Nat} (h : ¬ l = 2) (h3 : l < 3) : ¬ lsI l = -9 := by rw [lsI_n h]; exact nine_ne (by omega)
section FRC
variable {d : Nat} {I : MemI} {J : MemJ}
/-- the contract of isForced at a place: what it may change is P -/
def FCT (d w h last p N : Nat) (P : Nat → Nat → Prop) : Prop := ∀ (I : MemI) (J : MemJ) (b : Bd) (side n : Nat), Fld w h last I → PL p b I J → Bok (w * h) b → side < 2 → n ≤ N → CALL ΩC d kX5_isForced [.ref 3, .ref p, .int (nI side), .int (nI n)] I J (IQ (fun x I' J' => x = bI (frc w h last side n b) ∧ FR P I I' J J'))
theorem isF_lost {w h last p N side n : Nat} {P : Nat → Nat → Prop} {b : Bd} (hp : isP p) (hb : PL p b I J) (hl3 : b.2.2.2 < 3) (hl : ¬ b.2.2.2 = 2) (hs : side < 2) : CALL ΩC d kX5_isForced [.ref 3, .ref p, .int (nI side), .int (nI n)] I J (IQ (fun x I' J' => x = bI (frc w h last side n b) ∧ FR P I I' J J')) := by
  have e10 : I p 10 = lsI b.2.2.2 := hb.1 10 (by omega) (by omega)
  have hne := lsI_ne hl hl3
  have e10n := lsI_n hl
  obtain ⟨q1, q2, q3, q4, q5⟩ := isP_sh hp
  rw [frc_l hl]
  refine call_of_wp (by decide) (Nat.le_of_ble_eq_true rfl) ?_
  refine wp_aload_n (pc := 0) (i := 1) dX5_isForced_0 rfl rfl (by first | with_reducible assumption | rfl) ?_
  refine wp_getI (pc := 1) dX5_isForced_1 lf_X5_229 (by first | with_reducible assumption | rfl) (by first | with_reducible assumption | rfl) rfl ?_
  rw [e10]
  refine wp_bipush (pc := 4) (v := (-9)) dX5_isForced_4 (by decide +kernel) ?_
  refine wp_icmp_eq (pc := 6) (tgt := 23) dX5_isForced_6 (by decide) (fun c_6 => ?_) (fun c_6 => ?_)
  · exact absurd c_6 hne
  · refine wp_aload_n (pc := 9) (i := 1) dX5_isForced_9 rfl rfl (by first | with_reducible assumption | rfl) ?_
    refine wp_getI (pc := 10) dX5_isForced_10 lf_X5_229 (by first | with_reducible assumption | rfl) (by first | with_reducible assumption | rfl) rfl ?_
    rw [e10, e10n]
    refine wp_iload_n (pc := 13) (i := 2) dX5_isForced_13 rfl rfl ?_
    first | (refine wp_icmp_eqN (pc := 14) (tgt := 21) dX5_isForced_14 (by decide) (by first | with_reducible assumption | omega) (by first | with_reducible assumption | omega) (fun c_14 => ?_) (fun c_14 => ?_)) | (refine wp_icmp_eq (pc := 14) (tgt := 21) dX5_isForced_14 (by decide) (fun c_14 => ?_) (fun c_14 => ?_))
    · refine wp_iconst (pc := 21) (v := nI 0) dX5_isForced_21 (by decide +kernel) ?_
      refine wp_zreturn (pc := 22) dX5_isForced_22 rfl (by first | exact bI_narrow _ | exact nI_narrow01 (by omega) | decide +kernel | assumption) ?_
      first | (have g : b.2.2.2 = side := c_14; exact iq_i ⟨(dI_f (fun z => z g)).symm, FR.refl⟩) | (have g : ¬ b.2.2.2 = side := c_14; exact iq_i ⟨(dI_t g).symm, FR.refl⟩)
    · refine wp_iconst (pc := 17) (v := nI 1) dX5_isForced_17 (by decide +kernel) ?_
      refine wp_goto (pc := 18) (tgt := 22) dX5_isForced_18 (by decide) ?_
      refine wp_zreturn (pc := 22) dX5_isForced_22 rfl (by first | exact bI_narrow _ | exact nI_narrow01 (by omega) | decide +kernel | assumption) ?_
      first | (have g : b.2.2.2 = side := c_14; exact iq_i ⟨(dI_f (fun z => z g)).symm, FR.refl⟩) | (have g : ¬ b.2.2.2 = side := c_14; exact iq_i ⟨(dI_t g).symm, FR.refl⟩)
theorem isF_fell {w h last p N side n : Nat} {P : Nat → Nat → Prop} {b : Bd} (hp : isP p) (hF : Fld w h last I) (hb : PL p b I J) (hB : Bok (w * h) b) (hl : b.2.2.2 = 2) (ho : b.2.2.1 = side) (hn : n < 3) : CALL ΩC (d + 4) kX5_isForced [.ref 3, .ref p, .int (nI side), .int (nI n)] I J (IQ (fun x I' J' => x = bI (frc w h last side n b) ∧ FR P I I' J J')) := by
  have e10 : I p 10 = -9 := by rw [hb.1 10 (by omega) (by omega)]; show lsI b.2.2.2 = -9; rw [hl]; rfl
  have e9 : I p 9 = nI side := by rw [hb.1 9 (by omega) (by omega)]; show nI b.2.2.1 = _; rw [ho]
  have hs2 : side < 2 := by rw [← ho]; exact hB.2.2.2.1
  obtain ⟨q1, q2, q3, q4, q5⟩ := isP_sh hp
  by_cases h0 : n = 0
  · subst h0
    rw [frc_0 hl]
    refine call_of_wp (by decide) (Nat.le_of_ble_eq_true rfl) ?_
    refine wp_aload_n (pc := 0) (i := 1) dX5_isForced_0 rfl rfl (by first | with_reducible assumption | rfl) ?_
    refine wp_getI (pc := 1) dX5_isForced_1 lf_X5_229 (by first | with_reducible assumption | rfl) (by first | with_reducible assumption | rfl) rfl ?_
    rw [e10]
    refine wp_bipush (pc := 4) (v := (-9)) dX5_isForced_4 (by decide +kernel) ?_
    refine wp_icmp_eq (pc := 6) (tgt := 23) dX5_isForced_6 (by decide) (fun c_6 => ?_) (fun c_6 => ?_)
    · refine wp_aload_n (pc := 23) (i := 1) dX5_isForced_23 rfl rfl (by first | with_reducible assumption | rfl) ?_
      refine wp_getI (pc := 24) dX5_isForced_24 lf_X5_100 (by first | with_reducible assumption | rfl) (by first | with_reducible assumption | rfl) rfl ?_
      rw [e9]
      refine wp_iload_n (pc := 27) (i := 2) dX5_isForced_27 rfl rfl ?_
      first | (refine wp_icmp_neN (pc := 28) (tgt := 35) dX5_isForced_28 (by decide) (by first | with_reducible assumption | omega) (by first | with_reducible assumption | omega) (fun c_28 => ?_) (fun c_28 => ?_)) | (refine wp_icmp_ne (pc := 28) (tgt := 35) dX5_isForced_28 (by decide) (fun c_28 => ?_) (fun c_28 => ?_))
      · exact absurd rfl c_28
      · refine wp_iconst (pc := 31) (v := nI 1) dX5_isForced_31 (by decide +kernel) ?_
        refine wp_goto (pc := 32) (tgt := 36) dX5_isForced_32 (by decide) ?_
        refine wp_istore (pc := 36) dX5_isForced_36 (by decide) ?_
        refine wp_iload (pc := 38) dX5_isForced_38 rfl ?_
        refine wp_if_eqN (pc := 40) (tgt := 66) dX5_isForced_40 (by decide) (by first | with_reducible assumption | omega) (fun c_40 => ?_) (fun c_40 => ?_)
        · exact absurd c_40 (by decide)
        · refine wp_iload_n (pc := 43) (i := 3) dX5_isForced_43 rfl rfl ?_
          refine wp_iconst (pc := 44) (v := nI 3) dX5_isForced_44 (by decide +kernel) ?_
          first | (refine wp_icmp_geN (pc := 45) (tgt := 66) dX5_isForced_45 (by decide) (by first | with_reducible assumption | omega) (by first | with_reducible assumption | omega) (fun c_45 => ?_) (fun c_45 => ?_)) | (refine wp_icmp_ge (pc := 45) (tgt := 66) dX5_isForced_45 (by decide) (fun c_45 => ?_) (fun c_45 => ?_))
          · exact absurd c_45 (by omega)
          · refine wp_iload_n (pc := 48) (i := 3) dX5_isForced_48 rfl rfl ?_
            first | (refine wp_if_leN (pc := 49) (tgt := 64) dX5_isForced_49 (by decide) (by first | with_reducible assumption | omega) (fun c_49 => ?_) (fun c_49 => ?_)) | (refine wp_if_le (pc := 49) (tgt := 64) dX5_isForced_49 (by decide) (fun c_49 => ?_) (fun c_49 => ?_))
            · refine wp_iconst (pc := 64) (v := nI 0) dX5_isForced_64 (by decide +kernel) ?_
              refine wp_zreturn (pc := 65) dX5_isForced_65 rfl (by first | exact bI_narrow _ | exact nI_narrow01 (by omega) | decide +kernel | assumption) ?_
              exact iq_i ⟨rfl, FR.refl⟩
            · exact absurd c_49 (by omega)
    · exact absurd rfl c_6
  · rw [frc_m hl ho (by omega) hn]
    cases hc : cfP w h b
    · refine call_of_wp (by decide) (Nat.le_of_ble_eq_true rfl) ?_
      refine wp_aload_n (pc := 0) (i := 1) dX5_isForced_0 rfl rfl (by first | with_reducible assumption | rfl) ?_
      refine wp_getI (pc := 1) dX5_isForced_1 lf_X5_229 (by first | with_reducible assumption | rfl) (by first | with_reducible assumption | rfl) rfl ?_
      rw [e10]
      refine wp_bipush (pc := 4) (v := (-9)) dX5_isForced_4 (by decide +kernel) ?_
      refine wp_icmp_eq (pc := 6) (tgt := 23) dX5_isForced_6 (by decide) (fun c_6 => ?_) (fun c_6 => ?_)
      · refine wp_aload_n (pc := 23) (i := 1) dX5_isForced_23 rfl rfl (by first | with_reducible assumption | rfl) ?_
        refine wp_getI (pc := 24) dX5_isForced_24 lf_X5_100 (by first | with_reducible assumption | rfl) (by first | with_reducible assumption | rfl) rfl ?_
        rw [e9]
        refine wp_iload_n (pc := 27) (i := 2) dX5_isForced_27 rfl rfl ?_
        first | (refine wp_icmp_neN (pc := 28) (tgt := 35) dX5_isForced_28 (by decide) (by first | with_reducible assumption | omega) (by first | with_reducible assumption | omega) (fun c_28 => ?_) (fun c_28 => ?_)) | (refine wp_icmp_ne (pc := 28) (tgt := 35) dX5_isForced_28 (by decide) (fun c_28 => ?_) (fun c_28 => ?_))
        · exact absurd rfl c_28
        · refine wp_iconst (pc := 31) (v := nI 1) dX5_isForced_31 (by decide +kernel) ?_
          refine wp_goto (pc := 32) (tgt := 36) dX5_isForced_32 (by decide) ?_
          refine wp_istore (pc := 36) dX5_isForced_36 (by decide) ?_
          refine wp_iload (pc := 38) dX5_isForced_38 rfl ?_
          refine wp_if_eqN (pc := 40) (tgt := 66) dX5_isForced_40 (by decide) (by first | with_reducible assumption | omega) (fun c_40 => ?_) (fun c_40 => ?_)
          · exact absurd c_40 (by decide)
          · refine wp_iload_n (pc := 43) (i := 3) dX5_isForced_43 rfl rfl ?_
            refine wp_iconst (pc := 44) (v := nI 3) dX5_isForced_44 (by decide +kernel) ?_
            first | (refine wp_icmp_geN (pc := 45) (tgt := 66) dX5_isForced_45 (by decide) (by first | with_reducible assumption | omega) (by first | with_reducible assumption | omega) (fun c_45 => ?_) (fun c_45 => ?_)) | (refine wp_icmp_ge (pc := 45) (tgt := 66) dX5_isForced_45 (by decide) (fun c_45 => ?_) (fun c_45 => ?_))
            · exact absurd c_45 (by omega)
            · refine wp_iload_n (pc := 48) (i := 3) dX5_isForced_48 rfl rfl ?_
              first | (refine wp_if_leN (pc := 49) (tgt := 64) dX5_isForced_49 (by decide) (by first | with_reducible assumption | omega) (fun c_49 => ?_) (fun c_49 => ?_)) | (refine wp_if_le (pc := 49) (tgt := 64) dX5_isForced_49 (by decide) (fun c_49 => ?_) (fun c_49 => ?_))
              · exact absurd c_49 (by omega)
              · refine wp_aload_n (pc := 52) (i := 1) dX5_isForced_52 rfl rfl (by first | with_reducible assumption | rfl) ?_
                refine wp_aload_n (pc := 53) (i := 0) dX5_isForced_53 rfl rfl (by first | with_reducible assumption | rfl) ?_
                refine wp_cVP1 (pc := 54) (ci := 2) dX5_isForced_54 lm_X5_248 m_X2_canFellLast (by first | with_reducible assumption | rfl) (by first | with_reducible assumption | rfl) (by decide) rfl (Nat.le_of_ble_eq_true rfl) (sp_X2_canFellLast hp hF hb hB.1 hB.2.2.2.1) ?_
                rw [hc]
                refine wp_if_eqB (pc := 57) (tgt := 64) dX5_isForced_57 (by decide) (fun c_57 => ?_) (fun c_57 => ?_)
                · refine wp_iconst (pc := 64) (v := nI 0) dX5_isForced_64 (by decide +kernel) ?_
                  refine wp_zreturn (pc := 65) dX5_isForced_65 rfl (by first | exact bI_narrow _ | exact nI_narrow01 (by omega) | decide +kernel | assumption) ?_
                  exact iq_i ⟨rfl, FR.refl⟩
                · exact Bool.noConfusion c_57
      · exact absurd rfl c_6
    · refine call_of_wp (by decide) (Nat.le_of_ble_eq_true rfl) ?_
      refine wp_aload_n (pc := 0) (i := 1) dX5_isForced_0 rfl rfl (by first | with_reducible assumption | rfl) ?_
      refine wp_getI (pc := 1) dX5_isForced_1 lf_X5_229 (by first | with_reducible assumption | rfl) (by first | with_reducible assumption | rfl) rfl ?_
      rw [e10]
      refine wp_bipush (pc := 4) (v := (-9)) dX5_isForced_4 (by decide +kernel) ?_
      refine wp_icmp_eq (pc := 6) (tgt := 23) dX5_isForced_6 (by decide) (fun c_6 => ?_) (fun c_6 => ?_)
      · refine wp_aload_n (pc := 23) (i := 1) dX5_isForced_23 rfl rfl (by first | with_reducible assumption | rfl) ?_
        refine wp_getI (pc := 24) dX5_isForced_24 lf_X5_100 (by first | with_reducible assumption | rfl) (by first | with_reducible assumption | rfl) rfl ?_
        rw [e9]
        refine wp_iload_n (pc := 27) (i := 2) dX5_isForced_27 rfl rfl ?_
        first | (refine wp_icmp_neN (pc := 28) (tgt := 35) dX5_isForced_28 (by decide) (by first | with_reducible assumption | omega) (by first | with_reducible assumption | omega) (fun c_28 => ?_) (fun c_28 => ?_)) | (refine wp_icmp_ne (pc := 28) (tgt := 35) dX5_isForced_28 (by decide) (fun c_28 => ?_) (fun c_28 => ?_))
        · exact absurd rfl c_28
        · refine wp_iconst (pc := 31) (v := nI 1) dX5_isForced_31 (by decide +kernel) ?_
          refine wp_goto (pc := 32) (tgt := 36) dX5_isForced_32 (by decide) ?_
          refine wp_istore (pc := 36) dX5_isForced_36 (by decide) ?_
          refine wp_iload (pc := 38) dX5_isForced_38 rfl ?_
          refine wp_if_eqN (pc := 40) (tgt := 66) dX5_isForced_40 (by decide) (by first | with_reducible assumption | omega) (fun c_40 => ?_) (fun c_40 => ?_)
          · exact absurd c_40 (by decide)
          · refine wp_iload_n (pc := 43) (i := 3) dX5_isForced_43 rfl rfl ?_
            refine wp_iconst (pc := 44) (v := nI 3) dX5_isForced_44 (by decide +kernel) ?_
            first | (refine wp_icmp_geN (pc := 45) (tgt := 66) dX5_isForced_45 (by decide) (by first | with_reducible assumption | omega) (by first | with_reducible assumption | omega) (fun c_45 => ?_) (fun c_45 => ?_)) | (refine wp_icmp_ge (pc := 45) (tgt := 66) dX5_isForced_45 (by decide) (fun c_45 => ?_) (fun c_45 => ?_))
            · exact absurd c_45 (by omega)
            · refine wp_iload_n (pc := 48) (i := 3) dX5_isForced_48 rfl rfl ?_
              first | (refine wp_if_leN (pc := 49) (tgt := 64) dX5_isForced_49 (by decide) (by first | with_reducible assumption | omega) (fun c_49 => ?_) (fun c_49 => ?_)) | (refine wp_if_le (pc := 49) (tgt := 64) dX5_isForced_49 (by decide) (fun c_49 => ?_) (fun c_49 => ?_))
              · exact absurd c_49 (by omega)
              · refine wp_aload_n (pc := 52) (i := 1) dX5_isForced_52 rfl rfl (by first | with_reducible assumption | rfl) ?_
                refine wp_aload_n (pc := 53) (i := 0) dX5_isForced_53 rfl rfl (by first | with_reducible assumption | rfl) ?_
                refine wp_cVP1 (pc := 54) (ci := 2) dX5_isForced_54 lm_X5_248 m_X2_canFellLast (by first | with_reducible assumption | rfl) (by first | with_reducible assumption | rfl) (by decide) rfl (Nat.le_of_ble_eq_true rfl) (sp_X2_canFellLast hp hF hb hB.1 hB.2.2.2.1) ?_
                rw [hc]
                refine wp_if_eqB (pc := 57) (tgt := 64) dX5_isForced_57 (by decide) (fun c_57 => ?_) (fun c_57 => ?_)
                · exact Bool.noConfusion c_57
                · refine wp_iconst (pc := 60) (v := nI 1) dX5_isForced_60 (by decide +kernel) ?_
                  refine wp_goto (pc := 61) (tgt := 65) dX5_isForced_61 (by decide) ?_
                  refine wp_zreturn (pc := 65) dX5_isForced_65 rfl (by first | exact bI_narrow _ | exact nI_narrow01 (by omega) | decide +kernel | assumption) ?_
                  exact iq_i ⟨rfl, FR.refl⟩
      · exact absurd rfl c_6
theorem isF_no {w h last p q side n : Nat} {P : Nat → Nat → Prop} {b : Bd} (hp : isP p) (hq : isP q) (hu : ΩC.2 p 0 = some q) (hb : PL p b I J) (hB : Bok (w * h) b) (hl : b.2.2.2 = 2) (ho : ¬ b.2.2.1 = side) (hs : side < 2) (hn : n < 2) : CALL ΩC d kX5_isForced [.ref 3, .ref p, .int (nI side), .int (nI n)] I J (IQ (fun x I' J' => x = bI (frc w h last side n b) ∧ FR P I I' J J')) := by
  have e10 : I p 10 = -9 := by rw [hb.1 10 (by omega) (by omega)]; show lsI b.2.2.2 = -9; rw [hl]; rfl
  have e9 : I p 9 = nI b.2.2.1 := hb.1 9 (by omega) (by omega)
  have ho2 := hB.2.2.2.1
  have e : frc w h last side n b = false := by
    rcases (show n = 0 ∨ n = 1 by omega) with rfl | rfl
    · exact frc_0 hl
    · exact frc_1 hl ho
  obtain ⟨r1, r2, r3, r4, r5⟩ := isP_sh hq
  obtain ⟨q1, q2, q3, q4, q5⟩ := isP_sh hp
  rw [e]
  refine call_of_wp (by decide) (Nat.le_of_ble_eq_true rfl) ?_
  refine wp_aload_n (pc := 0) (i := 1) dX5_isForced_0 rfl rfl (by first | with_reducible assumption | rfl) ?_
  refine wp_getI (pc := 1) dX5_isForced_1 lf_X5_229 (by first | with_reducible assumption | rfl) (by first | with_reducible assumption | rfl) rfl ?_
  rw [e10]
  refine wp_bipush (pc := 4) (v := (-9)) dX5_isForced_4 (by decide +kernel) ?_
  refine wp_icmp_eq (pc := 6) (tgt := 23) dX5_isForced_6 (by decide) (fun c_6 => ?_) (fun c_6 => ?_)
  · refine wp_aload_n (pc := 23) (i := 1) dX5_isForced_23 rfl rfl (by first | with_reducible assumption | rfl) ?_
    refine wp_getI (pc := 24) dX5_isForced_24 lf_X5_100 (by first | with_reducible assumption | rfl) (by first | with_reducible assumption | rfl) rfl ?_
    rw [e9]
    refine wp_iload_n (pc := 27) (i := 2) dX5_isForced_27 rfl rfl ?_
    first | (refine wp_icmp_neN (pc := 28) (tgt := 35) dX5_isForced_28 (by decide) (by first | with_reducible assumption | omega) (by first | with_reducible assumption | omega) (fun c_28 => ?_) (fun c_28 => ?_)) | (refine wp_icmp_ne (pc := 28) (tgt := 35) dX5_isForced_28 (by decide) (fun c_28 => ?_) (fun c_28 => ?_))
    · refine wp_iconst (pc := 35) (v := nI 0) dX5_isForced_35 (by decide +kernel) ?_
      refine wp_istore (pc := 36) dX5_isForced_36 (by decide) ?_
      refine wp_iload (pc := 38) dX5_isForced_38 rfl ?_
      refine wp_if_eqN (pc := 40) (tgt := 66) dX5_isForced_40 (by decide) (by first | with_reducible assumption | omega) (fun c_40 => ?_) (fun c_40 => ?_)
      · refine wp_aload_n (pc := 66) (i := 1) dX5_isForced_66 rfl rfl (by first | with_reducible assumption | rfl) ?_
        refine wp_getR (pc := 67) dX5_isForced_67 lf_X5_252 (by first | with_reducible assumption | rfl) (by first | with_reducible assumption | rfl) rfl (by first | with_reducible assumption | rfl) (by first | with_reducible assumption | rfl) ?_
        refine wp_astore (pc := 70) dX5_isForced_70 (by first | with_reducible assumption | rfl) (by decide) ?_
        refine wp_iload_n (pc := 72) (i := 3) dX5_isForced_72 rfl rfl ?_
        refine wp_iconst (pc := 73) (v := nI 2) dX5_isForced_73 (by decide +kernel) ?_
        first | (refine wp_icmp_ltN (pc := 74) (tgt := 82) dX5_isForced_74 (by decide) (by first | with_reducible assumption | omega) (by first | with_reducible assumption | omega) (fun c_74 => ?_) (fun c_74 => ?_)) | (refine wp_icmp_lt (pc := 74) (tgt := 82) dX5_isForced_74 (by decide) (fun c_74 => ?_) (fun c_74 => ?_))
        · refine wp_iconst (pc := 82) (v := nI 0) dX5_isForced_82 (by decide +kernel) ?_
          refine wp_zreturn (pc := 83) dX5_isForced_83 rfl (by first | exact bI_narrow _ | exact nI_narrow01 (by omega) | decide +kernel | assumption) ?_
          exact iq_i ⟨rfl, FR.refl⟩
        · exact absurd hn c_74
      · exact absurd rfl c_40
    · exact absurd c_28 ho
  · exact absurd rfl c_6
theorem isF_no0 {w h last side n : Nat} {P : Nat → Nat → Prop} {b : Bd} (hb : PL 11 b I J) (hB : Bok (w * h) b) (hl : b.2.2.2 = 2) (ho : ¬ b.2.2.1 = side) (hs : side < 2) (hn : n < 2) : CALL ΩC d kX5_isForced [.ref 3, .ref 11, .int (nI side), .int (nI n)] I J (IQ (fun x I' J' => x = bI (frc w h last side n b) ∧ FR P I I' J J')) := by
  have e10 : I 11 10 = -9 := by rw [hb.1 10 (by omega) (by omega)]; show lsI b.2.2.2 = -9; rw [hl]; rfl
  have e9 : I 11 9 = nI b.2.2.1 := hb.1 9 (by omega) (by omega)
  have ho2 := hB.2.2.2.1
  have e : frc w h last side n b = false := by
    rcases (show n = 0 ∨ n = 1 by omega) with rfl | rfl
    · exact frc_0 hl
    · exact frc_1 hl ho
  have hu : ΩC.2 11 0 = none := rfl
  obtain ⟨q1, q2, q3, q4, q5⟩ := isP_sh (p := 11) ⟨by decide, by decide⟩
  rw [e]
  refine call_of_wp (by decide) (Nat.le_of_ble_eq_true rfl) ?_
  refine wp_aload_n (pc := 0) (i := 1) dX5_isForced_0 rfl rfl (by first | with_reducible assumption | rfl) ?_
  refine wp_getI (pc := 1) dX5_isForced_1 lf_X5_229 (by first | with_reducible assumption | rfl) (by first | with_reducible assumption | rfl) rfl ?_
  rw [e10]
  refine wp_bipush (pc := 4) (v := (-9)) dX5_isForced_4 (by decide +kernel) ?_
  refine wp_icmp_eq (pc := 6) (tgt := 23) dX5_isForced_6 (by decide) (fun c_6 => ?_) (fun c_6 => ?_)
  · refine wp_aload_n (pc := 23) (i := 1) dX5_isForced_23 rfl rfl (by first | with_reducible assumption | rfl) ?_
    refine wp_getI (pc := 24) dX5_isForced_24 lf_X5_100 (by first | with_reducible assumption | rfl) (by first | with_reducible assumption | rfl) rfl ?_
    rw [e9]
    refine wp_iload_n (pc := 27) (i := 2) dX5_isForced_27 rfl rfl ?_
    first | (refine wp_icmp_neN (pc := 28) (tgt := 35) dX5_isForced_28 (by decide) (by first | with_reducible assumption | omega) (by first | with_reducible assumption | omega) (fun c_28 => ?_) (fun c_28 => ?_)) | (refine wp_icmp_ne (pc := 28) (tgt := 35) dX5_isForced_28 (by decide) (fun c_28 => ?_) (fun c_28 => ?_))
    · refine wp_iconst (pc := 35) (v := nI 0) dX5_isForced_35 (by decide +kernel) ?_
      refine wp_istore (pc := 36) dX5_isForced_36 (by decide) ?_
      refine wp_iload (pc := 38) dX5_isForced_38 rfl ?_
      refine wp_if_eqN (pc := 40) (tgt := 66) dX5_isForced_40 (by decide) (by first | with_reducible assumption | omega) (fun c_40 => ?_) (fun c_40 => ?_)
      · refine wp_aload_n (pc := 66) (i := 1) dX5_isForced_66 rfl rfl (by first | with_reducible assumption | rfl) ?_
        refine wp_getN (pc := 67) dX5_isForced_67 lf_X5_252 (by first | with_reducible assumption | rfl) (by first | with_reducible assumption | rfl) rfl (by first | with_reducible assumption | rfl) ?_
        refine wp_astoreN (pc := 70) dX5_isForced_70 (by decide) ?_
        refine wp_iload_n (pc := 72) (i := 3) dX5_isForced_72 rfl rfl ?_
        refine wp_iconst (pc := 73) (v := nI 2) dX5_isForced_73 (by decide +kernel) ?_
        first | (refine wp_icmp_ltN (pc := 74) (tgt := 82) dX5_isForced_74 (by decide) (by first | with_reducible assumption | omega) (by first | with_reducible assumption | omega) (fun c_74 => ?_) (fun c_74 => ?_)) | (refine wp_icmp_lt (pc := 74) (tgt := 82) dX5_isForced_74 (by decide) (fun c_74 => ?_) (fun c_74 => ?_))
        · refine wp_iconst (pc := 82) (v := nI 0) dX5_isForced_82 (by decide +kernel) ?_
          refine wp_zreturn (pc := 83) dX5_isForced_83 rfl (by first | exact bI_narrow _ | exact nI_narrow01 (by omega) | decide +kernel | assumption) ?_
          exact iq_i ⟨rfl, FR.refl⟩
        · exact absurd hn c_74
      · exact absurd rfl c_40
    · exact absurd c_28 ho
  · exact absurd rfl c_6
theorem isF_any {w h last p q N k side : Nat} {C P : Nat → Nat → Prop} {b : Bd} (hp : isP p) (hq : isP q) (hpq : ¬ p = q) (hu : ΩC.2 p 0 = some q) (hC : ∀ a i, C a i → a ≠ p ∧ a ≠ p + 5) (hP1 : P p 2) (hP2 : ∀ i, P (p + 5) i) (hP3 : ∀ i, P q i) (hP4 : ∀ a i, C a i → P a i) (nF : ∀ a i, 3 ≤ a → a ≤ 8 → ¬ P a i) (nP : ∀ i, 3 ≤ i → i ≤ 10 → ¬ P p i) (hl9 : last < 10) (IH : FCT (d + 4) w h last q N C) (hF : Fld w h last I) (hb : PL p b I J) (hB : Bok (w * h) b) (hl : b.2.2.2 = 2) (ho : b.2.2.1 = side) (hn : k + 2 ≤ N) (hk9 : k < 1000) : CALL ΩC (d + 5) kX5_isForced [.ref 3, .ref p, .int (nI side), .int (nI (k + 3))] I J (IQ (fun x I' J' => x = bI (frc w h last side (k + 3) b) ∧ FR P I I' J J')) := by
  have e10 : I p 10 = -9 := by rw [hb.1 10 (by omega) (by omega)]; show lsI b.2.2.2 = -9; rw [hl]; rfl
  have e9 : I p 9 = nI side := by rw [hb.1 9 (by omega) (by omega)]; show nI b.2.2.1 = _; rw [ho]
  have hs2 : side < 2 := by rw [← ho]; exact hB.2.2.2.1
  have hlen := PLY_len (w := w) (h := h) hB.2.2.2.1
  have hp9 : 9 ≤ p ∧ p ≤ 13 := hp
  have hq9 : 9 ≤ q ∧ q ≤ 13 := hq
  have loop : ∀ m j (I2 : MemI) (J2 : MemJ), m + j = (PLY w h b).length → FR P I I2 J J2 → I2 p 2 = nI (PLY w h b).length → (∀ z, z < (PLY w h b).length → I2 (p + 5) z = encC ((PLY w h b).getD z 0)) → (∀ z, z < j → frc w h last side (k + 2) (mkB last b ((PLY w h b).getD z 0)) = false) → WP ΩC (d + 5) kX5_isForced 94 [(0, .ref 3), (1, .ref p), (2, .int (nI side)), (3, .int (nI (k + 3))), (4, .int (nI 1)), (5, .ref q), (6, .int (nI (PLY w h b).length)), (7, .int (nI j))] [] I2 J2 (IQ (fun x I' J' => x = bI (frc w h last side (k + 3) b) ∧ FR P I I' J J')) := by
    obtain ⟨r1, r2, r3, r4, r5⟩ := isP_sh hq
    obtain ⟨q1, q2, q3, q4, q5⟩ := isP_sh hp
    intro m
    induction m with
    | zero =>
      intro j I2 J2 hj hfr h2 h5 hall
      have hj' : j = (PLY w h b).length := (Nat.zero_add j).symm.trans hj
      have e : frc w h last side (k + 3) b = false := by
        rw [frc_any hl ho, List.any_eq_false]
        intro x hx
        obtain ⟨z, hz, rfl⟩ := List.mem_iff_getElem.mp hx
        have := hall z (by omega)
        rw [List.getD_eq_getElem?_getD, List.getElem?_eq_getElem hz] at this
        rw [show frc w h last side (k + 2) (mkB last b (PLY w h b)[z]) = false from this]
        exact Bool.false_ne_true
      rw [e]
      refine wp_iload (pc := 94) dX5_isForced_94 rfl ?_
      refine wp_iload (pc := 96) dX5_isForced_96 rfl ?_
      first | (refine wp_icmp_geN (pc := 98) (tgt := 141) dX5_isForced_98 (by decide) (by first | with_reducible assumption | omega) (by first | with_reducible assumption | omega) (fun c_98 => ?_) (fun c_98 => ?_)) | (refine wp_icmp_ge (pc := 98) (tgt := 141) dX5_isForced_98 (by decide) (fun c_98 => ?_) (fun c_98 => ?_))
      · refine wp_iload (pc := 141) dX5_isForced_141 rfl ?_
        refine wp_if_neN (pc := 143) (tgt := 150) dX5_isForced_143 (by decide) (by first | with_reducible assumption | omega) (fun c_143 => ?_) (fun c_143 => ?_)
        · refine wp_iconst (pc := 150) (v := nI 0) dX5_isForced_150 (by decide +kernel) ?_
          refine wp_zreturn (pc := 151) dX5_isForced_151 rfl (by first | exact bI_narrow _ | exact nI_narrow01 (by omega) | decide +kernel | assumption) ?_
          exact iq_i ⟨rfl, hfr⟩
        · exact absurd c_143 (by decide)
      · exact absurd (show (PLY w h b).length ≤ j by omega) c_98
    | succ m ih =>
      intro j I2 J2 hj hfr h2 h5 hall
      have hjl : j < (PLY w h b).length := by omega
      have hF2 := Fld_fr hF hfr nF
      have hb2 := PL_fr hb hfr nP
      have hlast : I2 3 7 = nI last := hF2.2.2.2.1
      obtain ⟨m1, m2, m3⟩ := PLY_mem hB.1 (PLY_get hjl)
      generalize hx : (PLY w h b).getD j 0 = x at m2 m3
      have hBk := Bok_mk hB m2 m3 hl9
      have hw1 : FR P I2 (wI q (mkB last b x) I2) J2 (wJ q (mkB last b x) J2) := FR.w hP3
      have hF3 := Fld_fr hF2 hw1 nF
      have hstep := IH (wI q (mkB last b x) I2) (wJ q (mkB last b x) J2) (mkB last b x) side (k + 2) hF3 PL_w hBk hs2 hn
      have hv0 : frc w h last side (k + 2) (mkB last b x) = true ∨ frc w h last side (k + 2) (mkB last b x) = false := by
        cases frc w h last side (k + 2) (mkB last b x) <;> simp
      have hply := sp_X2_ply (d := d + 3) (J := J2) (PLY w h b) hp h2 hlen h5 hjl
      rw [hx] at hply
      have hfol := sp_X2_follow (d := d) (p := q) (q := p) hq hp hpq hb2 hB.1 hB.2.1 hB.2.2.1 hB.2.2.2.1 m2 hl9
      rcases hv0 with hv | hv
      · have e : frc w h last side (k + 3) b = true := by
          rw [frc_any hl ho, List.any_eq_true]
          exact ⟨x, by rw [← hx]; exact PLY_get hjl, hv⟩
        rw [e]
        refine wp_iload (pc := 94) dX5_isForced_94 rfl ?_
        refine wp_iload (pc := 96) dX5_isForced_96 rfl ?_
        first | (refine wp_icmp_geN (pc := 98) (tgt := 141) dX5_isForced_98 (by decide) (by first | with_reducible assumption | omega) (by first | with_reducible assumption | omega) (fun c_98 => ?_) (fun c_98 => ?_)) | (refine wp_icmp_ge (pc := 98) (tgt := 141) dX5_isForced_98 (by decide) (fun c_98 => ?_) (fun c_98 => ?_))
        · exact absurd c_98 (by omega)
        · refine wp_aload (pc := 101) dX5_isForced_101 rfl (by first | with_reducible assumption | rfl) ?_
          refine wp_aload_n (pc := 103) (i := 1) dX5_isForced_103 rfl rfl (by first | with_reducible assumption | rfl) ?_
          refine wp_aload_n (pc := 104) (i := 1) dX5_isForced_104 rfl rfl (by first | with_reducible assumption | rfl) ?_
          refine wp_iload (pc := 105) dX5_isForced_105 rfl ?_
          refine wp_cVP1 (pc := 107) (ci := 2) dX5_isForced_107 lm_X5_151 m_X2_ply (by first | with_reducible assumption | rfl) (by first | with_reducible assumption | rfl) (by decide) rfl (Nat.le_of_ble_eq_true rfl) hply ?_
          refine wp_aload_n (pc := 110) (i := 0) dX5_isForced_110 rfl rfl (by first | with_reducible assumption | rfl) ?_
          refine wp_getI (pc := 111) dX5_isForced_111 lf_X5_146 (by first | with_reducible assumption | rfl) (by first | with_reducible assumption | rfl) rfl ?_
          rw [hlast]
          refine wp_cVV3 (pc := 114) (ci := 2) dX5_isForced_114 lm_X5_232 m_X2_follow (by first | with_reducible assumption | rfl) (by first | with_reducible assumption | rfl) (by decide) rfl (Nat.le_of_ble_eq_true rfl) hfol (fun I_114 J_114 h_114 => ?_)
          obtain ⟨rfl, rfl⟩ := h_114
          refine wp_aload_n (pc := 117) (i := 0) dX5_isForced_117 rfl rfl (by first | with_reducible assumption | rfl) ?_
          refine wp_aload (pc := 118) dX5_isForced_118 rfl (by first | with_reducible assumption | rfl) ?_
          refine wp_iload_n (pc := 120) (i := 2) dX5_isForced_120 rfl rfl ?_
          refine wp_iload_n (pc := 121) (i := 3) dX5_isForced_121 rfl rfl ?_
          refine wp_iconst (pc := 122) (v := nI 1) dX5_isForced_122 (by decide +kernel) ?_
          first | (refine wp_isubN (pc := 123) dX5_isForced_123 (by first | with_reducible assumption | omega) ?_) | (refine wp_isub (pc := 123) dX5_isForced_123 ?_)
          rw [show k + 3 - 1 = k + 2 from rfl]
          refine wp_cSI4 (pc := 124) dX5_isForced_124 lm_X5_166 m_X5_isForced (Nat.le_of_ble_eq_true rfl) hstep (fun x_124 I_124 J_124 h_124 => ?_)
          obtain ⟨rfl, hfr2⟩ := h_124
          rw [hv]
          refine wp_iload (pc := 127) dX5_isForced_127 rfl ?_
          refine wp_icmp_ne (pc := 129) (tgt := 135) dX5_isForced_129 (by decide) (fun c_129 => ?_) (fun c_129 => ?_)
          · exact absurd rfl c_129
          · refine wp_iload (pc := 132) dX5_isForced_132 rfl ?_
            refine wp_zreturn (pc := 134) dX5_isForced_134 rfl (by first | exact bI_narrow _ | exact nI_narrow01 (by omega) | decide +kernel | assumption) ?_
            exact iq_i ⟨rfl, (hfr.trans hw1).trans (hfr2.mono hP4)⟩
      · have h0 := fun I4 J4 => ih (j + 1) I4 J4 (by omega)
        refine wp_iload (pc := 94) dX5_isForced_94 rfl ?_
        refine wp_iload (pc := 96) dX5_isForced_96 rfl ?_
        first | (refine wp_icmp_geN (pc := 98) (tgt := 141) dX5_isForced_98 (by decide) (by first | with_reducible assumption | omega) (by first | with_reducible assumption | omega) (fun c_98 => ?_) (fun c_98 => ?_)) | (refine wp_icmp_ge (pc := 98) (tgt := 141) dX5_isForced_98 (by decide) (fun c_98 => ?_) (fun c_98 => ?_))
        · exact absurd c_98 (by omega)
        · refine wp_aload (pc := 101) dX5_isForced_101 rfl (by first | with_reducible assumption | rfl) ?_
          refine wp_aload_n (pc := 103) (i := 1) dX5_isForced_103 rfl rfl (by first | with_reducible assumption | rfl) ?_
          refine wp_aload_n (pc := 104) (i := 1) dX5_isForced_104 rfl rfl (by first | with_reducible assumption | rfl) ?_
          refine wp_iload (pc := 105) dX5_isForced_105 rfl ?_
          refine wp_cVP1 (pc := 107) (ci := 2) dX5_isForced_107 lm_X5_151 m_X2_ply (by first | with_reducible assumption | rfl) (by first | with_reducible assumption | rfl) (by decide) rfl (Nat.le_of_ble_eq_true rfl) hply ?_
          refine wp_aload_n (pc := 110) (i := 0) dX5_isForced_110 rfl rfl (by first | with_reducible assumption | rfl) ?_
          refine wp_getI (pc := 111) dX5_isForced_111 lf_X5_146 (by first | with_reducible assumption | rfl) (by first | with_reducible assumption | rfl) rfl ?_
          rw [hlast]
          refine wp_cVV3 (pc := 114) (ci := 2) dX5_isForced_114 lm_X5_232 m_X2_follow (by first | with_reducible assumption | rfl) (by first | with_reducible assumption | rfl) (by decide) rfl (Nat.le_of_ble_eq_true rfl) hfol (fun I_114 J_114 h_114 => ?_)
          obtain ⟨rfl, rfl⟩ := h_114
          refine wp_aload_n (pc := 117) (i := 0) dX5_isForced_117 rfl rfl (by first | with_reducible assumption | rfl) ?_
          refine wp_aload (pc := 118) dX5_isForced_118 rfl (by first | with_reducible assumption | rfl) ?_
          refine wp_iload_n (pc := 120) (i := 2) dX5_isForced_120 rfl rfl ?_
          refine wp_iload_n (pc := 121) (i := 3) dX5_isForced_121 rfl rfl ?_
          refine wp_iconst (pc := 122) (v := nI 1) dX5_isForced_122 (by decide +kernel) ?_
          first | (refine wp_isubN (pc := 123) dX5_isForced_123 (by first | with_reducible assumption | omega) ?_) | (refine wp_isub (pc := 123) dX5_isForced_123 ?_)
          rw [show k + 3 - 1 = k + 2 from rfl]
          refine wp_cSI4 (pc := 124) dX5_isForced_124 lm_X5_166 m_X5_isForced (Nat.le_of_ble_eq_true rfl) hstep (fun x_124 I_124 J_124 h_124 => ?_)
          obtain ⟨rfl, hfr2⟩ := h_124
          rw [hv]
          refine wp_iload (pc := 127) dX5_isForced_127 rfl ?_
          refine wp_icmp_ne (pc := 129) (tgt := 135) dX5_isForced_129 (by decide) (fun c_129 => ?_) (fun c_129 => ?_)
          · first | (refine wp_iincN (pc := 135) (m := 1) dX5_isForced_135 rfl rfl (by decide) ?_) | (refine wp_iinc (pc := 135) dX5_isForced_135 rfl rfl (by decide) ?_)
            refine wp_goto (pc := 138) (tgt := 94) dX5_isForced_138 (by decide) ?_
            refine h0 _ _ ((hfr.trans hw1).trans (hfr2.mono hP4)) ?_ ?_ (fun z hz => ?_)
            · rw [hfr2.1 p 2 (fun y => (hC p 2 y).1 rfl), wI_n hpq]; exact h2
            · intro z hz
              rw [hfr2.1 (p + 5) z (fun y => (hC (p + 5) z y).2 rfl), wI_n (by omega)]; exact h5 z hz
            · rcases Nat.lt_succ_iff_lt_or_eq.mp hz with y | y
              · exact hall z y
              · rw [y, hx]; exact hv
          · exact absurd c_129 (by decide)
  obtain ⟨r1, r2, r3, r4, r5⟩ := isP_sh hq
  obtain ⟨q1, q2, q3, q4, q5⟩ := isP_sh hp
  have hlist := sp_X2_list (d := d) hp hF hb hB.1 hB.2.2.2.2.2 hB.2.2.2.1 hB.2.2.2.2.1
  refine call_of_wp (by decide) (Nat.le_of_ble_eq_true rfl) ?_
  refine wp_aload_n (pc := 0) (i := 1) dX5_isForced_0 rfl rfl (by first | with_reducible assumption | rfl) ?_
  refine wp_getI (pc := 1) dX5_isForced_1 lf_X5_229 (by first | with_reducible assumption | rfl) (by first | with_reducible assumption | rfl) rfl ?_
  rw [e10]
  refine wp_bipush (pc := 4) (v := (-9)) dX5_isForced_4 (by decide +kernel) ?_
  refine wp_icmp_eq (pc := 6) (tgt := 23) dX5_isForced_6 (by decide) (fun c_6 => ?_) (fun c_6 => ?_)
  · refine wp_aload_n (pc := 23) (i := 1) dX5_isForced_23 rfl rfl (by first | with_reducible assumption | rfl) ?_
    refine wp_getI (pc := 24) dX5_isForced_24 lf_X5_100 (by first | with_reducible assumption | rfl) (by first | with_reducible assumption | rfl) rfl ?_
    rw [e9]
    refine wp_iload_n (pc := 27) (i := 2) dX5_isForced_27 rfl rfl ?_
    first | (refine wp_icmp_neN (pc := 28) (tgt := 35) dX5_isForced_28 (by decide) (by first | with_reducible assumption | omega) (by first | with_reducible assumption | omega) (fun c_28 => ?_) (fun c_28 => ?_)) | (refine wp_icmp_ne (pc := 28) (tgt := 35) dX5_isForced_28 (by decide) (fun c_28 => ?_) (fun c_28 => ?_))
    · exact absurd rfl c_28
    · refine wp_iconst (pc := 31) (v := nI 1) dX5_isForced_31 (by decide +kernel) ?_
      refine wp_goto (pc := 32) (tgt := 36) dX5_isForced_32 (by decide) ?_
      refine wp_istore (pc := 36) dX5_isForced_36 (by decide) ?_
      refine wp_iload (pc := 38) dX5_isForced_38 rfl ?_
      refine wp_if_eqN (pc := 40) (tgt := 66) dX5_isForced_40 (by decide) (by first | with_reducible assumption | omega) (fun c_40 => ?_) (fun c_40 => ?_)
      · exact absurd c_40 (by decide)
      · refine wp_iload_n (pc := 43) (i := 3) dX5_isForced_43 rfl rfl ?_
        refine wp_iconst (pc := 44) (v := nI 3) dX5_isForced_44 (by decide +kernel) ?_
        first | (refine wp_icmp_geN (pc := 45) (tgt := 66) dX5_isForced_45 (by decide) (by first | with_reducible assumption | omega) (by first | with_reducible assumption | omega) (fun c_45 => ?_) (fun c_45 => ?_)) | (refine wp_icmp_ge (pc := 45) (tgt := 66) dX5_isForced_45 (by decide) (fun c_45 => ?_) (fun c_45 => ?_))
        · refine wp_aload_n (pc := 66) (i := 1) dX5_isForced_66 rfl rfl (by first | with_reducible assumption | rfl) ?_
          refine wp_getR (pc := 67) dX5_isForced_67 lf_X5_252 (by first | with_reducible assumption | rfl) (by first | with_reducible assumption | rfl) rfl (by first | with_reducible assumption | rfl) (by first | with_reducible assumption | rfl) ?_
          refine wp_astore (pc := 70) dX5_isForced_70 (by first | with_reducible assumption | rfl) (by decide) ?_
          refine wp_iload_n (pc := 72) (i := 3) dX5_isForced_72 rfl rfl ?_
          refine wp_iconst (pc := 73) (v := nI 2) dX5_isForced_73 (by decide +kernel) ?_
          first | (refine wp_icmp_ltN (pc := 74) (tgt := 82) dX5_isForced_74 (by decide) (by first | with_reducible assumption | omega) (by first | with_reducible assumption | omega) (fun c_74 => ?_) (fun c_74 => ?_)) | (refine wp_icmp_lt (pc := 74) (tgt := 82) dX5_isForced_74 (by decide) (fun c_74 => ?_) (fun c_74 => ?_))
          · exact absurd c_74 (by omega)
          · refine wp_aload (pc := 77) dX5_isForced_77 rfl (by first | with_reducible assumption | rfl) ?_
            refine wp_ifnonnull (pc := 79) (tgt := 84) dX5_isForced_79 (by decide) (by first | with_reducible assumption | rfl) ?_
            refine wp_aload_n (pc := 84) (i := 1) dX5_isForced_84 rfl rfl (by first | with_reducible assumption | rfl) ?_
            refine wp_aload_n (pc := 85) (i := 0) dX5_isForced_85 rfl rfl (by first | with_reducible assumption | rfl) ?_
            refine wp_cVI1 (pc := 86) (ci := 2) dX5_isForced_86 lm_X5_136 m_X2_list (by first | with_reducible assumption | rfl) (by first | with_reducible assumption | rfl) (by decide) rfl (Nat.le_of_ble_eq_true rfl) hlist (fun x_86 I_86 J_86 h_86 => ?_)
            obtain ⟨rfl, rfl, rfl⟩ := h_86
            refine wp_istore (pc := 89) dX5_isForced_89 (by decide) ?_
            refine wp_iconst (pc := 91) (v := nI 0) dX5_isForced_91 (by decide +kernel) ?_
            refine wp_istore (pc := 92) dX5_isForced_92 (by decide) ?_
            refine loop (PLY w h b).length 0 _ _ rfl (FR.ls hP1 hP2) lsM_2 (fun z hz => ?_) (fun z hz => absurd hz (Nat.not_lt_zero z))
            have e1 : ¬ (p + 5 = p ∧ z = 2) := by omega
            unfold lsM
            rw [if_neg e1, if_pos ⟨rfl, hz⟩]
        · exact absurd (show 3 ≤ k + 3 by omega) c_45
  · exact absurd rfl c_6
theorem isF_all {w h last p q N k side : Nat} {C P : Nat → Nat → Prop} {b : Bd} (hp : isP p) (hq : isP q) (hpq : ¬ p = q) (hu : ΩC.2 p 0 = some q) (hC : ∀ a i, C a i → a ≠ p ∧ a ≠ p + 5) (hP1 : P p 2) (hP2 : ∀ i, P (p + 5) i) (hP3 : ∀ i, P q i) (hP4 : ∀ a i, C a i → P a i) (nF : ∀ a i, 3 ≤ a → a ≤ 8 → ¬ P a i) (nP : ∀ i, 3 ≤ i → i ≤ 10 → ¬ P p i) (hl9 : last < 10) (IH : FCT (d + 4) w h last q N C) (hF : Fld w h last I) (hb : PL p b I J) (hB : Bok (w * h) b) (hl : b.2.2.2 = 2) (ho : ¬ b.2.2.1 = side) (hs2 : side < 2) (hn : k + 1 ≤ N) (hk9 : k < 1000) : CALL ΩC (d + 5) kX5_isForced [.ref 3, .ref p, .int (nI side), .int (nI (k + 2))] I J (IQ (fun x I' J' => x = bI (frc w h last side (k + 2) b) ∧ FR P I I' J J')) := by
  have e10 : I p 10 = -9 := by rw [hb.1 10 (by omega) (by omega)]; show lsI b.2.2.2 = -9; rw [hl]; rfl
  have e9 : I p 9 = nI b.2.2.1 := hb.1 9 (by omega) (by omega)
  have hob := hB.2.2.2.1
  have hlen := PLY_len (w := w) (h := h) hB.2.2.2.1
  have hp9 : 9 ≤ p ∧ p ≤ 13 := hp
  have hq9 : 9 ≤ q ∧ q ≤ 13 := hq
  have loop : ∀ m j (I2 : MemI) (J2 : MemJ), m + j = (PLY w h b).length → FR P I I2 J J2 → I2 p 2 = nI (PLY w h b).length → (∀ z, z < (PLY w h b).length → I2 (p + 5) z = encC ((PLY w h b).getD z 0)) → (∀ z, z < j → frc w h last side (k + 1) (mkB last b ((PLY w h b).getD z 0)) = true) → WP ΩC (d + 5) kX5_isForced 94 [(0, .ref 3), (1, .ref p), (2, .int (nI side)), (3, .int (nI (k + 2))), (4, .int (nI 0)), (5, .ref q), (6, .int (nI (PLY w h b).length)), (7, .int (nI j))] [] I2 J2 (IQ (fun x I' J' => x = bI (frc w h last side (k + 2) b) ∧ FR P I I' J J')) := by
    obtain ⟨r1, r2, r3, r4, r5⟩ := isP_sh hq
    obtain ⟨q1, q2, q3, q4, q5⟩ := isP_sh hp
    intro m
    induction m with
    | zero =>
      intro j I2 J2 hj hfr h2 h5 hall
      have hj' : j = (PLY w h b).length := (Nat.zero_add j).symm.trans hj
      have e : frc w h last side (k + 2) b = true := by
        rw [frc_all hl ho, List.all_eq_true]
        intro x hx
        obtain ⟨z, hz, rfl⟩ := List.mem_iff_getElem.mp hx
        have := hall z (by omega)
        rw [List.getD_eq_getElem?_getD, List.getElem?_eq_getElem hz] at this
        exact this
      rw [e]
      refine wp_iload (pc := 94) dX5_isForced_94 rfl ?_
      refine wp_iload (pc := 96) dX5_isForced_96 rfl ?_
      first | (refine wp_icmp_geN (pc := 98) (tgt := 141) dX5_isForced_98 (by decide) (by first | with_reducible assumption | omega) (by first | with_reducible assumption | omega) (fun c_98 => ?_) (fun c_98 => ?_)) | (refine wp_icmp_ge (pc := 98) (tgt := 141) dX5_isForced_98 (by decide) (fun c_98 => ?_) (fun c_98 => ?_))
      · refine wp_iload (pc := 141) dX5_isForced_141 rfl ?_
        refine wp_if_neN (pc := 143) (tgt := 150) dX5_isForced_143 (by decide) (by first | with_reducible assumption | omega) (fun c_143 => ?_) (fun c_143 => ?_)
        · exact absurd rfl c_143
        · refine wp_iconst (pc := 146) (v := nI 1) dX5_isForced_146 (by decide +kernel) ?_
          refine wp_goto (pc := 147) (tgt := 151) dX5_isForced_147 (by decide) ?_
          refine wp_zreturn (pc := 151) dX5_isForced_151 rfl (by first | exact bI_narrow _ | exact nI_narrow01 (by omega) | decide +kernel | assumption) ?_
          exact iq_i ⟨rfl, hfr⟩
      · exact absurd (show (PLY w h b).length ≤ j by omega) c_98
    | succ m ih =>
      intro j I2 J2 hj hfr h2 h5 hall
      have hjl : j < (PLY w h b).length := by omega
      have hF2 := Fld_fr hF hfr nF
      have hb2 := PL_fr hb hfr nP
      have hlast : I2 3 7 = nI last := hF2.2.2.2.1
      obtain ⟨m1, m2, m3⟩ := PLY_mem hB.1 (PLY_get hjl)
      generalize hx : (PLY w h b).getD j 0 = x at m2 m3
      have hBk := Bok_mk hB m2 m3 hl9
      have hw1 : FR P I2 (wI q (mkB last b x) I2) J2 (wJ q (mkB last b x) J2) := FR.w hP3
      have hF3 := Fld_fr hF2 hw1 nF
      have hstep := IH (wI q (mkB last b x) I2) (wJ q (mkB last b x) J2) (mkB last b x) side (k + 1) hF3 PL_w hBk hs2 hn
      have hv0 : frc w h last side (k + 1) (mkB last b x) = true ∨ frc w h last side (k + 1) (mkB last b x) = false := by
        cases frc w h last side (k + 1) (mkB last b x) <;> simp
      have hply := sp_X2_ply (d := d + 3) (J := J2) (PLY w h b) hp h2 hlen h5 hjl
      rw [hx] at hply
      have hfol := sp_X2_follow (d := d) (p := q) (q := p) hq hp hpq hb2 hB.1 hB.2.1 hB.2.2.1 hB.2.2.2.1 m2 hl9
      rcases hv0 with hv | hv
      · have h0 := fun I4 J4 => ih (j + 1) I4 J4 (by omega)
        refine wp_iload (pc := 94) dX5_isForced_94 rfl ?_
        refine wp_iload (pc := 96) dX5_isForced_96 rfl ?_
        first | (refine wp_icmp_geN (pc := 98) (tgt := 141) dX5_isForced_98 (by decide) (by first | with_reducible assumption | omega) (by first | with_reducible assumption | omega) (fun c_98 => ?_) (fun c_98 => ?_)) | (refine wp_icmp_ge (pc := 98) (tgt := 141) dX5_isForced_98 (by decide) (fun c_98 => ?_) (fun c_98 => ?_))
        · exact absurd c_98 (by omega)
        · refine wp_aload (pc := 101) dX5_isForced_101 rfl (by first | with_reducible assumption | rfl) ?_
          refine wp_aload_n (pc := 103) (i := 1) dX5_isForced_103 rfl rfl (by first | with_reducible assumption | rfl) ?_
          refine wp_aload_n (pc := 104) (i := 1) dX5_isForced_104 rfl rfl (by first | with_reducible assumption | rfl) ?_
          refine wp_iload (pc := 105) dX5_isForced_105 rfl ?_
          refine wp_cVP1 (pc := 107) (ci := 2) dX5_isForced_107 lm_X5_151 m_X2_ply (by first | with_reducible assumption | rfl) (by first | with_reducible assumption | rfl) (by decide) rfl (Nat.le_of_ble_eq_true rfl) hply ?_
          refine wp_aload_n (pc := 110) (i := 0) dX5_isForced_110 rfl rfl (by first | with_reducible assumption | rfl) ?_
          refine wp_getI (pc := 111) dX5_isForced_111 lf_X5_146 (by first | with_reducible assumption | rfl) (by first | with_reducible assumption | rfl) rfl ?_
          rw [hlast]
          refine wp_cVV3 (pc := 114) (ci := 2) dX5_isForced_114 lm_X5_232 m_X2_follow (by first | with_reducible assumption | rfl) (by first | with_reducible assumption | rfl) (by decide) rfl (Nat.le_of_ble_eq_true rfl) hfol (fun I_114 J_114 h_114 => ?_)
          obtain ⟨rfl, rfl⟩ := h_114
          refine wp_aload_n (pc := 117) (i := 0) dX5_isForced_117 rfl rfl (by first | with_reducible assumption | rfl) ?_
          refine wp_aload (pc := 118) dX5_isForced_118 rfl (by first | with_reducible assumption | rfl) ?_
          refine wp_iload_n (pc := 120) (i := 2) dX5_isForced_120 rfl rfl ?_
          refine wp_iload_n (pc := 121) (i := 3) dX5_isForced_121 rfl rfl ?_
          refine wp_iconst (pc := 122) (v := nI 1) dX5_isForced_122 (by decide +kernel) ?_
          first | (refine wp_isubN (pc := 123) dX5_isForced_123 (by first | with_reducible assumption | omega) ?_) | (refine wp_isub (pc := 123) dX5_isForced_123 ?_)
          rw [show k + 2 - 1 = k + 1 from rfl]
          refine wp_cSI4 (pc := 124) dX5_isForced_124 lm_X5_166 m_X5_isForced (Nat.le_of_ble_eq_true rfl) hstep (fun x_124 I_124 J_124 h_124 => ?_)
          obtain ⟨rfl, hfr2⟩ := h_124
          rw [hv]
          refine wp_iload (pc := 127) dX5_isForced_127 rfl ?_
          refine wp_icmp_ne (pc := 129) (tgt := 135) dX5_isForced_129 (by decide) (fun c_129 => ?_) (fun c_129 => ?_)
          · first | (refine wp_iincN (pc := 135) (m := 1) dX5_isForced_135 rfl rfl (by decide) ?_) | (refine wp_iinc (pc := 135) dX5_isForced_135 rfl rfl (by decide) ?_)
            refine wp_goto (pc := 138) (tgt := 94) dX5_isForced_138 (by decide) ?_
            refine h0 _ _ ((hfr.trans hw1).trans (hfr2.mono hP4)) ?_ ?_ (fun z hz => ?_)
            · rw [hfr2.1 p 2 (fun y => (hC p 2 y).1 rfl), wI_n hpq]; exact h2
            · intro z hz
              rw [hfr2.1 (p + 5) z (fun y => (hC (p + 5) z y).2 rfl), wI_n (by omega)]; exact h5 z hz
            · rcases Nat.lt_succ_iff_lt_or_eq.mp hz with y | y
              · exact hall z y
              · rw [y, hx]; exact hv
          · exact absurd c_129 (by decide)
      · have e : frc w h last side (k + 2) b = false := by
          rw [frc_all hl ho, List.all_eq_false]
          exact ⟨x, by rw [← hx]; exact PLY_get hjl, by rw [hv]; exact Bool.false_ne_true⟩
        rw [e]
        refine wp_iload (pc := 94) dX5_isForced_94 rfl ?_
        refine wp_iload (pc := 96) dX5_isForced_96 rfl ?_
        first | (refine wp_icmp_geN (pc := 98) (tgt := 141) dX5_isForced_98 (by decide) (by first | with_reducible assumption | omega) (by first | with_reducible assumption | omega) (fun c_98 => ?_) (fun c_98 => ?_)) | (refine wp_icmp_ge (pc := 98) (tgt := 141) dX5_isForced_98 (by decide) (fun c_98 => ?_) (fun c_98 => ?_))
        · exact absurd c_98 (by omega)
        · refine wp_aload (pc := 101) dX5_isForced_101 rfl (by first | with_reducible assumption | rfl) ?_
          refine wp_aload_n (pc := 103) (i := 1) dX5_isForced_103 rfl rfl (by first | with_reducible assumption | rfl) ?_
          refine wp_aload_n (pc := 104) (i := 1) dX5_isForced_104 rfl rfl (by first | with_reducible assumption | rfl) ?_
          refine wp_iload (pc := 105) dX5_isForced_105 rfl ?_
          refine wp_cVP1 (pc := 107) (ci := 2) dX5_isForced_107 lm_X5_151 m_X2_ply (by first | with_reducible assumption | rfl) (by first | with_reducible assumption | rfl) (by decide) rfl (Nat.le_of_ble_eq_true rfl) hply ?_
          refine wp_aload_n (pc := 110) (i := 0) dX5_isForced_110 rfl rfl (by first | with_reducible assumption | rfl) ?_
          refine wp_getI (pc := 111) dX5_isForced_111 lf_X5_146 (by first | with_reducible assumption | rfl) (by first | with_reducible assumption | rfl) rfl ?_
          rw [hlast]
          refine wp_cVV3 (pc := 114) (ci := 2) dX5_isForced_114 lm_X5_232 m_X2_follow (by first | with_reducible assumption | rfl) (by first | with_reducible assumption | rfl) (by decide) rfl (Nat.le_of_ble_eq_true rfl) hfol (fun I_114 J_114 h_114 => ?_)
          obtain ⟨rfl, rfl⟩ := h_114
          refine wp_aload_n (pc := 117) (i := 0) dX5_isForced_117 rfl rfl (by first | with_reducible assumption | rfl) ?_
          refine wp_aload (pc := 118) dX5_isForced_118 rfl (by first | with_reducible assumption | rfl) ?_
          refine wp_iload_n (pc := 120) (i := 2) dX5_isForced_120 rfl rfl ?_
          refine wp_iload_n (pc := 121) (i := 3) dX5_isForced_121 rfl rfl ?_
          refine wp_iconst (pc := 122) (v := nI 1) dX5_isForced_122 (by decide +kernel) ?_
          first | (refine wp_isubN (pc := 123) dX5_isForced_123 (by first | with_reducible assumption | omega) ?_) | (refine wp_isub (pc := 123) dX5_isForced_123 ?_)
          rw [show k + 2 - 1 = k + 1 from rfl]
          refine wp_cSI4 (pc := 124) dX5_isForced_124 lm_X5_166 m_X5_isForced (Nat.le_of_ble_eq_true rfl) hstep (fun x_124 I_124 J_124 h_124 => ?_)
          obtain ⟨rfl, hfr2⟩ := h_124
          rw [hv]
          refine wp_iload (pc := 127) dX5_isForced_127 rfl ?_
          refine wp_icmp_ne (pc := 129) (tgt := 135) dX5_isForced_129 (by decide) (fun c_129 => ?_) (fun c_129 => ?_)
          · exact absurd rfl c_129
          · refine wp_iload (pc := 132) dX5_isForced_132 rfl ?_
            refine wp_zreturn (pc := 134) dX5_isForced_134 rfl (by first | exact bI_narrow _ | exact nI_narrow01 (by omega) | decide +kernel | assumption) ?_
            exact iq_i ⟨rfl, (hfr.trans hw1).trans (hfr2.mono hP4)⟩
  obtain ⟨r1, r2, r3, r4, r5⟩ := isP_sh hq
  obtain ⟨q1, q2, q3, q4, q5⟩ := isP_sh hp
  have hlist := sp_X2_list (d := d) hp hF hb hB.1 hB.2.2.2.2.2 hB.2.2.2.1 hB.2.2.2.2.1
  refine call_of_wp (by decide) (Nat.le_of_ble_eq_true rfl) ?_
  refine wp_aload_n (pc := 0) (i := 1) dX5_isForced_0 rfl rfl (by first | with_reducible assumption | rfl) ?_
  refine wp_getI (pc := 1) dX5_isForced_1 lf_X5_229 (by first | with_reducible assumption | rfl) (by first | with_reducible assumption | rfl) rfl ?_
  rw [e10]
  refine wp_bipush (pc := 4) (v := (-9)) dX5_isForced_4 (by decide +kernel) ?_
  refine wp_icmp_eq (pc := 6) (tgt := 23) dX5_isForced_6 (by decide) (fun c_6 => ?_) (fun c_6 => ?_)
  · refine wp_aload_n (pc := 23) (i := 1) dX5_isForced_23 rfl rfl (by first | with_reducible assumption | rfl) ?_
    refine wp_getI (pc := 24) dX5_isForced_24 lf_X5_100 (by first | with_reducible assumption | rfl) (by first | with_reducible assumption | rfl) rfl ?_
    rw [e9]
    refine wp_iload_n (pc := 27) (i := 2) dX5_isForced_27 rfl rfl ?_
    first | (refine wp_icmp_neN (pc := 28) (tgt := 35) dX5_isForced_28 (by decide) (by first | with_reducible assumption | omega) (by first | with_reducible assumption | omega) (fun c_28 => ?_) (fun c_28 => ?_)) | (refine wp_icmp_ne (pc := 28) (tgt := 35) dX5_isForced_28 (by decide) (fun c_28 => ?_) (fun c_28 => ?_))
    · refine wp_iconst (pc := 35) (v := nI 0) dX5_isForced_35 (by decide +kernel) ?_
      refine wp_istore (pc := 36) dX5_isForced_36 (by decide) ?_
      refine wp_iload (pc := 38) dX5_isForced_38 rfl ?_
      refine wp_if_eqN (pc := 40) (tgt := 66) dX5_isForced_40 (by decide) (by first | with_reducible assumption | omega) (fun c_40 => ?_) (fun c_40 => ?_)
      · refine wp_aload_n (pc := 66) (i := 1) dX5_isForced_66 rfl rfl (by first | with_reducible assumption | rfl) ?_
        refine wp_getR (pc := 67) dX5_isForced_67 lf_X5_252 (by first | with_reducible assumption | rfl) (by first | with_reducible assumption | rfl) rfl (by first | with_reducible assumption | rfl) (by first | with_reducible assumption | rfl) ?_
        refine wp_astore (pc := 70) dX5_isForced_70 (by first | with_reducible assumption | rfl) (by decide) ?_
        refine wp_iload_n (pc := 72) (i := 3) dX5_isForced_72 rfl rfl ?_
        refine wp_iconst (pc := 73) (v := nI 2) dX5_isForced_73 (by decide +kernel) ?_
        first | (refine wp_icmp_ltN (pc := 74) (tgt := 82) dX5_isForced_74 (by decide) (by first | with_reducible assumption | omega) (by first | with_reducible assumption | omega) (fun c_74 => ?_) (fun c_74 => ?_)) | (refine wp_icmp_lt (pc := 74) (tgt := 82) dX5_isForced_74 (by decide) (fun c_74 => ?_) (fun c_74 => ?_))
        · exact absurd c_74 (by omega)
        · refine wp_aload (pc := 77) dX5_isForced_77 rfl (by first | with_reducible assumption | rfl) ?_
          refine wp_ifnonnull (pc := 79) (tgt := 84) dX5_isForced_79 (by decide) (by first | with_reducible assumption | rfl) ?_
          refine wp_aload_n (pc := 84) (i := 1) dX5_isForced_84 rfl rfl (by first | with_reducible assumption | rfl) ?_
          refine wp_aload_n (pc := 85) (i := 0) dX5_isForced_85 rfl rfl (by first | with_reducible assumption | rfl) ?_
          refine wp_cVI1 (pc := 86) (ci := 2) dX5_isForced_86 lm_X5_136 m_X2_list (by first | with_reducible assumption | rfl) (by first | with_reducible assumption | rfl) (by decide) rfl (Nat.le_of_ble_eq_true rfl) hlist (fun x_86 I_86 J_86 h_86 => ?_)
          obtain ⟨rfl, rfl, rfl⟩ := h_86
          refine wp_istore (pc := 89) dX5_isForced_89 (by decide) ?_
          refine wp_iconst (pc := 91) (v := nI 0) dX5_isForced_91 (by decide +kernel) ?_
          refine wp_istore (pc := 92) dX5_isForced_92 (by decide) ?_
          refine loop (PLY w h b).length 0 _ _ rfl (FR.ls hP1 hP2) lsM_2 (fun z hz => ?_) (fun z hz => absurd hz (Nat.not_lt_zero z))
          have e1 : ¬ (p + 5 = p ∧ z = 2) := by omega
          unfold lsM
          rw [if_neg e1, if_pos ⟨rfl, hz⟩]
      · exact absurd rfl c_40
    · exact absurd c_28 ho
  · exact absurd rfl c_6
theorem isF_go {w h last p q N : Nat} {C P : Nat → Nat → Prop} (hp : isP p) (hq : isP q) (hpq : ¬ p = q) (hu : ΩC.2 p 0 = some q) (hC : ∀ a i, C a i → a ≠ p ∧ a ≠ p + 5) (hP1 : P p 2) (hP2 : ∀ i, P (p + 5) i) (hP3 : ∀ i, P q i) (hP4 : ∀ a i, C a i → P a i) (nF : ∀ a i, 3 ≤ a → a ≤ 8 → ¬ P a i) (nP : ∀ i, 3 ≤ i → i ≤ 10 → ¬ P p i) (hl9 : last < 10) (hN : N < 1000) (IH : FCT (d + 4) w h last q N C) : FCT (d + 5) w h last p (N + 1) P := by
  intro I J b side n hF hb hB hs hn
  by_cases hl : b.2.2.2 = 2
  · by_cases ho : b.2.2.1 = side
    · by_cases h3 : n < 3
      · exact isF_fell (d := d + 1) (N := 0) hp hF hb hB hl ho h3
      · obtain ⟨k, rfl⟩ : ∃ k, n = k + 3 := ⟨n - 3, by omega⟩
        exact isF_any hp hq hpq hu hC hP1 hP2 hP3 hP4 nF nP hl9 IH hF hb hB hl ho (by omega) (by omega)
    · by_cases h2 : n < 2
      · exact isF_no hp hq hu hb hB hl ho hs h2
      · obtain ⟨k, rfl⟩ : ∃ k, n = k + 2 := ⟨n - 2, by omega⟩
        exact isF_all hp hq hpq hu hC hP1 hP2 hP3 hP4 nF nP hl9 IH hF hb hB hl ho hs (by omega) (by omega)
  · exact isF_lost (N := 0) hp hb hB.2.2.2.2.1 hl hs
theorem isF_0 {w h last : Nat} : FCT (d + 4) w h last 11 1 (fun _ _ => False) := by
  intro I J b side n hF hb hB hs hn
  have hp : isP 11 := ⟨by decide, by decide⟩
  by_cases hl : b.2.2.2 = 2
  · by_cases ho : b.2.2.1 = side
    · exact isF_fell (N := 0) hp hF hb hB hl ho (by omega)
    · exact isF_no0 hb hB hl ho hs (by omega)
  · exact isF_lost (N := 0) hp hb hB.2.2.2.2.1 hl hs
/-- what is changed at 10; at 9 -/
def frX (a i : Nat) : Prop := (a = 10 ∧ i = 2) ∨ a = 15 ∨ a = 11
def frA (a i : Nat) : Prop := (a = 9 ∧ i = 2) ∨ a = 14 ∨ a = 10 ∨ a = 15 ∨ a = 11
theorem isF_10 {w h last : Nat} (hl9 : last < 10) : FCT (d + 5) w h last 10 2 frX :=
  isF_go (C := fun _ _ => False) ⟨by decide, by decide⟩ ⟨by decide, by decide⟩ (by decide) rfl (fun _ _ z => z.elim) (by simp [frX]) (by simp [frX]) (by simp [frX]) (fun _ _ z => z.elim) (fun a i z1 z2 => by unfold frX; omega) (fun i z1 z2 => by unfold frX; omega) hl9 (by decide) isF_0
theorem isF_9 {w h last : Nat} (hl9 : last < 10) : FCT (d + 6) w h last 9 3 frA :=
  isF_go (d := d + 1) (C := frX) ⟨by decide, by decide⟩ ⟨by decide, by decide⟩ (by decide) rfl (fun a i z => by unfold frX at z; omega) (by simp [frA]) (by simp [frA]) (by simp [frA]) (fun a i z => by unfold frX at z; unfold frA; omega) (fun a i z1 z2 => by unfold frA; omega) (fun i z1 z2 => by unfold frA; omega) hl9 (by decide) (isF_10 hl9)
theorem isF_12 {w h last : Nat} (hl9 : last < 10) : FCT (d + 7) w h last 12 4 scrC :=
  isF_go (d := d + 2) (C := frA) ⟨by decide, by decide⟩ ⟨by decide, by decide⟩ (by decide) rfl (fun a i z => by unfold frA at z; omega) (by simp [scrC]) (by simp [scrC]) (by simp [scrC]) (fun a i z => by unfold frA at z; unfold scrC; omega) (fun a i z1 z2 => by unfold scrC; omega) (fun i z1 z2 => by unfold scrC; omega) hl9 (by decide) (isF_9 hl9)
end FRC
