/-! THE REFERENCE'S CALLS, 4: fault, board -/
theorem inL_nn {a b c : Nat} (ha : a < 1000) (hb : b < 1000) (hc : c < 1000) : inL (lN b) (lN a) (lN c) = decide (a ≤ b ∧ b ≤ c) := by
  unfold inL
  refine decide_eq_decide.mpr ?_
  rw [pk_lLE (by omega) (by omega), pk_lLE (by omega) (by omega)]
theorem TM_get {t : List Nat} {I : MemI} {i : Nat} (h : TM t I) (hi : i < t.length) : I 5 i = nI (t.getD i 0) ∧ t.getD i 0 < 256 := by
  have e : t[i]? = some (t.getD i 0) := by
    rw [List.getD_eq_getElem?_getD, List.getElem?_eq_getElem hi]; rfl
  exact h.2.2 i _ e
section MTX
variable {d : Nat} {I : MemI} {J : MemJ} {t : List Nat} {w h last : Nat} {b : Bd} {ps : List Bd} {f : Nat → Option Bd} {z : Int64}
set_option maxHeartbeats 16000000 in
theorem sp_X6_fits {i : Nat} (hT : TM t I) (hi : i < t.length) (hall : ∀ j, j < i → fitT t j = true) : CALL ΩM (d + 2) kX6_fits [.ref 0, .int (nI i)] I J (PQ (.int (bI (fitT t i))) I J) := by
  have h24 := hT.2.1
  obtain ⟨eb, hb⟩ := TM_get hT hi
  refine call_of_wp (by decide) (Nat.le_of_ble_eq_true rfl) ?_
  match i, hi, hall, eb, hb with
  | 0, hi, _, eb, hb =>
    refine wp_aload_n (pc := 0) (i := 0) dX6_fits_0 rfl rfl (by first | with_reducible assumption | rfl) ?_
    refine wp_getR (pc := 1) dX6_fits_1 lf_X6_22 (by first | with_reducible assumption | rfl) (by first | with_reducible assumption | rfl) rfl (by first | with_reducible assumption | rfl) (by first | with_reducible assumption | rfl) ?_
    refine wp_iload_n (pc := 4) (i := 1) dX6_fits_4 rfl rfl ?_
    refine wp_iald (pc := 5) dX6_fits_5 (by first | with_reducible assumption | rfl) (by first | with_reducible assumption | rfl) (by first | with_reducible assumption | omega) (by first | decide | omega) ?_
    rw [eb]
    refine wp_istore_n (pc := 6) (i := 2) dX6_fits_6 rfl (by decide) ?_
    refine wp_iload_n (pc := 7) (i := 1) dX6_fits_7 rfl rfl ?_
    refine wp_tableIn (pc := 8) (x := nI 0) (off := 36) (tgt := 44) dX6_fits_8 (by decide) (by decide) (by decide) (by decide) ?_
    refine wp_iload_n (pc := 44) (i := 2) dX6_fits_44 rfl rfl ?_
    refine wp_bipush (pc := 45) (v := nI 71) dX6_fits_45 (by decide +kernel) ?_
    first | (refine wp_icmp_neN (pc := 47) (tgt := 54) dX6_fits_47 (by decide) (by first | with_reducible assumption | omega) (by first | with_reducible assumption | omega) (fun c_47 => ?_) (fun c_47 => ?_)) | (refine wp_icmp_ne (pc := 47) (tgt := 54) dX6_fits_47 (by decide) (fun c_47 => ?_) (fun c_47 => ?_))
    · refine wp_iconst (pc := 54) (v := nI 0) dX6_fits_54 (by decide +kernel) ?_
      refine wp_zreturn (pc := 55) dX6_fits_55 rfl (by first | exact bI_narrow _ | exact nI_narrow01 (by omega) | decide +kernel | assumption) ?_
      first | (have g : ¬ t.getD 0 0 = 71 := c_47; exact pq_i (dI_f g).symm) | (have g : t.getD 0 0 = 71 := c_47; exact pq_i (dI_t g).symm)
    · refine wp_iconst (pc := 50) (v := nI 1) dX6_fits_50 (by decide +kernel) ?_
      refine wp_goto (pc := 51) (tgt := 55) dX6_fits_51 (by decide) ?_
      refine wp_zreturn (pc := 55) dX6_fits_55 rfl (by first | exact bI_narrow _ | exact nI_narrow01 (by omega) | decide +kernel | assumption) ?_
      first | (have g : ¬ t.getD 0 0 = 71 := c_47; exact pq_i (dI_f g).symm) | (have g : t.getD 0 0 = 71 := c_47; exact pq_i (dI_t g).symm)
  | 1, hi, _, eb, hb =>
    refine wp_aload_n (pc := 0) (i := 0) dX6_fits_0 rfl rfl (by first | with_reducible assumption | rfl) ?_
    refine wp_getR (pc := 1) dX6_fits_1 lf_X6_22 (by first | with_reducible assumption | rfl) (by first | with_reducible assumption | rfl) rfl (by first | with_reducible assumption | rfl) (by first | with_reducible assumption | rfl) ?_
    refine wp_iload_n (pc := 4) (i := 1) dX6_fits_4 rfl rfl ?_
    refine wp_iald (pc := 5) dX6_fits_5 (by first | with_reducible assumption | rfl) (by first | with_reducible assumption | rfl) (by first | with_reducible assumption | omega) (by first | decide | omega) ?_
    rw [eb]
    refine wp_istore_n (pc := 6) (i := 2) dX6_fits_6 rfl (by decide) ?_
    refine wp_iload_n (pc := 7) (i := 1) dX6_fits_7 rfl rfl ?_
    refine wp_tableIn (pc := 8) (x := nI 1) (off := 48) (tgt := 56) dX6_fits_8 (by decide) (by decide) (by decide) (by decide) ?_
    refine wp_iload_n (pc := 56) (i := 2) dX6_fits_56 rfl rfl ?_
    first | (refine wp_i2lN (pc := 57) dX6_fits_57 (by first | with_reducible assumption | omega) ?_) | (refine wp_i2l (pc := 57) dX6_fits_57 ?_)
    refine wp_ldc2_w (pc := 58) (v := lN 49) dX6_fits_58 kl_X6_69 ?_
    refine wp_ldc2_w (pc := 61) (v := lN 52) dX6_fits_61 kl_X6_71 ?_
    refine wp_cSP3 (pc := 64) dX6_fits_64 lm_X6_56 m_X6_in (Nat.le_of_ble_eq_true rfl) sp_X6_in ?_
    refine wp_zreturn (pc := 67) dX6_fits_67 rfl (by first | exact bI_narrow _ | exact nI_narrow01 (by omega) | decide +kernel | assumption) ?_
    exact pq_i (by rw [inL_nn (by omega) (by omega) (by omega)]; rfl)
  | 2, hi, _, eb, hb =>
    refine wp_aload_n (pc := 0) (i := 0) dX6_fits_0 rfl rfl (by first | with_reducible assumption | rfl) ?_
    refine wp_getR (pc := 1) dX6_fits_1 lf_X6_22 (by first | with_reducible assumption | rfl) (by first | with_reducible assumption | rfl) rfl (by first | with_reducible assumption | rfl) (by first | with_reducible assumption | rfl) ?_
    refine wp_iload_n (pc := 4) (i := 1) dX6_fits_4 rfl rfl ?_
    refine wp_iald (pc := 5) dX6_fits_5 (by first | with_reducible assumption | rfl) (by first | with_reducible assumption | rfl) (by first | with_reducible assumption | omega) (by first | decide | omega) ?_
    rw [eb]
    refine wp_istore_n (pc := 6) (i := 2) dX6_fits_6 rfl (by decide) ?_
    refine wp_iload_n (pc := 7) (i := 1) dX6_fits_7 rfl rfl ?_
    refine wp_tableIn (pc := 8) (x := nI 2) (off := 48) (tgt := 56) dX6_fits_8 (by decide) (by decide) (by decide) (by decide) ?_
    refine wp_iload_n (pc := 56) (i := 2) dX6_fits_56 rfl rfl ?_
    first | (refine wp_i2lN (pc := 57) dX6_fits_57 (by first | with_reducible assumption | omega) ?_) | (refine wp_i2l (pc := 57) dX6_fits_57 ?_)
    refine wp_ldc2_w (pc := 58) (v := lN 49) dX6_fits_58 kl_X6_69 ?_
    refine wp_ldc2_w (pc := 61) (v := lN 52) dX6_fits_61 kl_X6_71 ?_
    refine wp_cSP3 (pc := 64) dX6_fits_64 lm_X6_56 m_X6_in (Nat.le_of_ble_eq_true rfl) sp_X6_in ?_
    refine wp_zreturn (pc := 67) dX6_fits_67 rfl (by first | exact bI_narrow _ | exact nI_narrow01 (by omega) | decide +kernel | assumption) ?_
    exact pq_i (by rw [inL_nn (by omega) (by omega) (by omega)]; rfl)
  | 3, hi, _, eb, hb =>
    refine wp_aload_n (pc := 0) (i := 0) dX6_fits_0 rfl rfl (by first | with_reducible assumption | rfl) ?_
    refine wp_getR (pc := 1) dX6_fits_1 lf_X6_22 (by first | with_reducible assumption | rfl) (by first | with_reducible assumption | rfl) rfl (by first | with_reducible assumption | rfl) (by first | with_reducible assumption | rfl) ?_
    refine wp_iload_n (pc := 4) (i := 1) dX6_fits_4 rfl rfl ?_
    refine wp_iald (pc := 5) dX6_fits_5 (by first | with_reducible assumption | rfl) (by first | with_reducible assumption | rfl) (by first | with_reducible assumption | omega) (by first | decide | omega) ?_
    rw [eb]
    refine wp_istore_n (pc := 6) (i := 2) dX6_fits_6 rfl (by decide) ?_
    refine wp_iload_n (pc := 7) (i := 1) dX6_fits_7 rfl rfl ?_
    refine wp_tableIn (pc := 8) (x := nI 3) (off := 60) (tgt := 68) dX6_fits_8 (by decide) (by decide) (by decide) (by decide) ?_
    refine wp_iload_n (pc := 68) (i := 2) dX6_fits_68 rfl rfl ?_
    first | (refine wp_i2lN (pc := 69) dX6_fits_69 (by first | with_reducible assumption | omega) ?_) | (refine wp_i2l (pc := 69) dX6_fits_69 ?_)
    refine wp_ldc2_w (pc := 70) (v := lN 48) dX6_fits_70 kl_X6_73 ?_
    refine wp_ldc2_w (pc := 73) (v := lN 57) dX6_fits_73 kl_X6_75 ?_
    refine wp_cSP3 (pc := 76) dX6_fits_76 lm_X6_56 m_X6_in (Nat.le_of_ble_eq_true rfl) sp_X6_in ?_
    refine wp_zreturn (pc := 79) dX6_fits_79 rfl (by first | exact bI_narrow _ | exact nI_narrow01 (by omega) | decide +kernel | assumption) ?_
    exact pq_i (by rw [inL_nn (by omega) (by omega) (by omega)]; rfl)
  | 4, hi, _, eb, hb =>
    refine wp_aload_n (pc := 0) (i := 0) dX6_fits_0 rfl rfl (by first | with_reducible assumption | rfl) ?_
    refine wp_getR (pc := 1) dX6_fits_1 lf_X6_22 (by first | with_reducible assumption | rfl) (by first | with_reducible assumption | rfl) rfl (by first | with_reducible assumption | rfl) (by first | with_reducible assumption | rfl) ?_
    refine wp_iload_n (pc := 4) (i := 1) dX6_fits_4 rfl rfl ?_
    refine wp_iald (pc := 5) dX6_fits_5 (by first | with_reducible assumption | rfl) (by first | with_reducible assumption | rfl) (by first | with_reducible assumption | omega) (by first | decide | omega) ?_
    rw [eb]
    refine wp_istore_n (pc := 6) (i := 2) dX6_fits_6 rfl (by decide) ?_
    refine wp_iload_n (pc := 7) (i := 1) dX6_fits_7 rfl rfl ?_
    refine wp_tableIn (pc := 8) (x := nI 4) (off := 72) (tgt := 80) dX6_fits_8 (by decide) (by decide) (by decide) (by decide) ?_
    refine wp_iload_n (pc := 80) (i := 2) dX6_fits_80 rfl rfl ?_
    refine wp_bipush (pc := 81) (v := nI 119) dX6_fits_81 (by decide +kernel) ?_
    first | (refine wp_icmp_eqN (pc := 83) (tgt := 92) dX6_fits_83 (by decide) (by first | with_reducible assumption | omega) (by first | with_reducible assumption | omega) (fun c_83 => ?_) (fun c_83 => ?_)) | (refine wp_icmp_eq (pc := 83) (tgt := 92) dX6_fits_83 (by decide) (fun c_83 => ?_) (fun c_83 => ?_))
    · refine wp_iconst (pc := 92) (v := nI 1) dX6_fits_92 (by decide +kernel) ?_
      refine wp_goto (pc := 93) (tgt := 97) dX6_fits_93 (by decide) ?_
      refine wp_zreturn (pc := 97) dX6_fits_97 rfl (by first | exact bI_narrow _ | exact nI_narrow01 (by omega) | decide +kernel | assumption) ?_
      first | (have g : t.getD 4 0 = 119 := c_83; exact pq_i (dI_t (Or.inl g)).symm) | (have g : t.getD 4 0 = 98 := c_89; exact pq_i (dI_t (Or.inr g)).symm) | (have g : ¬ t.getD 4 0 = 98 := c_89; have g2 : ¬ t.getD 4 0 = 119 := c_83; exact pq_i (dI_f (fun z => z.elim g2 g)).symm)
    · refine wp_iload_n (pc := 86) (i := 2) dX6_fits_86 rfl rfl ?_
      refine wp_bipush (pc := 87) (v := nI 98) dX6_fits_87 (by decide +kernel) ?_
      first | (refine wp_icmp_neN (pc := 89) (tgt := 96) dX6_fits_89 (by decide) (by first | with_reducible assumption | omega) (by first | with_reducible assumption | omega) (fun c_89 => ?_) (fun c_89 => ?_)) | (refine wp_icmp_ne (pc := 89) (tgt := 96) dX6_fits_89 (by decide) (fun c_89 => ?_) (fun c_89 => ?_))
      · refine wp_iconst (pc := 96) (v := nI 0) dX6_fits_96 (by decide +kernel) ?_
        refine wp_zreturn (pc := 97) dX6_fits_97 rfl (by first | exact bI_narrow _ | exact nI_narrow01 (by omega) | decide +kernel | assumption) ?_
        first | (have g : t.getD 4 0 = 119 := c_83; exact pq_i (dI_t (Or.inl g)).symm) | (have g : t.getD 4 0 = 98 := c_89; exact pq_i (dI_t (Or.inr g)).symm) | (have g : ¬ t.getD 4 0 = 98 := c_89; have g2 : ¬ t.getD 4 0 = 119 := c_83; exact pq_i (dI_f (fun z => z.elim g2 g)).symm)
      · refine wp_iconst (pc := 92) (v := nI 1) dX6_fits_92 (by decide +kernel) ?_
        refine wp_goto (pc := 93) (tgt := 97) dX6_fits_93 (by decide) ?_
        refine wp_zreturn (pc := 97) dX6_fits_97 rfl (by first | exact bI_narrow _ | exact nI_narrow01 (by omega) | decide +kernel | assumption) ?_
        first | (have g : t.getD 4 0 = 119 := c_83; exact pq_i (dI_t (Or.inl g)).symm) | (have g : t.getD 4 0 = 98 := c_89; exact pq_i (dI_t (Or.inr g)).symm) | (have g : ¬ t.getD 4 0 = 98 := c_89; have g2 : ¬ t.getD 4 0 = 119 := c_83; exact pq_i (dI_f (fun z => z.elim g2 g)).symm)
  | k + 5, hi, hall, eb, hb =>
    have f1 := hall 1 (by omega)
    have f2 := hall 2 (by omega)
    have a1 := fit_w f1
    have a2 := fit_h f2
    have x1 := (TM_get hT (show 1 < t.length by omega)).1
    have x2 := (TM_get hT (show 2 < t.length by omega)).1
    have w4 : wT t ≤ 4 := by unfold wT; omega
    have h4 : htT t ≤ 4 := by unfold htT; omega
    have hm16 : wT t * htT t ≤ 16 := Nat.mul_le_mul w4 h4
    have hti : (nI (k + 5)).toInt = ((k + 5 : Nat) : Int) := nI_ti (by omega)
    have eF : fitT t (k + 5) = (decide (k < wT t * htT t) && (sgn (t.getD (k + 5) 0)).isSome) := rfl
    rw [eF]
    have eq1 : t.getD 1 0 - 48 = wT t := rfl
    have eq2 : t.getD 2 0 - 48 = htT t := rfl
    have g1 : 48 ≤ t.getD 1 0 := by omega
    have g2 : 48 ≤ t.getD 2 0 := by omega
    by_cases hk : k < wT t * htT t
    · rw [decide_eq_true hk, Bool.true_and]
      cases hv : (sgn (t.getD (k + 5) 0)).isSome
      · have hcs := sp_X6_isCellSign (Ω := ΩM) (d := d) (I := I) (J := J) hb
        rw [hv] at hcs
        refine wp_aload_n (pc := 0) (i := 0) dX6_fits_0 rfl rfl (by first | with_reducible assumption | rfl) ?_
        refine wp_getR (pc := 1) dX6_fits_1 lf_X6_22 (by first | with_reducible assumption | rfl) (by first | with_reducible assumption | rfl) rfl (by first | with_reducible assumption | rfl) (by first | with_reducible assumption | rfl) ?_
        refine wp_iload_n (pc := 4) (i := 1) dX6_fits_4 rfl rfl ?_
        refine wp_iald (pc := 5) dX6_fits_5 (by first | with_reducible assumption | rfl) (by first | with_reducible assumption | rfl) (by first | with_reducible assumption | omega) (by first | decide | omega) ?_
        rw [eb]
        refine wp_istore_n (pc := 6) (i := 2) dX6_fits_6 rfl (by decide) ?_
        refine wp_iload_n (pc := 7) (i := 1) dX6_fits_7 rfl rfl ?_
        refine wp_tableOut (pc := 8) (x := nI (k + 5)) (tgt := 98) dX6_fits_8 (Or.inr (by rw [hti]; omega)) (by decide) ?_
        refine wp_iload_n (pc := 98) (i := 1) dX6_fits_98 rfl rfl ?_
        refine wp_iconst (pc := 99) (v := nI 5) dX6_fits_99 (by decide +kernel) ?_
        refine wp_aload_n (pc := 100) (i := 0) dX6_fits_100 rfl rfl (by first | with_reducible assumption | rfl) ?_
        refine wp_getR (pc := 101) dX6_fits_101 lf_X6_22 (by first | with_reducible assumption | rfl) (by first | with_reducible assumption | rfl) rfl (by first | with_reducible assumption | rfl) (by first | with_reducible assumption | rfl) ?_
        refine wp_iconst (pc := 104) (v := nI 1) dX6_fits_104 (by decide +kernel) ?_
        refine wp_iald (pc := 105) dX6_fits_105 (by first | with_reducible assumption | rfl) (by first | with_reducible assumption | rfl) (by first | with_reducible assumption | omega) (by first | decide | omega) ?_
        rw [x1]
        refine wp_bipush (pc := 106) (v := nI 48) dX6_fits_106 (by decide +kernel) ?_
        first | (refine wp_isubN (pc := 108) dX6_fits_108 (by first | with_reducible assumption | omega) ?_) | (refine wp_isub (pc := 108) dX6_fits_108 ?_)
        rw [eq1]
        refine wp_aload_n (pc := 109) (i := 0) dX6_fits_109 rfl rfl (by first | with_reducible assumption | rfl) ?_
        refine wp_getR (pc := 110) dX6_fits_110 lf_X6_22 (by first | with_reducible assumption | rfl) (by first | with_reducible assumption | rfl) rfl (by first | with_reducible assumption | rfl) (by first | with_reducible assumption | rfl) ?_
        refine wp_iconst (pc := 113) (v := nI 2) dX6_fits_113 (by decide +kernel) ?_
        refine wp_iald (pc := 114) dX6_fits_114 (by first | with_reducible assumption | rfl) (by first | with_reducible assumption | rfl) (by first | with_reducible assumption | omega) (by first | decide | omega) ?_
        rw [x2]
        refine wp_bipush (pc := 115) (v := nI 48) dX6_fits_115 (by decide +kernel) ?_
        first | (refine wp_isubN (pc := 117) dX6_fits_117 (by first | with_reducible assumption | omega) ?_) | (refine wp_isub (pc := 117) dX6_fits_117 ?_)
        rw [eq2]
        first | (refine wp_imulN (pc := 118) dX6_fits_118 ?_) | (refine wp_imul (pc := 118) dX6_fits_118 ?_)
        first | (refine wp_iaddN (pc := 119) dX6_fits_119 ?_) | (refine wp_iadd (pc := 119) dX6_fits_119 ?_)
        first | (refine wp_icmp_geN (pc := 120) (tgt := 134) dX6_fits_120 (by decide) (by first | with_reducible assumption | omega) (by first | with_reducible assumption | omega) (fun c_120 => ?_) (fun c_120 => ?_)) | (refine wp_icmp_ge (pc := 120) (tgt := 134) dX6_fits_120 (by decide) (fun c_120 => ?_) (fun c_120 => ?_))
        · exact absurd c_120 (by omega)
        · refine wp_iload_n (pc := 123) (i := 2) dX6_fits_123 rfl rfl ?_
          refine wp_cSP1 (pc := 124) dX6_fits_124 lm_X6_77 m_X6_isCellSign (Nat.le_of_ble_eq_true rfl) hcs ?_
          refine wp_if_eqB (pc := 127) (tgt := 134) dX6_fits_127 (by decide) (fun c_127 => ?_) (fun c_127 => ?_)
          · refine wp_iconst (pc := 134) (v := nI 0) dX6_fits_134 (by decide +kernel) ?_
            refine wp_zreturn (pc := 135) dX6_fits_135 rfl (by first | exact bI_narrow _ | exact nI_narrow01 (by omega) | decide +kernel | assumption) ?_
            exact pq_i rfl
          · exact Bool.noConfusion c_127
      · have hcs := sp_X6_isCellSign (Ω := ΩM) (d := d) (I := I) (J := J) hb
        rw [hv] at hcs
        refine wp_aload_n (pc := 0) (i := 0) dX6_fits_0 rfl rfl (by first | with_reducible assumption | rfl) ?_
        refine wp_getR (pc := 1) dX6_fits_1 lf_X6_22 (by first | with_reducible assumption | rfl) (by first | with_reducible assumption | rfl) rfl (by first | with_reducible assumption | rfl) (by first | with_reducible assumption | rfl) ?_
        refine wp_iload_n (pc := 4) (i := 1) dX6_fits_4 rfl rfl ?_
        refine wp_iald (pc := 5) dX6_fits_5 (by first | with_reducible assumption | rfl) (by first | with_reducible assumption | rfl) (by first | with_reducible assumption | omega) (by first | decide | omega) ?_
        rw [eb]
        refine wp_istore_n (pc := 6) (i := 2) dX6_fits_6 rfl (by decide) ?_
        refine wp_iload_n (pc := 7) (i := 1) dX6_fits_7 rfl rfl ?_
        refine wp_tableOut (pc := 8) (x := nI (k + 5)) (tgt := 98) dX6_fits_8 (Or.inr (by rw [hti]; omega)) (by decide) ?_
        refine wp_iload_n (pc := 98) (i := 1) dX6_fits_98 rfl rfl ?_
        refine wp_iconst (pc := 99) (v := nI 5) dX6_fits_99 (by decide +kernel) ?_
        refine wp_aload_n (pc := 100) (i := 0) dX6_fits_100 rfl rfl (by first | with_reducible assumption | rfl) ?_
        refine wp_getR (pc := 101) dX6_fits_101 lf_X6_22 (by first | with_reducible assumption | rfl) (by first | with_reducible assumption | rfl) rfl (by first | with_reducible assumption | rfl) (by first | with_reducible assumption | rfl) ?_
        refine wp_iconst (pc := 104) (v := nI 1) dX6_fits_104 (by decide +kernel) ?_
        refine wp_iald (pc := 105) dX6_fits_105 (by first | with_reducible assumption | rfl) (by first | with_reducible assumption | rfl) (by first | with_reducible assumption | omega) (by first | decide | omega) ?_
        rw [x1]
        refine wp_bipush (pc := 106) (v := nI 48) dX6_fits_106 (by decide +kernel) ?_
        first | (refine wp_isubN (pc := 108) dX6_fits_108 (by first | with_reducible assumption | omega) ?_) | (refine wp_isub (pc := 108) dX6_fits_108 ?_)
        rw [eq1]
        refine wp_aload_n (pc := 109) (i := 0) dX6_fits_109 rfl rfl (by first | with_reducible assumption | rfl) ?_
        refine wp_getR (pc := 110) dX6_fits_110 lf_X6_22 (by first | with_reducible assumption | rfl) (by first | with_reducible assumption | rfl) rfl (by first | with_reducible assumption | rfl) (by first | with_reducible assumption | rfl) ?_
        refine wp_iconst (pc := 113) (v := nI 2) dX6_fits_113 (by decide +kernel) ?_
        refine wp_iald (pc := 114) dX6_fits_114 (by first | with_reducible assumption | rfl) (by first | with_reducible assumption | rfl) (by first | with_reducible assumption | omega) (by first | decide | omega) ?_
        rw [x2]
        refine wp_bipush (pc := 115) (v := nI 48) dX6_fits_115 (by decide +kernel) ?_
        first | (refine wp_isubN (pc := 117) dX6_fits_117 (by first | with_reducible assumption | omega) ?_) | (refine wp_isub (pc := 117) dX6_fits_117 ?_)
        rw [eq2]
        first | (refine wp_imulN (pc := 118) dX6_fits_118 ?_) | (refine wp_imul (pc := 118) dX6_fits_118 ?_)
        first | (refine wp_iaddN (pc := 119) dX6_fits_119 ?_) | (refine wp_iadd (pc := 119) dX6_fits_119 ?_)
        first | (refine wp_icmp_geN (pc := 120) (tgt := 134) dX6_fits_120 (by decide) (by first | with_reducible assumption | omega) (by first | with_reducible assumption | omega) (fun c_120 => ?_) (fun c_120 => ?_)) | (refine wp_icmp_ge (pc := 120) (tgt := 134) dX6_fits_120 (by decide) (fun c_120 => ?_) (fun c_120 => ?_))
        · exact absurd c_120 (by omega)
        · refine wp_iload_n (pc := 123) (i := 2) dX6_fits_123 rfl rfl ?_
          refine wp_cSP1 (pc := 124) dX6_fits_124 lm_X6_77 m_X6_isCellSign (Nat.le_of_ble_eq_true rfl) hcs ?_
          refine wp_if_eqB (pc := 127) (tgt := 134) dX6_fits_127 (by decide) (fun c_127 => ?_) (fun c_127 => ?_)
          · exact Bool.noConfusion c_127
          · refine wp_iconst (pc := 130) (v := nI 1) dX6_fits_130 (by decide +kernel) ?_
            refine wp_goto (pc := 131) (tgt := 135) dX6_fits_131 (by decide) ?_
            refine wp_zreturn (pc := 135) dX6_fits_135 rfl (by first | exact bI_narrow _ | exact nI_narrow01 (by omega) | decide +kernel | assumption) ?_
            exact pq_i rfl
    · rw [decide_eq_false hk, Bool.false_and]
      refine wp_aload_n (pc := 0) (i := 0) dX6_fits_0 rfl rfl (by first | with_reducible assumption | rfl) ?_
      refine wp_getR (pc := 1) dX6_fits_1 lf_X6_22 (by first | with_reducible assumption | rfl) (by first | with_reducible assumption | rfl) rfl (by first | with_reducible assumption | rfl) (by first | with_reducible assumption | rfl) ?_
      refine wp_iload_n (pc := 4) (i := 1) dX6_fits_4 rfl rfl ?_
      refine wp_iald (pc := 5) dX6_fits_5 (by first | with_reducible assumption | rfl) (by first | with_reducible assumption | rfl) (by first | with_reducible assumption | omega) (by first | decide | omega) ?_
      rw [eb]
      refine wp_istore_n (pc := 6) (i := 2) dX6_fits_6 rfl (by decide) ?_
      refine wp_iload_n (pc := 7) (i := 1) dX6_fits_7 rfl rfl ?_
      refine wp_tableOut (pc := 8) (x := nI (k + 5)) (tgt := 98) dX6_fits_8 (Or.inr (by rw [hti]; omega)) (by decide) ?_
      refine wp_iload_n (pc := 98) (i := 1) dX6_fits_98 rfl rfl ?_
      refine wp_iconst (pc := 99) (v := nI 5) dX6_fits_99 (by decide +kernel) ?_
      refine wp_aload_n (pc := 100) (i := 0) dX6_fits_100 rfl rfl (by first | with_reducible assumption | rfl) ?_
      refine wp_getR (pc := 101) dX6_fits_101 lf_X6_22 (by first | with_reducible assumption | rfl) (by first | with_reducible assumption | rfl) rfl (by first | with_reducible assumption | rfl) (by first | with_reducible assumption | rfl) ?_
      refine wp_iconst (pc := 104) (v := nI 1) dX6_fits_104 (by decide +kernel) ?_
      refine wp_iald (pc := 105) dX6_fits_105 (by first | with_reducible assumption | rfl) (by first | with_reducible assumption | rfl) (by first | with_reducible assumption | omega) (by first | decide | omega) ?_
      rw [x1]
      refine wp_bipush (pc := 106) (v := nI 48) dX6_fits_106 (by decide +kernel) ?_
      first | (refine wp_isubN (pc := 108) dX6_fits_108 (by first | with_reducible assumption | omega) ?_) | (refine wp_isub (pc := 108) dX6_fits_108 ?_)
      rw [eq1]
      refine wp_aload_n (pc := 109) (i := 0) dX6_fits_109 rfl rfl (by first | with_reducible assumption | rfl) ?_
      refine wp_getR (pc := 110) dX6_fits_110 lf_X6_22 (by first | with_reducible assumption | rfl) (by first | with_reducible assumption | rfl) rfl (by first | with_reducible assumption | rfl) (by first | with_reducible assumption | rfl) ?_
      refine wp_iconst (pc := 113) (v := nI 2) dX6_fits_113 (by decide +kernel) ?_
      refine wp_iald (pc := 114) dX6_fits_114 (by first | with_reducible assumption | rfl) (by first | with_reducible assumption | rfl) (by first | with_reducible assumption | omega) (by first | decide | omega) ?_
      rw [x2]
      refine wp_bipush (pc := 115) (v := nI 48) dX6_fits_115 (by decide +kernel) ?_
      first | (refine wp_isubN (pc := 117) dX6_fits_117 (by first | with_reducible assumption | omega) ?_) | (refine wp_isub (pc := 117) dX6_fits_117 ?_)
      rw [eq2]
      first | (refine wp_imulN (pc := 118) dX6_fits_118 ?_) | (refine wp_imul (pc := 118) dX6_fits_118 ?_)
      first | (refine wp_iaddN (pc := 119) dX6_fits_119 ?_) | (refine wp_iadd (pc := 119) dX6_fits_119 ?_)
      first | (refine wp_icmp_geN (pc := 120) (tgt := 134) dX6_fits_120 (by decide) (by first | with_reducible assumption | omega) (by first | with_reducible assumption | omega) (fun c_120 => ?_) (fun c_120 => ?_)) | (refine wp_icmp_ge (pc := 120) (tgt := 134) dX6_fits_120 (by decide) (fun c_120 => ?_) (fun c_120 => ?_))
      · refine wp_iconst (pc := 134) (v := nI 0) dX6_fits_134 (by decide +kernel) ?_
        refine wp_zreturn (pc := 135) dX6_fits_135 rfl (by first | exact bI_narrow _ | exact nI_narrow01 (by omega) | decide +kernel | assumption) ?_
        exact pq_i rfl
      · exact absurd (show 5 + wT t * htT t ≤ k + 5 by omega) (by omega)
set_option maxHeartbeats 16000000 in
theorem sp_X6_faultT (hT : TM t I) : CALL ΩM (d + 3) kX6_fault [.ref 0] I J (PQ (.int (ffI (ffT t))) I J) := by
  have h24 := hT.2.1
  have hL := hT.1
  have loop : ∀ m i, m + i = t.length → (∀ j, j < i → fitT t j = true) → WP ΩM (d + 3) kX6_fault 2 [(0, .ref 0), (1, .int (nI i))] [] I J (PQ (.int (ffI (ffT t))) I J) := by
    intro m
    induction m with
    | zero =>
      intro i hi hall
      have hi' : i = t.length := (Nat.zero_add i).symm.trans hi
      subst hi'
      have hn : (List.range t.length).find? (fun i => !fitT t i) = none := find_no (fun j hj => by rw [hall j hj]; rfl)
      have eF : ffT t = if t.length < 5 ∨ t.length < 5 + wT t * htT t then some t.length else none := by
        unfold ffT
        rw [hn]
      by_cases h5 : t.length < 5
      · have e : ffT t = some t.length := by rw [eF, if_pos (Or.inl h5)]
        rw [e]
        refine wp_iload_n (pc := 2) (i := 1) dX6_fault_2 rfl rfl ?_
        refine wp_aload_n (pc := 3) (i := 0) dX6_fault_3 rfl rfl (by first | with_reducible assumption | rfl) ?_
        refine wp_getI (pc := 4) dX6_fault_4 lf_X6_60 (by first | with_reducible assumption | rfl) (by first | with_reducible assumption | rfl) rfl ?_
        rw [hL]
        first | (refine wp_icmp_geN (pc := 7) (tgt := 26) dX6_fault_7 (by decide) (by first | with_reducible assumption | omega) (by first | with_reducible assumption | omega) (fun c_7 => ?_) (fun c_7 => ?_)) | (refine wp_icmp_ge (pc := 7) (tgt := 26) dX6_fault_7 (by decide) (fun c_7 => ?_) (fun c_7 => ?_))
        · refine wp_aload_n (pc := 26) (i := 0) dX6_fault_26 rfl rfl (by first | with_reducible assumption | rfl) ?_
          refine wp_getI (pc := 27) dX6_fault_27 lf_X6_60 (by first | with_reducible assumption | rfl) (by first | with_reducible assumption | rfl) rfl ?_
          rw [hL]
          refine wp_iconst (pc := 30) (v := nI 4) dX6_fault_30 (by decide +kernel) ?_
          first | (refine wp_icmp_leN (pc := 31) (tgt := 67) dX6_fault_31 (by decide) (by first | with_reducible assumption | omega) (by first | with_reducible assumption | omega) (fun c_31 => ?_) (fun c_31 => ?_)) | (refine wp_icmp_le (pc := 31) (tgt := 67) dX6_fault_31 (by decide) (fun c_31 => ?_) (fun c_31 => ?_))
          · refine wp_aload_n (pc := 67) (i := 0) dX6_fault_67 rfl rfl (by first | with_reducible assumption | rfl) ?_
            refine wp_getI (pc := 68) dX6_fault_68 lf_X6_60 (by first | with_reducible assumption | rfl) (by first | with_reducible assumption | rfl) rfl ?_
            rw [hL]
            refine wp_ireturn (pc := 71) dX6_fault_71 rfl ?_
            exact pq_i rfl
          · exact absurd (show t.length ≤ 4 by omega) c_31
        · exact absurd (Nat.le_refl _) c_7
      · have f1 := hall 1 (by omega)
        have f2 := hall 2 (by omega)
        have a1 := fit_w f1
        have a2 := fit_h f2
        have x1 := (TM_get hT (show 1 < t.length by omega)).1
        have x2 := (TM_get hT (show 2 < t.length by omega)).1
        have w4 : wT t ≤ 4 := by unfold wT; omega
        have h4 : htT t ≤ 4 := by unfold htT; omega
        have hm16 : wT t * htT t ≤ 16 := Nat.mul_le_mul w4 h4
        have eq1 : t.getD 1 0 - 48 = wT t := rfl
        have eq2 : t.getD 2 0 - 48 = htT t := rfl
        have hle : t.length ≤ 5 + wT t * htT t := by
          rcases Nat.lt_or_ge 5 t.length with k | k
          · have := hall (t.length - 6 + 5) (by omega)
            have e6 : fitT t (t.length - 6 + 5) = (decide (t.length - 6 < wT t * htT t) && (sgn (t.getD (t.length - 6 + 5) 0)).isSome) := rfl
            rw [e6, Bool.and_eq_true] at this
            have := of_decide_eq_true this.1
            omega
          · omega
        by_cases he : t.length = 5 + wT t * htT t
        · have e : ffT t = none := by rw [eF, if_neg (by omega)]
          rw [e]
          refine wp_iload_n (pc := 2) (i := 1) dX6_fault_2 rfl rfl ?_
          refine wp_aload_n (pc := 3) (i := 0) dX6_fault_3 rfl rfl (by first | with_reducible assumption | rfl) ?_
          refine wp_getI (pc := 4) dX6_fault_4 lf_X6_60 (by first | with_reducible assumption | rfl) (by first | with_reducible assumption | rfl) rfl ?_
          rw [hL]
          first | (refine wp_icmp_geN (pc := 7) (tgt := 26) dX6_fault_7 (by decide) (by first | with_reducible assumption | omega) (by first | with_reducible assumption | omega) (fun c_7 => ?_) (fun c_7 => ?_)) | (refine wp_icmp_ge (pc := 7) (tgt := 26) dX6_fault_7 (by decide) (fun c_7 => ?_) (fun c_7 => ?_))
          · refine wp_aload_n (pc := 26) (i := 0) dX6_fault_26 rfl rfl (by first | with_reducible assumption | rfl) ?_
            refine wp_getI (pc := 27) dX6_fault_27 lf_X6_60 (by first | with_reducible assumption | rfl) (by first | with_reducible assumption | rfl) rfl ?_
            rw [hL]
            refine wp_iconst (pc := 30) (v := nI 4) dX6_fault_30 (by decide +kernel) ?_
            first | (refine wp_icmp_leN (pc := 31) (tgt := 67) dX6_fault_31 (by decide) (by first | with_reducible assumption | omega) (by first | with_reducible assumption | omega) (fun c_31 => ?_) (fun c_31 => ?_)) | (refine wp_icmp_le (pc := 31) (tgt := 67) dX6_fault_31 (by decide) (fun c_31 => ?_) (fun c_31 => ?_))
            · exact absurd c_31 (by omega)
            · refine wp_aload_n (pc := 34) (i := 0) dX6_fault_34 rfl rfl (by first | with_reducible assumption | rfl) ?_
              refine wp_getI (pc := 35) dX6_fault_35 lf_X6_60 (by first | with_reducible assumption | rfl) (by first | with_reducible assumption | rfl) rfl ?_
              rw [hL]
              refine wp_iconst (pc := 38) (v := nI 5) dX6_fault_38 (by decide +kernel) ?_
              refine wp_aload_n (pc := 39) (i := 0) dX6_fault_39 rfl rfl (by first | with_reducible assumption | rfl) ?_
              refine wp_getR (pc := 40) dX6_fault_40 lf_X6_22 (by first | with_reducible assumption | rfl) (by first | with_reducible assumption | rfl) rfl (by first | with_reducible assumption | rfl) (by first | with_reducible assumption | rfl) ?_
              refine wp_iconst (pc := 43) (v := nI 1) dX6_fault_43 (by decide +kernel) ?_
              refine wp_iald (pc := 44) dX6_fault_44 (by first | with_reducible assumption | rfl) (by first | with_reducible assumption | rfl) (by first | with_reducible assumption | omega) (by first | decide | omega) ?_
              rw [x1]
              refine wp_bipush (pc := 45) (v := nI 48) dX6_fault_45 (by decide +kernel) ?_
              first | (refine wp_isubN (pc := 47) dX6_fault_47 (by first | with_reducible assumption | omega) ?_) | (refine wp_isub (pc := 47) dX6_fault_47 ?_)
              rw [eq1]
              refine wp_aload_n (pc := 48) (i := 0) dX6_fault_48 rfl rfl (by first | with_reducible assumption | rfl) ?_
              refine wp_getR (pc := 49) dX6_fault_49 lf_X6_22 (by first | with_reducible assumption | rfl) (by first | with_reducible assumption | rfl) rfl (by first | with_reducible assumption | rfl) (by first | with_reducible assumption | rfl) ?_
              refine wp_iconst (pc := 52) (v := nI 2) dX6_fault_52 (by decide +kernel) ?_
              refine wp_iald (pc := 53) dX6_fault_53 (by first | with_reducible assumption | rfl) (by first | with_reducible assumption | rfl) (by first | with_reducible assumption | omega) (by first | decide | omega) ?_
              rw [x2]
              refine wp_bipush (pc := 54) (v := nI 48) dX6_fault_54 (by decide +kernel) ?_
              first | (refine wp_isubN (pc := 56) dX6_fault_56 (by first | with_reducible assumption | omega) ?_) | (refine wp_isub (pc := 56) dX6_fault_56 ?_)
              rw [eq2]
              first | (refine wp_imulN (pc := 57) dX6_fault_57 ?_) | (refine wp_imul (pc := 57) dX6_fault_57 ?_)
              first | (refine wp_iaddN (pc := 58) dX6_fault_58 ?_) | (refine wp_iadd (pc := 58) dX6_fault_58 ?_)
              first | (refine wp_icmp_neN (pc := 59) (tgt := 67) dX6_fault_59 (by decide) (by first | with_reducible assumption | omega) (by first | with_reducible assumption | omega) (fun c_59 => ?_) (fun c_59 => ?_)) | (refine wp_icmp_ne (pc := 59) (tgt := 67) dX6_fault_59 (by decide) (fun c_59 => ?_) (fun c_59 => ?_))
              · exact absurd he c_59
              · refine wp_bipush (pc := 62) (v := (-9)) dX6_fault_62 (by decide +kernel) ?_
                refine wp_goto (pc := 64) (tgt := 71) dX6_fault_64 (by decide) ?_
                refine wp_ireturn (pc := 71) dX6_fault_71 rfl ?_
                exact pq_i rfl
          · exact absurd (Nat.le_refl _) c_7
        · have e : ffT t = some t.length := by rw [eF, if_pos (Or.inr (by omega))]
          rw [e]
          refine wp_iload_n (pc := 2) (i := 1) dX6_fault_2 rfl rfl ?_
          refine wp_aload_n (pc := 3) (i := 0) dX6_fault_3 rfl rfl (by first | with_reducible assumption | rfl) ?_
          refine wp_getI (pc := 4) dX6_fault_4 lf_X6_60 (by first | with_reducible assumption | rfl) (by first | with_reducible assumption | rfl) rfl ?_
          rw [hL]
          first | (refine wp_icmp_geN (pc := 7) (tgt := 26) dX6_fault_7 (by decide) (by first | with_reducible assumption | omega) (by first | with_reducible assumption | omega) (fun c_7 => ?_) (fun c_7 => ?_)) | (refine wp_icmp_ge (pc := 7) (tgt := 26) dX6_fault_7 (by decide) (fun c_7 => ?_) (fun c_7 => ?_))
          · refine wp_aload_n (pc := 26) (i := 0) dX6_fault_26 rfl rfl (by first | with_reducible assumption | rfl) ?_
            refine wp_getI (pc := 27) dX6_fault_27 lf_X6_60 (by first | with_reducible assumption | rfl) (by first | with_reducible assumption | rfl) rfl ?_
            rw [hL]
            refine wp_iconst (pc := 30) (v := nI 4) dX6_fault_30 (by decide +kernel) ?_
            first | (refine wp_icmp_leN (pc := 31) (tgt := 67) dX6_fault_31 (by decide) (by first | with_reducible assumption | omega) (by first | with_reducible assumption | omega) (fun c_31 => ?_) (fun c_31 => ?_)) | (refine wp_icmp_le (pc := 31) (tgt := 67) dX6_fault_31 (by decide) (fun c_31 => ?_) (fun c_31 => ?_))
            · exact absurd c_31 (by omega)
            · refine wp_aload_n (pc := 34) (i := 0) dX6_fault_34 rfl rfl (by first | with_reducible assumption | rfl) ?_
              refine wp_getI (pc := 35) dX6_fault_35 lf_X6_60 (by first | with_reducible assumption | rfl) (by first | with_reducible assumption | rfl) rfl ?_
              rw [hL]
              refine wp_iconst (pc := 38) (v := nI 5) dX6_fault_38 (by decide +kernel) ?_
              refine wp_aload_n (pc := 39) (i := 0) dX6_fault_39 rfl rfl (by first | with_reducible assumption | rfl) ?_
              refine wp_getR (pc := 40) dX6_fault_40 lf_X6_22 (by first | with_reducible assumption | rfl) (by first | with_reducible assumption | rfl) rfl (by first | with_reducible assumption | rfl) (by first | with_reducible assumption | rfl) ?_
              refine wp_iconst (pc := 43) (v := nI 1) dX6_fault_43 (by decide +kernel) ?_
              refine wp_iald (pc := 44) dX6_fault_44 (by first | with_reducible assumption | rfl) (by first | with_reducible assumption | rfl) (by first | with_reducible assumption | omega) (by first | decide | omega) ?_
              rw [x1]
              refine wp_bipush (pc := 45) (v := nI 48) dX6_fault_45 (by decide +kernel) ?_
              first | (refine wp_isubN (pc := 47) dX6_fault_47 (by first | with_reducible assumption | omega) ?_) | (refine wp_isub (pc := 47) dX6_fault_47 ?_)
              rw [eq1]
              refine wp_aload_n (pc := 48) (i := 0) dX6_fault_48 rfl rfl (by first | with_reducible assumption | rfl) ?_
              refine wp_getR (pc := 49) dX6_fault_49 lf_X6_22 (by first | with_reducible assumption | rfl) (by first | with_reducible assumption | rfl) rfl (by first | with_reducible assumption | rfl) (by first | with_reducible assumption | rfl) ?_
              refine wp_iconst (pc := 52) (v := nI 2) dX6_fault_52 (by decide +kernel) ?_
              refine wp_iald (pc := 53) dX6_fault_53 (by first | with_reducible assumption | rfl) (by first | with_reducible assumption | rfl) (by first | with_reducible assumption | omega) (by first | decide | omega) ?_
              rw [x2]
              refine wp_bipush (pc := 54) (v := nI 48) dX6_fault_54 (by decide +kernel) ?_
              first | (refine wp_isubN (pc := 56) dX6_fault_56 (by first | with_reducible assumption | omega) ?_) | (refine wp_isub (pc := 56) dX6_fault_56 ?_)
              rw [eq2]
              first | (refine wp_imulN (pc := 57) dX6_fault_57 ?_) | (refine wp_imul (pc := 57) dX6_fault_57 ?_)
              first | (refine wp_iaddN (pc := 58) dX6_fault_58 ?_) | (refine wp_iadd (pc := 58) dX6_fault_58 ?_)
              first | (refine wp_icmp_neN (pc := 59) (tgt := 67) dX6_fault_59 (by decide) (by first | with_reducible assumption | omega) (by first | with_reducible assumption | omega) (fun c_59 => ?_) (fun c_59 => ?_)) | (refine wp_icmp_ne (pc := 59) (tgt := 67) dX6_fault_59 (by decide) (fun c_59 => ?_) (fun c_59 => ?_))
              · refine wp_aload_n (pc := 67) (i := 0) dX6_fault_67 rfl rfl (by first | with_reducible assumption | rfl) ?_
                refine wp_getI (pc := 68) dX6_fault_68 lf_X6_60 (by first | with_reducible assumption | rfl) (by first | with_reducible assumption | rfl) rfl ?_
                rw [hL]
                refine wp_ireturn (pc := 71) dX6_fault_71 rfl ?_
                exact pq_i rfl
              · exact absurd c_59 he
          · exact absurd (Nat.le_refl _) c_7
    | succ m ih =>
      intro i hi hall
      have hil : i < t.length := by omega
      have hft := sp_X6_fits (d := d) (J := J) hT hil hall
      by_cases hfi : fitT t i = true
      · have h0 := ih (i + 1) (by omega) (fun j hj => by
          rcases Nat.lt_succ_iff_lt_or_eq.mp hj with h | h
          · exact hall j h
          · rw [h]; exact hfi)
        clear ih
        rw [hfi] at hft
        refine wp_iload_n (pc := 2) (i := 1) dX6_fault_2 rfl rfl ?_
        refine wp_aload_n (pc := 3) (i := 0) dX6_fault_3 rfl rfl (by first | with_reducible assumption | rfl) ?_
        refine wp_getI (pc := 4) dX6_fault_4 lf_X6_60 (by first | with_reducible assumption | rfl) (by first | with_reducible assumption | rfl) rfl ?_
        rw [hL]
        first | (refine wp_icmp_geN (pc := 7) (tgt := 26) dX6_fault_7 (by decide) (by first | with_reducible assumption | omega) (by first | with_reducible assumption | omega) (fun c_7 => ?_) (fun c_7 => ?_)) | (refine wp_icmp_ge (pc := 7) (tgt := 26) dX6_fault_7 (by decide) (fun c_7 => ?_) (fun c_7 => ?_))
        · exact absurd c_7 (by omega)
        · refine wp_aload_n (pc := 10) (i := 0) dX6_fault_10 rfl rfl (by first | with_reducible assumption | rfl) ?_
          refine wp_iload_n (pc := 11) (i := 1) dX6_fault_11 rfl rfl ?_
          refine wp_cVP1 (pc := 12) (ci := 6) dX6_fault_12 lm_X6_81 m_X6_fits (by first | with_reducible assumption | rfl) (by first | with_reducible assumption | rfl) (by decide) rfl (Nat.le_of_ble_eq_true rfl) hft ?_
          refine wp_if_neB (pc := 15) (tgt := 20) dX6_fault_15 (by decide) (fun c_15 => ?_) (fun c_15 => ?_)
          · first | (refine wp_iincN (pc := 20) (m := 1) dX6_fault_20 rfl rfl (by decide) ?_) | (refine wp_iinc (pc := 20) dX6_fault_20 rfl rfl (by decide) ?_)
            refine wp_goto (pc := 23) (tgt := 2) dX6_fault_23 (by decide) ?_
            exact h0
          · exact Bool.noConfusion c_15
      · have hff : fitT t i = false := Bool.eq_false_iff.mpr hfi
        have e : ffT t = some i := by
          unfold ffT
          rw [find_ff hil (fun j hj => by rw [hall j hj]; rfl) (by rw [hff]; rfl)]
        clear ih
        rw [hff] at hft
        rw [e]
        refine wp_iload_n (pc := 2) (i := 1) dX6_fault_2 rfl rfl ?_
        refine wp_aload_n (pc := 3) (i := 0) dX6_fault_3 rfl rfl (by first | with_reducible assumption | rfl) ?_
        refine wp_getI (pc := 4) dX6_fault_4 lf_X6_60 (by first | with_reducible assumption | rfl) (by first | with_reducible assumption | rfl) rfl ?_
        rw [hL]
        first | (refine wp_icmp_geN (pc := 7) (tgt := 26) dX6_fault_7 (by decide) (by first | with_reducible assumption | omega) (by first | with_reducible assumption | omega) (fun c_7 => ?_) (fun c_7 => ?_)) | (refine wp_icmp_ge (pc := 7) (tgt := 26) dX6_fault_7 (by decide) (fun c_7 => ?_) (fun c_7 => ?_))
        · exact absurd c_7 (by omega)
        · refine wp_aload_n (pc := 10) (i := 0) dX6_fault_10 rfl rfl (by first | with_reducible assumption | rfl) ?_
          refine wp_iload_n (pc := 11) (i := 1) dX6_fault_11 rfl rfl ?_
          refine wp_cVP1 (pc := 12) (ci := 6) dX6_fault_12 lm_X6_81 m_X6_fits (by first | with_reducible assumption | rfl) (by first | with_reducible assumption | rfl) (by decide) rfl (Nat.le_of_ble_eq_true rfl) hft ?_
          refine wp_if_neB (pc := 15) (tgt := 20) dX6_fault_15 (by decide) (fun c_15 => ?_) (fun c_15 => ?_)
          · exact Bool.noConfusion c_15
          · refine wp_iload_n (pc := 18) (i := 1) dX6_fault_18 rfl rfl ?_
            refine wp_ireturn (pc := 19) dX6_fault_19 rfl ?_
            exact pq_i rfl
  refine call_of_wp (by decide) (Nat.le_of_ble_eq_true rfl) ?_
  refine wp_iconst (pc := 0) (v := nI 0) dX6_fault_0 (by decide +kernel) ?_
  refine wp_istore_n (pc := 1) (i := 1) dX6_fault_1 rfl (by decide) ?_
  exact loop t.length 0 (by omega) (fun j hj => absurd hj (Nat.not_lt_zero j))
set_option maxHeartbeats 16000000 in
theorem sp_X6_fault (hR : RepM t w h last b ps f z I J) : CALL ΩM (d + 3) kX6_fault [.ref 0] I J (PQ (.int (ffI (ffT t))) I J) := sp_X6_faultT hR.2.1
set_option maxHeartbeats 16000000 in
theorem sp_X6_board (hR : RepM t w h last b ps f z I J) : CALL ΩM (d + 4) kX6_board [.ref 0] I J (AM (aBoard t) (sBoard t (t, (w, h, last), b, ps, f, z))) := by
  have hT := hR.2.1
  have hfa := sp_X6_faultT (d := d) (J := J) hT
  cases hff : ffT t with
  | some i =>
    have e1 : aBoard t = -3 := if_neg (by rw [hff]; exact fun y => by cases y)
    have e2 : sBoard t (t, (w, h, last), b, ps, f, z) = (t, (w, h, last), b, ps, f, z) := if_neg (by rw [hff]; exact fun y => by cases y)
    have hi : i ≤ 24 := by
      have h24 := hT.2.1
      unfold ffT at hff
      split at hff
      · rename_i k hk
        have := List.mem_range.mp (List.mem_of_find?_eq_some hk)
        cases hff
        omega
      · split at hff
        · cases hff; exact h24
        · cases hff
    have hne : ¬ nI i = -9 := fun y => nI_pos (n := i) (by omega) (by rw [y]; decide)
    rw [hff] at hfa
    rw [e1, e2]
    refine call_of_wp (by decide) (Nat.le_of_ble_eq_true rfl) ?_
    refine wp_aload_n (pc := 0) (i := 0) dX6_board_0 rfl rfl (by first | with_reducible assumption | rfl) ?_
    refine wp_cVP0 (pc := 1) (ci := 6) dX6_board_1 lm_X6_84 m_X6_fault (by first | with_reducible assumption | rfl) (by first | with_reducible assumption | rfl) (by decide) rfl (Nat.le_of_ble_eq_true rfl) hfa ?_
    show WP ΩM _ _ _ _ (.int (nI i) :: _) _ _ _
    refine wp_bipush (pc := 4) (v := (-9)) dX6_board_4 (by decide +kernel) ?_
    refine wp_icmp_eq (pc := 6) (tgt := 12) dX6_board_6 (by decide) (fun c_6 => ?_) (fun c_6 => ?_)
    · exact absurd c_6 hne
    · refine wp_bipush (pc := 9) (v := (-3)) dX6_board_9 (by decide +kernel) ?_
      refine wp_ireturn (pc := 11) dX6_board_11 rfl ?_
      exact am_i rfl hR
  | none =>
    obtain ⟨hlen, hall⟩ := ff_none hff
    have f1 := fit_w (hall 1 (by omega))
    have f2 := fit_h (hall 2 (by omega))
    have f3 : 48 ≤ t.getD 3 0 ∧ t.getD 3 0 ≤ 57 := of_decide_eq_true (hall 3 (by omega))
    have f4 : t.getD 4 0 = 119 ∨ t.getD 4 0 = 98 := of_decide_eq_true (hall 4 (by omega))
    have w1 : 1 ≤ wT t ∧ wT t ≤ 4 := by unfold wT; omega
    have h1 : 1 ≤ htT t ∧ htT t ≤ 4 := by unfold htT; omega
    have hl9 : lT t < 10 := by unfold lT; omega
    have hwh := wh16 w1.2 h1.2
    have e1 : aBoard t = nI (wT t * htT t) := if_pos hff
    have e2 : sBoard t (t, (w, h, last), b, ps, f, z) = (t, (wT t, htT t, lT t), brd t (wT t * htT t), [], fun _ => none, z) := if_pos hff
    have x1 := (TM_get hT (show 1 < t.length by omega)).1
    have x2 := (TM_get hT (show 2 < t.length by omega)).1
    have x3 := (TM_get hT (show 3 < t.length by omega)).1
    have x4 := (TM_get hT (show 4 < t.length by omega))
    have eq1 : t.getD 1 0 - 48 = wT t := rfl
    have eq2 : t.getD 2 0 - 48 = htT t := rfl
    have eq3 : t.getD 3 0 - 48 = lT t := rfl
    have ho : oT t < 2 := by unfold oT; split <;> omega
    obtain ⟨k1, k2, k3, k5, ⟨⟨nx, p1, p2, p3, p4, p5⟩, k8⟩, k9, k11⟩ := hR
    rw [hff] at hfa
    rw [e1, e2]
    have hgB : Bok (wT t * htT t) (brd t (wT t * htT t)) := by
      refine ⟨fun c _ => ?_, fun _ _ => Nat.zero_lt_succ _, fun c _ y => absurd y (Nat.lt_irrefl 0), ho, by show 2 < 3; decide, fun c hc => ?_⟩
      · show (if c < wT t * htT t then sgT t c else 0) < 12
        split
        · exact (sg_c hall (by omega)).2
        · decide
      · show (if c < wT t * htT t then sgT t c else 0) = 0
        rw [if_neg (by omega)]
    have loop : ∀ (I0 : MemI), TM t I0 → WH (wT t) (htT t) I0 → I0 0 2 = nI (lT t) → I0 3 0 = nI (oT t) → I0 4 0 = -9 → I0 0 12 = nI nx → ∀ m j (I2 : MemI), m + j = 16 → CP3 (wT t * htT t) j (brd t (wT t * htT t)) I0 I2 → WP ΩM (d + 4) kX6_board 83 [(0, .ref 0), (1, .int (nI j))] [] I2 J (AM (nI (wT t * htT t)) (t, (wT t, htT t, lT t), brd t (wT t * htT t), [], fun _ => none, z)) := by
      intro I0 u1 u2 u3 u4 u5 u6 m
      induction m with
      | zero =>
        intro j I2 hj hcp
        have hj' : j = 16 := (Nat.zero_add j).symm.trans hj
        subst hj'
        have o1 : ∀ a i, ¬ a = 1 → ¬ a = 2 → I2 a i = I0 a i := fun a i y1 y2 => hcp.2 a i (fun y => y.1.elim y1 y2)
        have e3 : ∀ a i, ¬ a = 1 → ¬ a = 2 → ¬ a = 11 → ¬ (a = 0 ∧ i = 11) → uI (uI (uI I2 0 11 (nI 0)) 11 0 (nI 0)) 11 1 (nI 0) a i = I0 a i := fun a i y1 y2 y3 y4 => by
          show (if a = 11 ∧ i = 1 then _ else (if a = 11 ∧ i = 0 then _ else (if a = 0 ∧ i = 11 then _ else I2 a i))) = I0 a i
          rw [if_neg (fun y => y3 y.1), if_neg (fun y => y3 y.1), if_neg y4]
          exact o1 a i y1 y2
        have r0 : uI (uI (uI I2 0 11 (nI 0)) 11 0 (nI 0)) 11 1 (nI 0) 0 0 = nI (wT t) := by rw [e3 0 0 (by decide) (by decide) (by decide) (by omega)]; exact u2.2.1
        have r1 : uI (uI (uI I2 0 11 (nI 0)) 11 0 (nI 0)) 11 1 (nI 0) 0 1 = nI (htT t) := by rw [e3 0 1 (by decide) (by decide) (by decide) (by omega)]; exact u2.2.2
        have hfin : RM (t, (wT t, htT t, lT t), brd t (wT t * htT t), [], fun _ => none, z) (uI (uI (uI I2 0 11 (nI 0)) 11 0 (nI 0)) 11 1 (nI 0)) J := by
          refine ⟨hl9, TM_n u1 (e3 0 8 (by decide) (by decide) (by decide) (by omega)) (fun i => e3 5 i (by decide) (by decide) (by decide) (by omega)), ⟨⟨u2.1, r0, r1⟩, by rw [e3 0 2 (by decide) (by decide) (by decide) (by omega)]; exact u3⟩, ⟨⟨fun c hc => ?_, ?_, ?_⟩, hgB⟩, ⟨⟨nx, rfl, by rw [e3 0 12 (by decide) (by decide) (by decide) (by omega)]; exact u6, p3, Nat.zero_le _, fun j c hj => by simp at hj⟩, fun c hc => by cases hc⟩, ⟨fun s hs => ⟨?_, fun c hc => by cases hc⟩, fun i c y => by cases y⟩, k11⟩
          · rw [Nat.mul_zero, Nat.zero_add]
            exact hcp.1 c hc hc
          · rw [e3 3 0 (by decide) (by decide) (by decide) (by omega)]; exact u4
          · rw [e3 4 0 (by decide) (by decide) (by decide) (by omega)]; exact u5
          · rcases (show s = 0 ∨ s = 1 by omega) with rfl | rfl <;> rfl
        refine wp_iload_n (pc := 83) (i := 1) dX6_board_83 rfl rfl ?_
        refine wp_bipush (pc := 84) (v := nI 16) dX6_board_84 (by decide +kernel) ?_
        first | (refine wp_icmp_geN (pc := 86) (tgt := 133) dX6_board_86 (by decide) (by first | with_reducible assumption | omega) (by first | with_reducible assumption | omega) (fun c_86 => ?_) (fun c_86 => ?_)) | (refine wp_icmp_ge (pc := 86) (tgt := 133) dX6_board_86 (by decide) (fun c_86 => ?_) (fun c_86 => ?_))
        · refine wp_aload_n (pc := 133) (i := 0) dX6_board_133 rfl rfl (by first | with_reducible assumption | rfl) ?_
          refine wp_iconst (pc := 134) (v := nI 0) dX6_board_134 (by decide +kernel) ?_
          refine wp_putI (pc := 135) dX6_board_135 lf_X6_91 (by first | with_reducible assumption | rfl) (by first | with_reducible assumption | rfl) rfl rfl ?_
          refine wp_aload_n (pc := 138) (i := 0) dX6_board_138 rfl rfl (by first | with_reducible assumption | rfl) ?_
          refine wp_getR (pc := 139) dX6_board_139 lf_X6_40 (by first | with_reducible assumption | rfl) (by first | with_reducible assumption | rfl) rfl (by first | with_reducible assumption | rfl) (by first | with_reducible assumption | rfl) ?_
          refine wp_iconst (pc := 142) (v := nI 0) dX6_board_142 (by decide +kernel) ?_
          refine wp_iconst (pc := 143) (v := nI 0) dX6_board_143 (by decide +kernel) ?_
          refine wp_zast (pc := 144) dX6_board_144 (by first | with_reducible assumption | rfl) (by first | with_reducible assumption | rfl) (by first | with_reducible assumption | omega) (by first | decide | omega) ?_
          rw [show vp_nar .boolean (nI 0) = nI 0 by decide +kernel]
          refine wp_aload_n (pc := 145) (i := 0) dX6_board_145 rfl rfl (by first | with_reducible assumption | rfl) ?_
          refine wp_getR (pc := 146) dX6_board_146 lf_X6_40 (by first | with_reducible assumption | rfl) (by first | with_reducible assumption | rfl) rfl (by first | with_reducible assumption | rfl) (by first | with_reducible assumption | rfl) ?_
          refine wp_iconst (pc := 149) (v := nI 1) dX6_board_149 (by decide +kernel) ?_
          refine wp_iconst (pc := 150) (v := nI 0) dX6_board_150 (by decide +kernel) ?_
          refine wp_zast (pc := 151) dX6_board_151 (by first | with_reducible assumption | rfl) (by first | with_reducible assumption | rfl) (by first | with_reducible assumption | omega) (by first | decide | omega) ?_
          rw [show vp_nar .boolean (nI 0) = nI 0 by decide +kernel]
          refine wp_aload_n (pc := 152) (i := 0) dX6_board_152 rfl rfl (by first | with_reducible assumption | rfl) ?_
          refine wp_getI (pc := 153) dX6_board_153 lf_X6_47 (by first | with_reducible assumption | rfl) (by first | with_reducible assumption | rfl) rfl ?_
          rw [r0]
          refine wp_aload_n (pc := 156) (i := 0) dX6_board_156 rfl rfl (by first | with_reducible assumption | rfl) ?_
          refine wp_getI (pc := 157) dX6_board_157 lf_X6_51 (by first | with_reducible assumption | rfl) (by first | with_reducible assumption | rfl) rfl ?_
          rw [r1]
          first | (refine wp_imulN (pc := 160) dX6_board_160 ?_) | (refine wp_imul (pc := 160) dX6_board_160 ?_)
          refine wp_ireturn (pc := 161) dX6_board_161 rfl ?_
          exact am_i rfl hfin
        · exact absurd (Nat.le_refl 16) c_86
      | succ m ih =>
        intro j I2 hj hcp
        have hj16 : j < 16 := by omega
        have o1 : ∀ a i, ¬ a = 1 → ¬ a = 2 → I2 a i = I0 a i := fun a i y1 y2 => hcp.2 a i (fun y => y.1.elim y1 y2)
        have r0 : I2 0 0 = nI (wT t) := by rw [o1 0 0 (by decide) (by decide)]; exact u2.2.1
        have r1 : I2 0 1 = nI (htT t) := by rw [o1 0 1 (by decide) (by decide)]; exact u2.2.2
        have h0 := ih (j + 1) _ (by omega) (CP3_s hcp hj16)
        clear ih
        have et : (brd t (wT t * htT t)).2.1 j = 0 := rfl
        rw [et] at h0
        by_cases hjn : j < wT t * htT t
        · have ec : ccd (wT t * htT t) (brd t (wT t * htT t)).1 j = t.getD (5 + j) 0 := by
            unfold ccd
            rw [if_pos hjn]
            show asc (if j < wT t * htT t then sgT t j else 0) = _
            rw [if_pos hjn]
            have h1 := hall (j + 5) (by omega)
            have h2 : fitT t (j + 5) = (decide (j < wT t * htT t) && (sgn (t.getD (j + 5) 0)).isSome) := rfl
            rw [h2, Bool.and_eq_true] at h1
            obtain ⟨s, hs⟩ := Option.isSome_iff_exists.mp h1.2
            unfold sgT
            rw [show 5 + j = j + 5 from Nat.add_comm _ _, hs]
            exact (sgn_lt hs).2
          have x5 : I2 5 (5 + j) = nI (t.getD (5 + j) 0) := (TM_get (TM_n u1 (o1 0 8 (by decide) (by decide)) (fun i => o1 5 i (by decide) (by decide))) (show 5 + j < t.length by omega)).1
          rw [ec] at h0
          refine wp_iload_n (pc := 83) (i := 1) dX6_board_83 rfl rfl ?_
          refine wp_bipush (pc := 84) (v := nI 16) dX6_board_84 (by decide +kernel) ?_
          first | (refine wp_icmp_geN (pc := 86) (tgt := 133) dX6_board_86 (by decide) (by first | with_reducible assumption | omega) (by first | with_reducible assumption | omega) (fun c_86 => ?_) (fun c_86 => ?_)) | (refine wp_icmp_ge (pc := 86) (tgt := 133) dX6_board_86 (by decide) (fun c_86 => ?_) (fun c_86 => ?_))
          · exact absurd c_86 (by omega)
          · refine wp_aload_n (pc := 89) (i := 0) dX6_board_89 rfl rfl (by first | with_reducible assumption | rfl) ?_
            refine wp_getR (pc := 90) dX6_board_90 lf_X6_7 (by first | with_reducible assumption | rfl) (by first | with_reducible assumption | rfl) rfl (by first | with_reducible assumption | rfl) (by first | with_reducible assumption | rfl) ?_
            refine wp_iload_n (pc := 93) (i := 1) dX6_board_93 rfl rfl ?_
            refine wp_iload_n (pc := 94) (i := 1) dX6_board_94 rfl rfl ?_
            refine wp_aload_n (pc := 95) (i := 0) dX6_board_95 rfl rfl (by first | with_reducible assumption | rfl) ?_
            refine wp_getI (pc := 96) dX6_board_96 lf_X6_47 (by first | with_reducible assumption | rfl) (by first | with_reducible assumption | rfl) rfl ?_
            rw [r0]
            refine wp_aload_n (pc := 99) (i := 0) dX6_board_99 rfl rfl (by first | with_reducible assumption | rfl) ?_
            refine wp_getI (pc := 100) dX6_board_100 lf_X6_51 (by first | with_reducible assumption | rfl) (by first | with_reducible assumption | rfl) rfl ?_
            rw [r1]
            first | (refine wp_imulN (pc := 103) dX6_board_103 ?_) | (refine wp_imul (pc := 103) dX6_board_103 ?_)
            first | (refine wp_icmp_geN (pc := 104) (tgt := 118) dX6_board_104 (by decide) (by first | with_reducible assumption | omega) (by first | with_reducible assumption | omega) (fun c_104 => ?_) (fun c_104 => ?_)) | (refine wp_icmp_ge (pc := 104) (tgt := 118) dX6_board_104 (by decide) (fun c_104 => ?_) (fun c_104 => ?_))
            · exact absurd c_104 (by omega)
            · refine wp_aload_n (pc := 107) (i := 0) dX6_board_107 rfl rfl (by first | with_reducible assumption | rfl) ?_
              refine wp_getR (pc := 108) dX6_board_108 lf_X6_22 (by first | with_reducible assumption | rfl) (by first | with_reducible assumption | rfl) rfl (by first | with_reducible assumption | rfl) (by first | with_reducible assumption | rfl) ?_
              refine wp_iconst (pc := 111) (v := nI 5) dX6_board_111 (by decide +kernel) ?_
              refine wp_iload_n (pc := 112) (i := 1) dX6_board_112 rfl rfl ?_
              first | (refine wp_iaddN (pc := 113) dX6_board_113 ?_) | (refine wp_iadd (pc := 113) dX6_board_113 ?_)
              refine wp_iald (pc := 114) dX6_board_114 (by first | with_reducible assumption | rfl) (by first | with_reducible assumption | rfl) (by first | with_reducible assumption | omega) (by first | decide | omega) ?_
              rw [x5]
              refine wp_goto (pc := 115) (tgt := 119) dX6_board_115 (by decide) ?_
              refine wp_iast (pc := 119) dX6_board_119 (by first | with_reducible assumption | rfl) (by first | with_reducible assumption | rfl) (by first | with_reducible assumption | omega) (by first | decide | omega) ?_
              refine wp_aload_n (pc := 120) (i := 0) dX6_board_120 rfl rfl (by first | with_reducible assumption | rfl) ?_
              refine wp_getR (pc := 121) dX6_board_121 lf_X6_13 (by first | with_reducible assumption | rfl) (by first | with_reducible assumption | rfl) rfl (by first | with_reducible assumption | rfl) (by first | with_reducible assumption | rfl) ?_
              refine wp_iload_n (pc := 124) (i := 1) dX6_board_124 rfl rfl ?_
              refine wp_iconst (pc := 125) (v := nI 0) dX6_board_125 (by decide +kernel) ?_
              refine wp_iast (pc := 126) dX6_board_126 (by first | with_reducible assumption | rfl) (by first | with_reducible assumption | rfl) (by first | with_reducible assumption | omega) (by first | decide | omega) ?_
              first | (refine wp_iincN (pc := 127) (m := 1) dX6_board_127 rfl rfl (by decide) ?_) | (refine wp_iinc (pc := 127) dX6_board_127 rfl rfl (by decide) ?_)
              refine wp_goto (pc := 130) (tgt := 83) dX6_board_130 (by decide) ?_
              exact h0
        · have ec : ccd (wT t * htT t) (brd t (wT t * htT t)).1 j = 0 := if_neg hjn
          rw [ec] at h0
          refine wp_iload_n (pc := 83) (i := 1) dX6_board_83 rfl rfl ?_
          refine wp_bipush (pc := 84) (v := nI 16) dX6_board_84 (by decide +kernel) ?_
          first | (refine wp_icmp_geN (pc := 86) (tgt := 133) dX6_board_86 (by decide) (by first | with_reducible assumption | omega) (by first | with_reducible assumption | omega) (fun c_86 => ?_) (fun c_86 => ?_)) | (refine wp_icmp_ge (pc := 86) (tgt := 133) dX6_board_86 (by decide) (fun c_86 => ?_) (fun c_86 => ?_))
          · exact absurd c_86 (by omega)
          · refine wp_aload_n (pc := 89) (i := 0) dX6_board_89 rfl rfl (by first | with_reducible assumption | rfl) ?_
            refine wp_getR (pc := 90) dX6_board_90 lf_X6_7 (by first | with_reducible assumption | rfl) (by first | with_reducible assumption | rfl) rfl (by first | with_reducible assumption | rfl) (by first | with_reducible assumption | rfl) ?_
            refine wp_iload_n (pc := 93) (i := 1) dX6_board_93 rfl rfl ?_
            refine wp_iload_n (pc := 94) (i := 1) dX6_board_94 rfl rfl ?_
            refine wp_aload_n (pc := 95) (i := 0) dX6_board_95 rfl rfl (by first | with_reducible assumption | rfl) ?_
            refine wp_getI (pc := 96) dX6_board_96 lf_X6_47 (by first | with_reducible assumption | rfl) (by first | with_reducible assumption | rfl) rfl ?_
            rw [r0]
            refine wp_aload_n (pc := 99) (i := 0) dX6_board_99 rfl rfl (by first | with_reducible assumption | rfl) ?_
            refine wp_getI (pc := 100) dX6_board_100 lf_X6_51 (by first | with_reducible assumption | rfl) (by first | with_reducible assumption | rfl) rfl ?_
            rw [r1]
            first | (refine wp_imulN (pc := 103) dX6_board_103 ?_) | (refine wp_imul (pc := 103) dX6_board_103 ?_)
            first | (refine wp_icmp_geN (pc := 104) (tgt := 118) dX6_board_104 (by decide) (by first | with_reducible assumption | omega) (by first | with_reducible assumption | omega) (fun c_104 => ?_) (fun c_104 => ?_)) | (refine wp_icmp_ge (pc := 104) (tgt := 118) dX6_board_104 (by decide) (fun c_104 => ?_) (fun c_104 => ?_))
            · refine wp_iconst (pc := 118) (v := nI 0) dX6_board_118 (by decide +kernel) ?_
              refine wp_iast (pc := 119) dX6_board_119 (by first | with_reducible assumption | rfl) (by first | with_reducible assumption | rfl) (by first | with_reducible assumption | omega) (by first | decide | omega) ?_
              refine wp_aload_n (pc := 120) (i := 0) dX6_board_120 rfl rfl (by first | with_reducible assumption | rfl) ?_
              refine wp_getR (pc := 121) dX6_board_121 lf_X6_13 (by first | with_reducible assumption | rfl) (by first | with_reducible assumption | rfl) rfl (by first | with_reducible assumption | rfl) (by first | with_reducible assumption | rfl) ?_
              refine wp_iload_n (pc := 124) (i := 1) dX6_board_124 rfl rfl ?_
              refine wp_iconst (pc := 125) (v := nI 0) dX6_board_125 (by decide +kernel) ?_
              refine wp_iast (pc := 126) dX6_board_126 (by first | with_reducible assumption | rfl) (by first | with_reducible assumption | rfl) (by first | with_reducible assumption | omega) (by first | decide | omega) ?_
              first | (refine wp_iincN (pc := 127) (m := 1) dX6_board_127 rfl rfl (by decide) ?_) | (refine wp_iinc (pc := 127) dX6_board_127 rfl rfl (by decide) ?_)
              refine wp_goto (pc := 130) (tgt := 83) dX6_board_130 (by decide) ?_
              exact h0
            · exact absurd (show wT t * htT t ≤ j by omega) c_104
    have go : ∀ (I0 : MemI), I0 = uI (uI (uI (uI (uI I 0 0 (nI (wT t))) 0 1 (nI (htT t))) 0 2 (nI (lT t))) 3 0 (nI (oT t))) 4 0 (-9) → WP ΩM (d + 4) kX6_board 83 [(0, .ref 0), (1, .int (nI 0))] [] I0 J (AM (nI (wT t * htT t)) (t, (wT t, htT t, lT t), brd t (wT t * htT t), [], fun _ => none, z)) := by
      intro I0 e0
      refine loop I0 ?_ ⟨⟨w1.1, w1.2, h1.1, h1.2⟩, by rw [e0]; rfl, by rw [e0]; rfl⟩ (by rw [e0]; rfl) (by rw [e0]; rfl) (by rw [e0]; rfl) (by rw [e0]; exact p2) 16 0 I0 rfl ⟨fun j hj => absurd hj (Nat.not_lt_zero j), fun _ _ _ => rfl⟩
      rw [e0]
      exact TM_n k2 rfl (fun i => rfl)
    have hg := go _ rfl
    clear loop go
    refine call_of_wp (by decide) (Nat.le_of_ble_eq_true rfl) ?_
    rcases f4 with f4 | f4
    · have eo : oT t = 0 := by unfold oT; rw [if_neg (by omega)]
      rw [f4] at x4
      rw [eo] at hg
      refine wp_aload_n (pc := 0) (i := 0) dX6_board_0 rfl rfl (by first | with_reducible assumption | rfl) ?_
      refine wp_cVP0 (pc := 1) (ci := 6) dX6_board_1 lm_X6_84 m_X6_fault (by first | with_reducible assumption | rfl) (by first | with_reducible assumption | rfl) (by decide) rfl (Nat.le_of_ble_eq_true rfl) hfa ?_
      show WP ΩM _ _ _ _ (.int (-9) :: _) _ _ _
      refine wp_bipush (pc := 4) (v := (-9)) dX6_board_4 (by decide +kernel) ?_
      refine wp_icmp_eq (pc := 6) (tgt := 12) dX6_board_6 (by decide) (fun c_6 => ?_) (fun c_6 => ?_)
      · refine wp_aload_n (pc := 12) (i := 0) dX6_board_12 rfl rfl (by first | with_reducible assumption | rfl) ?_
        refine wp_aload_n (pc := 13) (i := 0) dX6_board_13 rfl rfl (by first | with_reducible assumption | rfl) ?_
        refine wp_getR (pc := 14) dX6_board_14 lf_X6_22 (by first | with_reducible assumption | rfl) (by first | with_reducible assumption | rfl) rfl (by first | with_reducible assumption | rfl) (by first | with_reducible assumption | rfl) ?_
        refine wp_iconst (pc := 17) (v := nI 1) dX6_board_17 (by decide +kernel) ?_
        refine wp_iald (pc := 18) dX6_board_18 (by first | with_reducible assumption | rfl) (by first | with_reducible assumption | rfl) (by first | with_reducible assumption | omega) (by first | decide | omega) ?_
        rw [x1]
        refine wp_bipush (pc := 19) (v := nI 48) dX6_board_19 (by decide +kernel) ?_
        first | (refine wp_isubN (pc := 21) dX6_board_21 (by first | with_reducible assumption | omega) ?_) | (refine wp_isub (pc := 21) dX6_board_21 ?_)
        rw [eq1]
        refine wp_putI (pc := 22) dX6_board_22 lf_X6_47 (by first | with_reducible assumption | rfl) (by first | with_reducible assumption | rfl) rfl rfl ?_
        refine wp_aload_n (pc := 25) (i := 0) dX6_board_25 rfl rfl (by first | with_reducible assumption | rfl) ?_
        refine wp_aload_n (pc := 26) (i := 0) dX6_board_26 rfl rfl (by first | with_reducible assumption | rfl) ?_
        refine wp_getR (pc := 27) dX6_board_27 lf_X6_22 (by first | with_reducible assumption | rfl) (by first | with_reducible assumption | rfl) rfl (by first | with_reducible assumption | rfl) (by first | with_reducible assumption | rfl) ?_
        refine wp_iconst (pc := 30) (v := nI 2) dX6_board_30 (by decide +kernel) ?_
        refine wp_iald (pc := 31) dX6_board_31 (by first | with_reducible assumption | rfl) (by first | with_reducible assumption | rfl) (by first | with_reducible assumption | omega) (by first | decide | omega) ?_
        rw [show uI I 0 0 (nI (wT t)) 5 2 = nI (t.getD 2 0) from x2]
        refine wp_bipush (pc := 32) (v := nI 48) dX6_board_32 (by decide +kernel) ?_
        first | (refine wp_isubN (pc := 34) dX6_board_34 (by first | with_reducible assumption | omega) ?_) | (refine wp_isub (pc := 34) dX6_board_34 ?_)
        rw [eq2]
        refine wp_putI (pc := 35) dX6_board_35 lf_X6_51 (by first | with_reducible assumption | rfl) (by first | with_reducible assumption | rfl) rfl rfl ?_
        refine wp_aload_n (pc := 38) (i := 0) dX6_board_38 rfl rfl (by first | with_reducible assumption | rfl) ?_
        refine wp_aload_n (pc := 39) (i := 0) dX6_board_39 rfl rfl (by first | with_reducible assumption | rfl) ?_
        refine wp_getR (pc := 40) dX6_board_40 lf_X6_22 (by first | with_reducible assumption | rfl) (by first | with_reducible assumption | rfl) rfl (by first | with_reducible assumption | rfl) (by first | with_reducible assumption | rfl) ?_
        refine wp_iconst (pc := 43) (v := nI 3) dX6_board_43 (by decide +kernel) ?_
        refine wp_iald (pc := 44) dX6_board_44 (by first | with_reducible assumption | rfl) (by first | with_reducible assumption | rfl) (by first | with_reducible assumption | omega) (by first | decide | omega) ?_
        rw [show uI (uI I 0 0 (nI (wT t))) 0 1 (nI (htT t)) 5 3 = nI (t.getD 3 0) from x3]
        refine wp_bipush (pc := 45) (v := nI 48) dX6_board_45 (by decide +kernel) ?_
        first | (refine wp_isubN (pc := 47) dX6_board_47 (by first | with_reducible assumption | omega) ?_) | (refine wp_isub (pc := 47) dX6_board_47 ?_)
        rw [eq3]
        refine wp_putI (pc := 48) dX6_board_48 lf_X6_88 (by first | with_reducible assumption | rfl) (by first | with_reducible assumption | rfl) rfl rfl ?_
        refine wp_aload_n (pc := 51) (i := 0) dX6_board_51 rfl rfl (by first | with_reducible assumption | rfl) ?_
        refine wp_getR (pc := 52) dX6_board_52 lf_X6_16 (by first | with_reducible assumption | rfl) (by first | with_reducible assumption | rfl) rfl (by first | with_reducible assumption | rfl) (by first | with_reducible assumption | rfl) ?_
        refine wp_iconst (pc := 55) (v := nI 0) dX6_board_55 (by decide +kernel) ?_
        refine wp_aload_n (pc := 56) (i := 0) dX6_board_56 rfl rfl (by first | with_reducible assumption | rfl) ?_
        refine wp_getR (pc := 57) dX6_board_57 lf_X6_22 (by first | with_reducible assumption | rfl) (by first | with_reducible assumption | rfl) rfl (by first | with_reducible assumption | rfl) (by first | with_reducible assumption | rfl) ?_
        refine wp_iconst (pc := 60) (v := nI 4) dX6_board_60 (by decide +kernel) ?_
        refine wp_iald (pc := 61) dX6_board_61 (by first | with_reducible assumption | rfl) (by first | with_reducible assumption | rfl) (by first | with_reducible assumption | omega) (by first | decide | omega) ?_
        rw [show uI (uI (uI I 0 0 (nI (wT t))) 0 1 (nI (htT t))) 0 2 (nI (lT t)) 5 4 = nI 119 from x4.1]
        refine wp_bipush (pc := 62) (v := nI 119) dX6_board_62 (by decide +kernel) ?_
        first | (refine wp_icmp_neN (pc := 64) (tgt := 71) dX6_board_64 (by decide) (by first | with_reducible assumption | omega) (by first | with_reducible assumption | omega) (fun c_64 => ?_) (fun c_64 => ?_)) | (refine wp_icmp_ne (pc := 64) (tgt := 71) dX6_board_64 (by decide) (fun c_64 => ?_) (fun c_64 => ?_))
        · exact absurd rfl c_64
        · refine wp_iconst (pc := 67) (v := nI 0) dX6_board_67 (by decide +kernel) ?_
          refine wp_goto (pc := 68) (tgt := 72) dX6_board_68 (by decide) ?_
          refine wp_iast (pc := 72) dX6_board_72 (by first | with_reducible assumption | rfl) (by first | with_reducible assumption | rfl) (by first | with_reducible assumption | omega) (by first | decide | omega) ?_
          refine wp_aload_n (pc := 73) (i := 0) dX6_board_73 rfl rfl (by first | with_reducible assumption | rfl) ?_
          refine wp_getR (pc := 74) dX6_board_74 lf_X6_19 (by first | with_reducible assumption | rfl) (by first | with_reducible assumption | rfl) rfl (by first | with_reducible assumption | rfl) (by first | with_reducible assumption | rfl) ?_
          refine wp_iconst (pc := 77) (v := nI 0) dX6_board_77 (by decide +kernel) ?_
          refine wp_bipush (pc := 78) (v := (-9)) dX6_board_78 (by decide +kernel) ?_
          refine wp_iast (pc := 80) dX6_board_80 (by first | with_reducible assumption | rfl) (by first | with_reducible assumption | rfl) (by first | with_reducible assumption | omega) (by first | decide | omega) ?_
          refine wp_iconst (pc := 81) (v := nI 0) dX6_board_81 (by decide +kernel) ?_
          refine wp_istore_n (pc := 82) (i := 1) dX6_board_82 rfl (by decide) ?_
          exact hg
      · exact absurd rfl c_6
    · have eo : oT t = 1 := by unfold oT; rw [if_pos f4]
      rw [f4] at x4
      rw [eo] at hg
      refine wp_aload_n (pc := 0) (i := 0) dX6_board_0 rfl rfl (by first | with_reducible assumption | rfl) ?_
      refine wp_cVP0 (pc := 1) (ci := 6) dX6_board_1 lm_X6_84 m_X6_fault (by first | with_reducible assumption | rfl) (by first | with_reducible assumption | rfl) (by decide) rfl (Nat.le_of_ble_eq_true rfl) hfa ?_
      show WP ΩM _ _ _ _ (.int (-9) :: _) _ _ _
      refine wp_bipush (pc := 4) (v := (-9)) dX6_board_4 (by decide +kernel) ?_
      refine wp_icmp_eq (pc := 6) (tgt := 12) dX6_board_6 (by decide) (fun c_6 => ?_) (fun c_6 => ?_)
      · refine wp_aload_n (pc := 12) (i := 0) dX6_board_12 rfl rfl (by first | with_reducible assumption | rfl) ?_
        refine wp_aload_n (pc := 13) (i := 0) dX6_board_13 rfl rfl (by first | with_reducible assumption | rfl) ?_
        refine wp_getR (pc := 14) dX6_board_14 lf_X6_22 (by first | with_reducible assumption | rfl) (by first | with_reducible assumption | rfl) rfl (by first | with_reducible assumption | rfl) (by first | with_reducible assumption | rfl) ?_
        refine wp_iconst (pc := 17) (v := nI 1) dX6_board_17 (by decide +kernel) ?_
        refine wp_iald (pc := 18) dX6_board_18 (by first | with_reducible assumption | rfl) (by first | with_reducible assumption | rfl) (by first | with_reducible assumption | omega) (by first | decide | omega) ?_
        rw [x1]
        refine wp_bipush (pc := 19) (v := nI 48) dX6_board_19 (by decide +kernel) ?_
        first | (refine wp_isubN (pc := 21) dX6_board_21 (by first | with_reducible assumption | omega) ?_) | (refine wp_isub (pc := 21) dX6_board_21 ?_)
        rw [eq1]
        refine wp_putI (pc := 22) dX6_board_22 lf_X6_47 (by first | with_reducible assumption | rfl) (by first | with_reducible assumption | rfl) rfl rfl ?_
        refine wp_aload_n (pc := 25) (i := 0) dX6_board_25 rfl rfl (by first | with_reducible assumption | rfl) ?_
        refine wp_aload_n (pc := 26) (i := 0) dX6_board_26 rfl rfl (by first | with_reducible assumption | rfl) ?_
        refine wp_getR (pc := 27) dX6_board_27 lf_X6_22 (by first | with_reducible assumption | rfl) (by first | with_reducible assumption | rfl) rfl (by first | with_reducible assumption | rfl) (by first | with_reducible assumption | rfl) ?_
        refine wp_iconst (pc := 30) (v := nI 2) dX6_board_30 (by decide +kernel) ?_
        refine wp_iald (pc := 31) dX6_board_31 (by first | with_reducible assumption | rfl) (by first | with_reducible assumption | rfl) (by first | with_reducible assumption | omega) (by first | decide | omega) ?_
        rw [show uI I 0 0 (nI (wT t)) 5 2 = nI (t.getD 2 0) from x2]
        refine wp_bipush (pc := 32) (v := nI 48) dX6_board_32 (by decide +kernel) ?_
        first | (refine wp_isubN (pc := 34) dX6_board_34 (by first | with_reducible assumption | omega) ?_) | (refine wp_isub (pc := 34) dX6_board_34 ?_)
        rw [eq2]
        refine wp_putI (pc := 35) dX6_board_35 lf_X6_51 (by first | with_reducible assumption | rfl) (by first | with_reducible assumption | rfl) rfl rfl ?_
        refine wp_aload_n (pc := 38) (i := 0) dX6_board_38 rfl rfl (by first | with_reducible assumption | rfl) ?_
        refine wp_aload_n (pc := 39) (i := 0) dX6_board_39 rfl rfl (by first | with_reducible assumption | rfl) ?_
        refine wp_getR (pc := 40) dX6_board_40 lf_X6_22 (by first | with_reducible assumption | rfl) (by first | with_reducible assumption | rfl) rfl (by first | with_reducible assumption | rfl) (by first | with_reducible assumption | rfl) ?_
        refine wp_iconst (pc := 43) (v := nI 3) dX6_board_43 (by decide +kernel) ?_
        refine wp_iald (pc := 44) dX6_board_44 (by first | with_reducible assumption | rfl) (by first | with_reducible assumption | rfl) (by first | with_reducible assumption | omega) (by first | decide | omega) ?_
        rw [show uI (uI I 0 0 (nI (wT t))) 0 1 (nI (htT t)) 5 3 = nI (t.getD 3 0) from x3]
        refine wp_bipush (pc := 45) (v := nI 48) dX6_board_45 (by decide +kernel) ?_
        first | (refine wp_isubN (pc := 47) dX6_board_47 (by first | with_reducible assumption | omega) ?_) | (refine wp_isub (pc := 47) dX6_board_47 ?_)
        rw [eq3]
        refine wp_putI (pc := 48) dX6_board_48 lf_X6_88 (by first | with_reducible assumption | rfl) (by first | with_reducible assumption | rfl) rfl rfl ?_
        refine wp_aload_n (pc := 51) (i := 0) dX6_board_51 rfl rfl (by first | with_reducible assumption | rfl) ?_
        refine wp_getR (pc := 52) dX6_board_52 lf_X6_16 (by first | with_reducible assumption | rfl) (by first | with_reducible assumption | rfl) rfl (by first | with_reducible assumption | rfl) (by first | with_reducible assumption | rfl) ?_
        refine wp_iconst (pc := 55) (v := nI 0) dX6_board_55 (by decide +kernel) ?_
        refine wp_aload_n (pc := 56) (i := 0) dX6_board_56 rfl rfl (by first | with_reducible assumption | rfl) ?_
        refine wp_getR (pc := 57) dX6_board_57 lf_X6_22 (by first | with_reducible assumption | rfl) (by first | with_reducible assumption | rfl) rfl (by first | with_reducible assumption | rfl) (by first | with_reducible assumption | rfl) ?_
        refine wp_iconst (pc := 60) (v := nI 4) dX6_board_60 (by decide +kernel) ?_
        refine wp_iald (pc := 61) dX6_board_61 (by first | with_reducible assumption | rfl) (by first | with_reducible assumption | rfl) (by first | with_reducible assumption | omega) (by first | decide | omega) ?_
        rw [show uI (uI (uI I 0 0 (nI (wT t))) 0 1 (nI (htT t))) 0 2 (nI (lT t)) 5 4 = nI 98 from x4.1]
        refine wp_bipush (pc := 62) (v := nI 119) dX6_board_62 (by decide +kernel) ?_
        first | (refine wp_icmp_neN (pc := 64) (tgt := 71) dX6_board_64 (by decide) (by first | with_reducible assumption | omega) (by first | with_reducible assumption | omega) (fun c_64 => ?_) (fun c_64 => ?_)) | (refine wp_icmp_ne (pc := 64) (tgt := 71) dX6_board_64 (by decide) (fun c_64 => ?_) (fun c_64 => ?_))
        · refine wp_iconst (pc := 71) (v := nI 1) dX6_board_71 (by decide +kernel) ?_
          refine wp_iast (pc := 72) dX6_board_72 (by first | with_reducible assumption | rfl) (by first | with_reducible assumption | rfl) (by first | with_reducible assumption | omega) (by first | decide | omega) ?_
          refine wp_aload_n (pc := 73) (i := 0) dX6_board_73 rfl rfl (by first | with_reducible assumption | rfl) ?_
          refine wp_getR (pc := 74) dX6_board_74 lf_X6_19 (by first | with_reducible assumption | rfl) (by first | with_reducible assumption | rfl) rfl (by first | with_reducible assumption | rfl) (by first | with_reducible assumption | rfl) ?_
          refine wp_iconst (pc := 77) (v := nI 0) dX6_board_77 (by decide +kernel) ?_
          refine wp_bipush (pc := 78) (v := (-9)) dX6_board_78 (by decide +kernel) ?_
          refine wp_iast (pc := 80) dX6_board_80 (by first | with_reducible assumption | rfl) (by first | with_reducible assumption | rfl) (by first | with_reducible assumption | omega) (by first | decide | omega) ?_
          refine wp_iconst (pc := 81) (v := nI 0) dX6_board_81 (by decide +kernel) ?_
          refine wp_istore_n (pc := 82) (i := 1) dX6_board_82 rfl (by decide) ?_
          exact hg
        · exact absurd c_64 (by decide)
      · exact absurd rfl c_6
end MTX
