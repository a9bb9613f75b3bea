/-! CAN THE LAST KING FALL -/
/-- their kings -/
def thr (b : Bd) (c : Nat) : Bool := kng b.1 c && menP b.1 (1 - b.2.2.1) c
def cfA (w h : Nat) (b : Bd) (c : Nat) : Bool := menP b.1 b.2.2.1 c && decide (¬ mset (fun t => aimP w h (b.1 c) (ful b.1) c t && thr b t) = 0)
def cfP (w h : Nat) (b : Bd) : Bool := decide (cnt (thr b) = 1 ∧ ∃ c, c < w * h ∧ cfA w h b c = true)
section FEL
variable {d : Nat} {I : MemI} {J : MemJ}
set_option maxHeartbeats 16000000 in
theorem sp_X2_canFellLast {p w h last : Nat} {b : Bd} (hp : isP p) (hF : Fld w h last I) (hb : PL p b I J) (hs : ∀ c, c < 16 → b.1 c < 12) (ho : b.2.2.1 < 2) : CALL ΩC (d + 3) kX2_canFellLast [.ref p, .ref 3] I J (PQ (.int (bI (cfP w h b))) I J) := by
  have hwh := wh16 hF.1.2.1 hF.1.2.2.2
  have e8 : I p 8 = nI (mset (kng b.1)) := hb.1 8 (by omega) (by omega)
  have e9 : I p 9 = nI b.2.2.1 := hb.1 9 (by omega) (by omega)
  have eF : I 3 8 = nI (w * h) := hF.2.2.2.2.1
  have ho1 : 1 - b.2.2.1 < 2 := by omega
  obtain ⟨q1, q2, q3, q4, q5⟩ := isP_sh hp
  by_cases h1 : cnt (thr b) = 1
  · have loop : ∀ m c, m + c = w * h → (∀ k, k < c → cfA w h b k = false) → WP ΩC (d + 3) kX2_canFellLast 38 [(0, .ref p), (1, .ref 3), (2, .int (nI (mset (thr b)))), (3, .int (nI (mset (menP b.1 b.2.2.1)))), (4, .int (nI c))] [] I J (PQ (.int (bI (cfP w h b))) I J) := by
      intro m
      induction m with
      | zero =>
        intro c hc hall
        have hc' : c = w * h := (Nat.zero_add c).symm.trans hc
        have eP : cfP w h b = false := decide_eq_false (fun z => by
          obtain ⟨-, k, hk, hk2⟩ := z
          rw [hall k (by omega)] at hk2
          exact Bool.noConfusion hk2)
        rw [eP]
        refine wp_iload (pc := 38) dX2_canFellLast_38 rfl ?_
        refine wp_aload_n (pc := 40) (i := 1) dX2_canFellLast_40 rfl rfl (by first | with_reducible assumption | rfl) ?_
        refine wp_getI (pc := 41) dX2_canFellLast_41 lf_X2_99 (by first | with_reducible assumption | rfl) (by first | with_reducible assumption | rfl) rfl ?_
        rw [eF]
        first | (refine wp_icmp_geN (pc := 44) (tgt := 85) dX2_canFellLast_44 (by decide) (by first | with_reducible assumption | omega) (by first | with_reducible assumption | omega) (fun c_44 => ?_) (fun c_44 => ?_)) | (refine wp_icmp_ge (pc := 44) (tgt := 85) dX2_canFellLast_44 (by decide) (fun c_44 => ?_) (fun c_44 => ?_))
        · refine wp_iconst (pc := 85) (v := nI 0) dX2_canFellLast_85 (by decide +kernel) ?_
          refine wp_zreturn (pc := 86) dX2_canFellLast_86 rfl (by first | exact bI_narrow _ | exact nI_narrow01 (by omega) | decide +kernel | assumption) ?_
          exact pq_i bI_f.symm
        · exact absurd (show w * h ≤ c by omega) (by omega)
      | succ m ih =>
        intro c hc hall
        have hcn : c < w * h := by omega
        have hc16 : c < 16 := by omega
        have hm := mset_lt (menP b.1 b.2.2.1)
        have hbit := mset_bit' (menP b.1 b.2.2.1) hc16
        have hsc := hs c hc16
        have hh : cfA w h b c = false → _ := fun z => ih (c + 1) (by omega) (fun k hk => by
          rcases Nat.lt_succ_iff_lt_or_eq.mp hk with h2 | h2
          · exact hall k h2
          · rw [h2]; exact z)
        clear ih
        refine wp_iload (pc := 38) dX2_canFellLast_38 rfl ?_
        refine wp_aload_n (pc := 40) (i := 1) dX2_canFellLast_40 rfl rfl (by first | with_reducible assumption | rfl) ?_
        refine wp_getI (pc := 41) dX2_canFellLast_41 lf_X2_99 (by first | with_reducible assumption | rfl) (by first | with_reducible assumption | rfl) rfl ?_
        rw [eF]
        first | (refine wp_icmp_geN (pc := 44) (tgt := 85) dX2_canFellLast_44 (by decide) (by first | with_reducible assumption | omega) (by first | with_reducible assumption | omega) (fun c_44 => ?_) (fun c_44 => ?_)) | (refine wp_icmp_ge (pc := 44) (tgt := 85) dX2_canFellLast_44 (by decide) (fun c_44 => ?_) (fun c_44 => ?_))
        · exact absurd c_44 (by omega)
        · refine wp_iload_n (pc := 47) (i := 3) dX2_canFellLast_47 rfl rfl ?_
          refine wp_iload (pc := 48) dX2_canFellLast_48 rfl ?_
          refine wp_cSP2 (pc := 50) dX2_canFellLast_50 lm_X2_102 m_X5_has (Nat.le_of_ble_eq_true rfl) (sp_X5_has (by first | with_reducible assumption | omega) (by first | with_reducible assumption | omega)) ?_
          rw [hbit]
          refine wp_if_eqB (pc := 53) (tgt := 79) dX2_canFellLast_53 (by decide) (fun c_53 => ?_) (fun c_53 => ?_)
          · first | (refine wp_iincN (pc := 79) (m := 1) dX2_canFellLast_79 rfl rfl (by decide) ?_) | (refine wp_iinc (pc := 79) dX2_canFellLast_79 rfl rfl (by decide) ?_)
            refine wp_goto (pc := 82) (tgt := 38) dX2_canFellLast_82 (by decide) ?_
            first
              | (have g1 : ¬ ¬ mset (fun t => aimP w h (b.1 c) (ful b.1) c t && thr b t) = 0 := fun z => z c_74
                 exact hh (by unfold cfA; rw [decide_eq_false g1, Bool.and_false]))
              | (have g2 : menP b.1 b.2.2.1 c = false := c_53
                 exact hh (by unfold cfA; rw [g2, Bool.false_and]))
          · refine wp_aload_n (pc := 56) (i := 1) dX2_canFellLast_56 rfl rfl (by first | with_reducible assumption | rfl) ?_
            refine wp_aload_n (pc := 57) (i := 0) dX2_canFellLast_57 rfl rfl (by first | with_reducible assumption | rfl) ?_
            refine wp_iload (pc := 58) dX2_canFellLast_58 rfl ?_
            refine wp_cVP1 (pc := 60) (ci := 2) dX2_canFellLast_60 lm_X2_80 m_X2_sign (by first | with_reducible assumption | rfl) (by first | with_reducible assumption | rfl) (by decide) rfl (Nat.le_of_ble_eq_true rfl) (sp_X2_sign hp hb hs hc16) ?_
            refine wp_iload (pc := 63) dX2_canFellLast_63 rfl ?_
            refine wp_aload_n (pc := 65) (i := 0) dX2_canFellLast_65 rfl rfl (by first | with_reducible assumption | rfl) ?_
            refine wp_cVP0 (pc := 66) (ci := 2) dX2_canFellLast_66 lm_X2_83 m_X2_full (by first | with_reducible assumption | rfl) (by first | with_reducible assumption | rfl) (by decide) rfl (Nat.le_of_ble_eq_true rfl) (sp_X2_full hp hb) ?_
            refine wp_cVP3 (pc := 69) (ci := 0) dX2_canFellLast_69 lm_X2_87 m_X0_aimed (by first | with_reducible assumption | rfl) (by first | with_reducible assumption | rfl) (by decide) rfl (Nat.le_of_ble_eq_true rfl) (sp_X0_aimed hF hsc hcn) ?_
            refine wp_iload_n (pc := 72) (i := 2) dX2_canFellLast_72 rfl rfl ?_
            first | (refine wp_iandN (pc := 73) dX2_canFellLast_73 ?_) | (refine wp_iand (pc := 73) dX2_canFellLast_73 ?_)
            rw [mset_and]
            have hlt2 := mset_lt (fun t => aimP w h (b.1 c) (ful b.1) c t && thr b t)
            refine wp_if_eqN (pc := 74) (tgt := 79) dX2_canFellLast_74 (by decide) (by first | with_reducible assumption | omega) (fun c_74 => ?_) (fun c_74 => ?_)
            · first | (refine wp_iincN (pc := 79) (m := 1) dX2_canFellLast_79 rfl rfl (by decide) ?_) | (refine wp_iinc (pc := 79) dX2_canFellLast_79 rfl rfl (by decide) ?_)
              refine wp_goto (pc := 82) (tgt := 38) dX2_canFellLast_82 (by decide) ?_
              first
                | (have g1 : ¬ ¬ mset (fun t => aimP w h (b.1 c) (ful b.1) c t && thr b t) = 0 := fun z => z c_74
                   exact hh (by unfold cfA; rw [decide_eq_false g1, Bool.and_false]))
                | (have g2 : menP b.1 b.2.2.1 c = false := c_53
                   exact hh (by unfold cfA; rw [g2, Bool.false_and]))
            · refine wp_iconst (pc := 77) (v := nI 1) dX2_canFellLast_77 (by decide +kernel) ?_
              refine wp_zreturn (pc := 78) dX2_canFellLast_78 rfl (by first | exact bI_narrow _ | exact nI_narrow01 (by omega) | decide +kernel | assumption) ?_
              exact pq_i (by rw [show cfP w h b = true from decide_eq_true ⟨h1, c, hcn, by unfold cfA; rw [c_53, decide_eq_true c_74]; rfl⟩]; exact bI_t.symm)
    refine call_of_wp (by decide) (Nat.le_of_ble_eq_true rfl) ?_
    refine wp_aload_n (pc := 0) (i := 0) dX2_canFellLast_0 rfl rfl (by first | with_reducible assumption | rfl) ?_
    refine wp_getI (pc := 1) dX2_canFellLast_1 lf_X2_35 (by first | with_reducible assumption | rfl) (by first | with_reducible assumption | rfl) rfl ?_
    rw [e8]
    refine wp_aload_n (pc := 4) (i := 0) dX2_canFellLast_4 rfl rfl (by first | with_reducible assumption | rfl) ?_
    refine wp_iconst (pc := 5) (v := nI 1) dX2_canFellLast_5 (by decide +kernel) ?_
    refine wp_aload_n (pc := 6) (i := 0) dX2_canFellLast_6 rfl rfl (by first | with_reducible assumption | rfl) ?_
    refine wp_getI (pc := 7) dX2_canFellLast_7 lf_X2_38 (by first | with_reducible assumption | rfl) (by first | with_reducible assumption | rfl) rfl ?_
    rw [e9]
    first | (refine wp_isubN (pc := 10) dX2_canFellLast_10 (by first | with_reducible assumption | omega) ?_) | (refine wp_isub (pc := 10) dX2_canFellLast_10 ?_)
    refine wp_cVP1 (pc := 11) (ci := 2) dX2_canFellLast_11 lm_X2_96 m_X2_men (by first | with_reducible assumption | rfl) (by first | with_reducible assumption | rfl) (by decide) rfl (Nat.le_of_ble_eq_true rfl) (sp_X2_men hp hb ho1) ?_
    first | (refine wp_iandN (pc := 14) dX2_canFellLast_14 ?_) | (refine wp_iand (pc := 14) dX2_canFellLast_14 ?_)
    rw [mset_and]
    refine wp_istore_n (pc := 15) (i := 2) dX2_canFellLast_15 rfl (by decide) ?_
    refine wp_iload_n (pc := 16) (i := 2) dX2_canFellLast_16 rfl rfl ?_
    have hlt := mset_lt (thr b)
    refine wp_cSP1 (pc := 17) dX2_canFellLast_17 lm_X2_75 m_J6_bitCount_0f7a4 (Nat.le_of_ble_eq_true rfl) (sp_J6_bitCount (m := mset (thr b)) hlt) ?_
    rw [sw_mset]
    refine wp_iconst (pc := 20) (v := nI 1) dX2_canFellLast_20 (by decide +kernel) ?_
    first | (refine wp_icmp_eqN (pc := 21) (tgt := 26) dX2_canFellLast_21 (by decide) (by first | with_reducible assumption | omega) (by first | with_reducible assumption | omega) (fun c_21 => ?_) (fun c_21 => ?_)) | (refine wp_icmp_eq (pc := 21) (tgt := 26) dX2_canFellLast_21 (by decide) (fun c_21 => ?_) (fun c_21 => ?_))
    · refine wp_aload_n (pc := 26) (i := 0) dX2_canFellLast_26 rfl rfl (by first | with_reducible assumption | rfl) ?_
      refine wp_aload_n (pc := 27) (i := 0) dX2_canFellLast_27 rfl rfl (by first | with_reducible assumption | rfl) ?_
      refine wp_getI (pc := 28) dX2_canFellLast_28 lf_X2_38 (by first | with_reducible assumption | rfl) (by first | with_reducible assumption | rfl) rfl ?_
      rw [e9]
      refine wp_cVP1 (pc := 31) (ci := 2) dX2_canFellLast_31 lm_X2_96 m_X2_men (by first | with_reducible assumption | rfl) (by first | with_reducible assumption | rfl) (by decide) rfl (Nat.le_of_ble_eq_true rfl) (sp_X2_men hp hb ho) ?_
      refine wp_istore_n (pc := 34) (i := 3) dX2_canFellLast_34 rfl (by decide) ?_
      refine wp_iconst (pc := 35) (v := nI 0) dX2_canFellLast_35 (by decide +kernel) ?_
      refine wp_istore (pc := 36) dX2_canFellLast_36 (by decide) ?_
      exact loop (w * h) 0 rfl (fun k hk => absurd hk (Nat.not_lt_zero k))
    · exact absurd h1 c_21
  · have eP : cfP w h b = false := decide_eq_false (fun z => h1 z.1)
    have hcb : cnt (thr b) ≤ 16 := fb_ct_le (thr b) 16
    rw [eP]
    refine call_of_wp (by decide) (Nat.le_of_ble_eq_true rfl) ?_
    refine wp_aload_n (pc := 0) (i := 0) dX2_canFellLast_0 rfl rfl (by first | with_reducible assumption | rfl) ?_
    refine wp_getI (pc := 1) dX2_canFellLast_1 lf_X2_35 (by first | with_reducible assumption | rfl) (by first | with_reducible assumption | rfl) rfl ?_
    rw [e8]
    refine wp_aload_n (pc := 4) (i := 0) dX2_canFellLast_4 rfl rfl (by first | with_reducible assumption | rfl) ?_
    refine wp_iconst (pc := 5) (v := nI 1) dX2_canFellLast_5 (by decide +kernel) ?_
    refine wp_aload_n (pc := 6) (i := 0) dX2_canFellLast_6 rfl rfl (by first | with_reducible assumption | rfl) ?_
    refine wp_getI (pc := 7) dX2_canFellLast_7 lf_X2_38 (by first | with_reducible assumption | rfl) (by first | with_reducible assumption | rfl) rfl ?_
    rw [e9]
    first | (refine wp_isubN (pc := 10) dX2_canFellLast_10 (by first | with_reducible assumption | omega) ?_) | (refine wp_isub (pc := 10) dX2_canFellLast_10 ?_)
    refine wp_cVP1 (pc := 11) (ci := 2) dX2_canFellLast_11 lm_X2_96 m_X2_men (by first | with_reducible assumption | rfl) (by first | with_reducible assumption | rfl) (by decide) rfl (Nat.le_of_ble_eq_true rfl) (sp_X2_men hp hb ho1) ?_
    first | (refine wp_iandN (pc := 14) dX2_canFellLast_14 ?_) | (refine wp_iand (pc := 14) dX2_canFellLast_14 ?_)
    rw [mset_and]
    refine wp_istore_n (pc := 15) (i := 2) dX2_canFellLast_15 rfl (by decide) ?_
    refine wp_iload_n (pc := 16) (i := 2) dX2_canFellLast_16 rfl rfl ?_
    have hlt := mset_lt (thr b)
    refine wp_cSP1 (pc := 17) dX2_canFellLast_17 lm_X2_75 m_J6_bitCount_0f7a4 (Nat.le_of_ble_eq_true rfl) (sp_J6_bitCount (m := mset (thr b)) hlt) ?_
    rw [sw_mset]
    refine wp_iconst (pc := 20) (v := nI 1) dX2_canFellLast_20 (by decide +kernel) ?_
    first | (refine wp_icmp_eqN (pc := 21) (tgt := 26) dX2_canFellLast_21 (by decide) (by first | with_reducible assumption | omega) (by first | with_reducible assumption | omega) (fun c_21 => ?_) (fun c_21 => ?_)) | (refine wp_icmp_eq (pc := 21) (tgt := 26) dX2_canFellLast_21 (by decide) (fun c_21 => ?_) (fun c_21 => ?_))
    · exact absurd c_21 h1
    · refine wp_iconst (pc := 24) (v := nI 0) dX2_canFellLast_24 (by decide +kernel) ?_
      refine wp_zreturn (pc := 25) dX2_canFellLast_25 rfl (by first | exact bI_narrow _ | exact nI_narrow01 (by omega) | decide +kernel | assumption) ?_
      exact pq_i bI_f.symm
end FEL
