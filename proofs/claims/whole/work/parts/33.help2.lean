/-! WHAT THE CALLS SHARE, 2 -/
theorem Cl.trans {R : Nat → Nat → Bool} {a b c : Nat} (h : Cl R a b) (k : Cl R b c) : Cl R a c := fun S h1 h2 => k S (h S h1 h2) h2
theorem anK_s (f : Nat → Bool) (k : Nat) : anK f (k + 1) = (anK f k || f k) := rfl
theorem an_t {A : Nat → Bool} {P : Nat → Nat → Bool} {k : Nat} (g : A k = true) : mset (fun t => anK (fun c => A c && P c t) (k + 1)) = mset (fun t => anK (fun c => A c && P c t) k || P k t) := mset_eq fun t _ => by rw [anK_s, g, Bool.true_and]
theorem an_f {A : Nat → Bool} {P : Nat → Nat → Bool} {k : Nat} (g : A k = false) : mset (fun t => anK (fun c => A c && P c t) (k + 1)) = mset (fun t => anK (fun c => A c && P c t) k) := mset_eq fun t _ => by rw [anK_s, g, Bool.false_and, Bool.or_false]
theorem an_0 {A : Nat → Bool} {P : Nat → Nat → Bool} : mset (fun t => anK (fun c => A c && P c t) 0) = 0 := mset_zero.mpr (fun _ _ => rfl)
theorem ldr_f {w h k : Nat} {O : Nat → Bool} (g : ldr w h O k = false) : mset (fun t => anK (fun c => O c && clB (hgR w h O) c t) (k + 1)) = mset (fun t => anK (fun c => O c && clB (hgR w h O) c t) k) := by
  unfold ldr at g
  cases hO : O k
  · exact an_f hO
  · rw [hO, Bool.true_and, Bool.not_eq_false'] at g
    rw [an_t hO]
    refine mset_eq fun t _ => ?_
    obtain ⟨j, hj, hj2⟩ := (anK_iff _).mp g
    rw [Bool.and_eq_true] at hj2
    cases hc : clB (hgR w h O) k t
    · rw [Bool.or_false]
    · have : anK (fun c => O c && clB (hgR w h O) c t) k = true := (anK_iff _).mpr ⟨j, hj, by rw [hj2.1, Bool.true_and]; exact clB_iff.mpr ((clB_iff.mp hj2.2).trans (clB_iff.mp hc))⟩
      rw [this]; rfl
theorem ldr_t {w h k : Nat} {O : Nat → Bool} (g : ldr w h O k = true) : mset (fun t => anK (fun c => O c && clB (hgR w h O) c t) (k + 1)) = mset (fun t => anK (fun c => O c && clB (hgR w h O) c t) k || clB (hgR w h O) k t) := by
  unfold ldr at g
  rw [Bool.and_eq_true] at g
  exact an_t g.1
theorem ct_s (p : Nat → Bool) (k : Nat) (b : Bool) (h : p k = b) : fb_ct p (k + 1) = fb_ct p k + b.toNat := by
  rw [fb_ct_succ, h]
  cases b <;> rfl
section HL2
variable {d : Nat} {I : MemI} {J : MemJ}
set_option maxHeartbeats 16000000 in
theorem sp_X5_partsAheadOf {w h last : Nat} {b : Bd} {W : Nat → Bool} (hF : Fld w h last I) (hb : PL 12 b I J) : CALL ΩC (d + 3) kX5_partsAheadOf [.ref 0, .int (nI (mset W))] I J (PQ (.int (nI (pao w h (opn w h b.1) W))) I J) := by
  have hwh := wh16 hF.1.2.1 hF.1.2.2.2
  have eF : I 3 8 = nI (w * h) := hF.2.2.2.2.1
  have e7 : I 12 7 = nI (mset (ded b.1)) := hb.1 7 (by omega) (by omega)
  generalize hO : opn w h b.1 = O
  have eO : mset (fun i => decide (i < w * h) && !ded b.1 i) = mset O := by rw [← hO]; rfl
  have hlO := mset_lt O
  have loop : ∀ m k, m + k = w * h → (∀ j, j < k → (ldr w h O j && hits w h O W j) = false) → WP ΩC (d + 3) kX5_partsAheadOf 26 [(0, .ref 0), (1, .int (nI (mset W))), (2, .int (nI (mset O))), (3, .int (nI (mset (fun t => anK (fun c => O c && clB (hgR w h O) c t) k)))), (4, .int (nI (fb_ct (ldr w h O) k))), (5, .int (nI k))] [] I J (PQ (.int (nI (pao w h O W))) I J) := by
    intro m
    induction m with
    | zero =>
      intro k hk hall
      have hk' : k = w * h := (Nat.zero_add k).symm.trans hk
      have e : pao w h O W = fb_ct (ldr w h O) k := by
        unfold pao
        rw [find_no (fun j hj => hall j (by omega)), hk']
      rw [e]
      refine wp_iload (pc := 26) dX5_partsAheadOf_26 rfl ?_
      refine wp_aload_n (pc := 28) (i := 0) dX5_partsAheadOf_28 rfl rfl (by first | with_reducible assumption | rfl) ?_
      refine wp_getR (pc := 29) dX5_partsAheadOf_29 lf_X5_19 (by first | with_reducible assumption | rfl) (by first | with_reducible assumption | rfl) rfl (by first | with_reducible assumption | rfl) (by first | with_reducible assumption | rfl) ?_
      refine wp_getI (pc := 32) dX5_partsAheadOf_32 lf_X5_86 (by first | with_reducible assumption | rfl) (by first | with_reducible assumption | rfl) rfl ?_
      rw [eF]
      first | (refine wp_icmp_geN (pc := 35) (tgt := 87) dX5_partsAheadOf_35 (by decide) (by first | with_reducible assumption | omega) (by first | with_reducible assumption | omega) (fun c_35 => ?_) (fun c_35 => ?_)) | (refine wp_icmp_ge (pc := 35) (tgt := 87) dX5_partsAheadOf_35 (by decide) (fun c_35 => ?_) (fun c_35 => ?_))
      · refine wp_iload (pc := 87) dX5_partsAheadOf_87 rfl ?_
        refine wp_ireturn (pc := 89) dX5_partsAheadOf_89 rfl ?_
        exact pq_i rfl
      · exact absurd (show w * h ≤ k by omega) c_35
    | succ m ih =>
      intro k hk hall
      have hkn : k < w * h := by omega
      have hk16 : k < 16 := by omega
      have hm := mset_lt (fun i => O i && !anK (fun c => O c && clB (hgR w h O) c i) k)
      have hbit : (mset (fun i => O i && !anK (fun c => O c && clB (hgR w h O) c i) k)).testBit k = ldr w h O k := mset_bit' _ hk16
      have hm2 := mset_lt (fun t => clB (hgR w h O) k t && W t)
      have h0 := ih (k + 1) (by omega)
      clear ih
      cases hl : ldr w h O k
      · have h1 := h0 (fun j hj => by
          rcases Nat.lt_succ_iff_lt_or_eq.mp hj with y | y
          · exact hall j y
          · rw [y, hl]; rfl)
        rw [ldr_f hl, ct_s _ _ _ hl] at h1
        refine wp_iload (pc := 26) dX5_partsAheadOf_26 rfl ?_
        refine wp_aload_n (pc := 28) (i := 0) dX5_partsAheadOf_28 rfl rfl (by first | with_reducible assumption | rfl) ?_
        refine wp_getR (pc := 29) dX5_partsAheadOf_29 lf_X5_19 (by first | with_reducible assumption | rfl) (by first | with_reducible assumption | rfl) rfl (by first | with_reducible assumption | rfl) (by first | with_reducible assumption | rfl) ?_
        refine wp_getI (pc := 32) dX5_partsAheadOf_32 lf_X5_86 (by first | with_reducible assumption | rfl) (by first | with_reducible assumption | rfl) rfl ?_
        rw [eF]
        first | (refine wp_icmp_geN (pc := 35) (tgt := 87) dX5_partsAheadOf_35 (by decide) (by first | with_reducible assumption | omega) (by first | with_reducible assumption | omega) (fun c_35 => ?_) (fun c_35 => ?_)) | (refine wp_icmp_ge (pc := 35) (tgt := 87) dX5_partsAheadOf_35 (by decide) (fun c_35 => ?_) (fun c_35 => ?_))
        · exact absurd c_35 (by omega)
        · refine wp_iload_n (pc := 38) (i := 2) dX5_partsAheadOf_38 rfl rfl ?_
          refine wp_iload_n (pc := 39) (i := 3) dX5_partsAheadOf_39 rfl rfl ?_
          refine wp_iconst (pc := 40) (v := (-1)) dX5_partsAheadOf_40 (by decide +kernel) ?_
          refine wp_ixor (pc := 41) dX5_partsAheadOf_41 ?_
          refine wp_iand (pc := 42) dX5_partsAheadOf_42 ?_
          rw [mset_minus]
          refine wp_iload (pc := 43) dX5_partsAheadOf_43 rfl ?_
          refine wp_cSP2 (pc := 45) dX5_partsAheadOf_45 lm_X5_118 m_X5_has (Nat.le_of_ble_eq_true rfl) (sp_X5_has (by first | with_reducible assumption | omega) (by first | with_reducible assumption | omega)) ?_
          rw [hbit, hl]
          refine wp_if_eqB (pc := 48) (tgt := 81) dX5_partsAheadOf_48 (by decide) (fun c_48 => ?_) (fun c_48 => ?_)
          · first | (refine wp_iincN (pc := 81) (m := 1) dX5_partsAheadOf_81 rfl rfl (by decide) ?_) | (refine wp_iinc (pc := 81) dX5_partsAheadOf_81 rfl rfl (by decide) ?_)
            refine wp_goto (pc := 84) (tgt := 26) dX5_partsAheadOf_84 (by decide) ?_
            exact h1
          · exact Bool.noConfusion c_48
      · by_cases hh : mset (fun t => clB (hgR w h O) k t && W t) = 0
        · have hh2 : hits w h O W k = false := decide_eq_false (fun z => z hh)
          have h1 := h0 (fun j hj => by
            rcases Nat.lt_succ_iff_lt_or_eq.mp hj with y | y
            · exact hall j y
            · rw [y, hl, hh2]; rfl)
          rw [ldr_t hl, ct_s _ _ _ hl] at h1
          refine wp_iload (pc := 26) dX5_partsAheadOf_26 rfl ?_
          refine wp_aload_n (pc := 28) (i := 0) dX5_partsAheadOf_28 rfl rfl (by first | with_reducible assumption | rfl) ?_
          refine wp_getR (pc := 29) dX5_partsAheadOf_29 lf_X5_19 (by first | with_reducible assumption | rfl) (by first | with_reducible assumption | rfl) rfl (by first | with_reducible assumption | rfl) (by first | with_reducible assumption | rfl) ?_
          refine wp_getI (pc := 32) dX5_partsAheadOf_32 lf_X5_86 (by first | with_reducible assumption | rfl) (by first | with_reducible assumption | rfl) rfl ?_
          rw [eF]
          first | (refine wp_icmp_geN (pc := 35) (tgt := 87) dX5_partsAheadOf_35 (by decide) (by first | with_reducible assumption | omega) (by first | with_reducible assumption | omega) (fun c_35 => ?_) (fun c_35 => ?_)) | (refine wp_icmp_ge (pc := 35) (tgt := 87) dX5_partsAheadOf_35 (by decide) (fun c_35 => ?_) (fun c_35 => ?_))
          · exact absurd c_35 (by omega)
          · refine wp_iload_n (pc := 38) (i := 2) dX5_partsAheadOf_38 rfl rfl ?_
            refine wp_iload_n (pc := 39) (i := 3) dX5_partsAheadOf_39 rfl rfl ?_
            refine wp_iconst (pc := 40) (v := (-1)) dX5_partsAheadOf_40 (by decide +kernel) ?_
            refine wp_ixor (pc := 41) dX5_partsAheadOf_41 ?_
            refine wp_iand (pc := 42) dX5_partsAheadOf_42 ?_
            rw [mset_minus]
            refine wp_iload (pc := 43) dX5_partsAheadOf_43 rfl ?_
            refine wp_cSP2 (pc := 45) dX5_partsAheadOf_45 lm_X5_118 m_X5_has (Nat.le_of_ble_eq_true rfl) (sp_X5_has (by first | with_reducible assumption | omega) (by first | with_reducible assumption | omega)) ?_
            rw [hbit, hl]
            refine wp_if_eqB (pc := 48) (tgt := 81) dX5_partsAheadOf_48 (by decide) (fun c_48 => ?_) (fun c_48 => ?_)
            · exact Bool.noConfusion c_48
            · refine wp_aload_n (pc := 51) (i := 0) dX5_partsAheadOf_51 rfl rfl (by first | with_reducible assumption | rfl) ?_
              refine wp_getR (pc := 52) dX5_partsAheadOf_52 lf_X5_19 (by first | with_reducible assumption | rfl) (by first | with_reducible assumption | rfl) rfl (by first | with_reducible assumption | rfl) (by first | with_reducible assumption | rfl) ?_
              refine wp_iload (pc := 55) dX5_partsAheadOf_55 rfl ?_
              refine wp_iload_n (pc := 57) (i := 2) dX5_partsAheadOf_57 rfl rfl ?_
              refine wp_cVP2 (pc := 58) (ci := 0) dX5_partsAheadOf_58 lm_X5_242 m_X0_hanging (by first | with_reducible assumption | rfl) (by first | with_reducible assumption | rfl) (by decide) rfl (Nat.le_of_ble_eq_true rfl) (sp_X0_hanging hF hkn) ?_
              refine wp_istore (pc := 61) dX5_partsAheadOf_61 (by decide) ?_
              refine wp_iload (pc := 63) dX5_partsAheadOf_63 rfl ?_
              refine wp_iload_n (pc := 65) (i := 1) dX5_partsAheadOf_65 rfl rfl ?_
              first | (refine wp_iandN (pc := 66) dX5_partsAheadOf_66 ?_) | (refine wp_iand (pc := 66) dX5_partsAheadOf_66 ?_)
              rw [mset_and]
              refine wp_if_eqN (pc := 67) (tgt := 73) dX5_partsAheadOf_67 (by decide) (by first | with_reducible assumption | omega) (fun c_67 => ?_) (fun c_67 => ?_)
              · refine wp_iload_n (pc := 73) (i := 3) dX5_partsAheadOf_73 rfl rfl ?_
                refine wp_iload (pc := 74) dX5_partsAheadOf_74 rfl ?_
                first | (refine wp_iorN (pc := 76) dX5_partsAheadOf_76 ?_) | (refine wp_ior (pc := 76) dX5_partsAheadOf_76 ?_)
                rw [mset_or]
                refine wp_istore_n (pc := 77) (i := 3) dX5_partsAheadOf_77 rfl (by decide) ?_
                first | (refine wp_iincN (pc := 78) (m := 1) dX5_partsAheadOf_78 rfl rfl (by decide) ?_) | (refine wp_iinc (pc := 78) dX5_partsAheadOf_78 rfl rfl (by decide) ?_)
                first | (refine wp_iincN (pc := 81) (m := 1) dX5_partsAheadOf_81 rfl rfl (by decide) ?_) | (refine wp_iinc (pc := 81) dX5_partsAheadOf_81 rfl rfl (by decide) ?_)
                refine wp_goto (pc := 84) (tgt := 26) dX5_partsAheadOf_84 (by decide) ?_
                refine wp_drop 6 ?_
                exact h1
              · exact absurd hh c_67
        · have hh2 : hits w h O W k = true := decide_eq_true hh
          have e : pao w h O W = fb_ct (ldr w h O) k := by
            unfold pao
            rw [find_ff hkn hall (by rw [hl, hh2]; rfl)]
          rw [e]
          refine wp_iload (pc := 26) dX5_partsAheadOf_26 rfl ?_
          refine wp_aload_n (pc := 28) (i := 0) dX5_partsAheadOf_28 rfl rfl (by first | with_reducible assumption | rfl) ?_
          refine wp_getR (pc := 29) dX5_partsAheadOf_29 lf_X5_19 (by first | with_reducible assumption | rfl) (by first | with_reducible assumption | rfl) rfl (by first | with_reducible assumption | rfl) (by first | with_reducible assumption | rfl) ?_
          refine wp_getI (pc := 32) dX5_partsAheadOf_32 lf_X5_86 (by first | with_reducible assumption | rfl) (by first | with_reducible assumption | rfl) rfl ?_
          rw [eF]
          first | (refine wp_icmp_geN (pc := 35) (tgt := 87) dX5_partsAheadOf_35 (by decide) (by first | with_reducible assumption | omega) (by first | with_reducible assumption | omega) (fun c_35 => ?_) (fun c_35 => ?_)) | (refine wp_icmp_ge (pc := 35) (tgt := 87) dX5_partsAheadOf_35 (by decide) (fun c_35 => ?_) (fun c_35 => ?_))
          · exact absurd c_35 (by omega)
          · refine wp_iload_n (pc := 38) (i := 2) dX5_partsAheadOf_38 rfl rfl ?_
            refine wp_iload_n (pc := 39) (i := 3) dX5_partsAheadOf_39 rfl rfl ?_
            refine wp_iconst (pc := 40) (v := (-1)) dX5_partsAheadOf_40 (by decide +kernel) ?_
            refine wp_ixor (pc := 41) dX5_partsAheadOf_41 ?_
            refine wp_iand (pc := 42) dX5_partsAheadOf_42 ?_
            rw [mset_minus]
            refine wp_iload (pc := 43) dX5_partsAheadOf_43 rfl ?_
            refine wp_cSP2 (pc := 45) dX5_partsAheadOf_45 lm_X5_118 m_X5_has (Nat.le_of_ble_eq_true rfl) (sp_X5_has (by first | with_reducible assumption | omega) (by first | with_reducible assumption | omega)) ?_
            rw [hbit, hl]
            refine wp_if_eqB (pc := 48) (tgt := 81) dX5_partsAheadOf_48 (by decide) (fun c_48 => ?_) (fun c_48 => ?_)
            · exact Bool.noConfusion c_48
            · refine wp_aload_n (pc := 51) (i := 0) dX5_partsAheadOf_51 rfl rfl (by first | with_reducible assumption | rfl) ?_
              refine wp_getR (pc := 52) dX5_partsAheadOf_52 lf_X5_19 (by first | with_reducible assumption | rfl) (by first | with_reducible assumption | rfl) rfl (by first | with_reducible assumption | rfl) (by first | with_reducible assumption | rfl) ?_
              refine wp_iload (pc := 55) dX5_partsAheadOf_55 rfl ?_
              refine wp_iload_n (pc := 57) (i := 2) dX5_partsAheadOf_57 rfl rfl ?_
              refine wp_cVP2 (pc := 58) (ci := 0) dX5_partsAheadOf_58 lm_X5_242 m_X0_hanging (by first | with_reducible assumption | rfl) (by first | with_reducible assumption | rfl) (by decide) rfl (Nat.le_of_ble_eq_true rfl) (sp_X0_hanging hF hkn) ?_
              refine wp_istore (pc := 61) dX5_partsAheadOf_61 (by decide) ?_
              refine wp_iload (pc := 63) dX5_partsAheadOf_63 rfl ?_
              refine wp_iload_n (pc := 65) (i := 1) dX5_partsAheadOf_65 rfl rfl ?_
              first | (refine wp_iandN (pc := 66) dX5_partsAheadOf_66 ?_) | (refine wp_iand (pc := 66) dX5_partsAheadOf_66 ?_)
              rw [mset_and]
              refine wp_if_eqN (pc := 67) (tgt := 73) dX5_partsAheadOf_67 (by decide) (by first | with_reducible assumption | omega) (fun c_67 => ?_) (fun c_67 => ?_)
              · exact absurd c_67 hh
              · refine wp_iload (pc := 70) dX5_partsAheadOf_70 rfl ?_
                refine wp_ireturn (pc := 72) dX5_partsAheadOf_72 rfl ?_
                exact pq_i rfl
  refine call_of_wp (by decide) (Nat.le_of_ble_eq_true rfl) ?_
  refine wp_aload_n (pc := 0) (i := 0) dX5_partsAheadOf_0 rfl rfl (by first | with_reducible assumption | rfl) ?_
  refine wp_getR (pc := 1) dX5_partsAheadOf_1 lf_X5_19 (by first | with_reducible assumption | rfl) (by first | with_reducible assumption | rfl) rfl (by first | with_reducible assumption | rfl) (by first | with_reducible assumption | rfl) ?_
  refine wp_cVP0 (pc := 4) (ci := 0) dX5_partsAheadOf_4 lm_X5_239 m_X0_all (by first | with_reducible assumption | rfl) (by first | with_reducible assumption | rfl) (by decide) rfl (Nat.le_of_ble_eq_true rfl) (sp_X0_all (by with_reducible assumption)) ?_
  refine wp_aload_n (pc := 7) (i := 0) dX5_partsAheadOf_7 rfl rfl (by first | with_reducible assumption | rfl) ?_
  refine wp_getR (pc := 8) dX5_partsAheadOf_8 lf_X5_32 (by first | with_reducible assumption | rfl) (by first | with_reducible assumption | rfl) rfl (by first | with_reducible assumption | rfl) (by first | with_reducible assumption | rfl) ?_
  refine wp_getI (pc := 11) dX5_partsAheadOf_11 lf_X5_115 (by first | with_reducible assumption | rfl) (by first | with_reducible assumption | rfl) rfl ?_
  rw [e7]
  refine wp_iconst (pc := 14) (v := (-1)) dX5_partsAheadOf_14 (by decide +kernel) ?_
  refine wp_ixor (pc := 15) dX5_partsAheadOf_15 ?_
  refine wp_iand (pc := 16) dX5_partsAheadOf_16 ?_
  rw [mset_minus, eO]
  refine wp_istore_n (pc := 17) (i := 2) dX5_partsAheadOf_17 rfl (by decide) ?_
  refine wp_iconst (pc := 18) (v := nI 0) dX5_partsAheadOf_18 (by decide +kernel) ?_
  refine wp_istore_n (pc := 19) (i := 3) dX5_partsAheadOf_19 rfl (by decide) ?_
  refine wp_iconst (pc := 20) (v := nI 0) dX5_partsAheadOf_20 (by decide +kernel) ?_
  refine wp_istore (pc := 21) dX5_partsAheadOf_21 (by decide) ?_
  refine wp_iconst (pc := 23) (v := nI 0) dX5_partsAheadOf_23 (by decide +kernel) ?_
  refine wp_istore (pc := 24) dX5_partsAheadOf_24 (by decide) ?_
  have h0 := loop (w * h) 0 rfl (fun j hj => absurd hj (Nat.not_lt_zero j))
  rw [an_0] at h0
  exact h0
set_option maxHeartbeats 16000000 in
theorem sp_X5_canComeAt {w h last : Nat} {b : Bd} {A B : Nat → Bool} (hF : Fld w h last I) (hb : PL 12 b I J) (hB : Bok (w * h) b) : CALL ΩC (d + 5) kX5_canComeAt [.ref 0, .int (nI (mset A)), .int (nI (mset B))] I J (PQ (.int (bI (ccB w h b.1 A B))) I J) := by
  have hwh := wh16 hF.1.2.1 hF.1.2.2.2
  have eF : I 3 8 = nI (w * h) := hF.2.2.2.2.1
  have e7 : I 12 7 = nI (mset (ded b.1)) := hb.1 7 (by omega) (by omega)
  have p12 : isP 12 := ⟨by decide, by decide⟩
  have hmA := mset_lt A
  have hmB := mset_lt B
  have hm := mset_lt (fun t => anK (fun c => A c && thrP w h (b.1 c) (ded b.1) c (w * h) t) (w * h) && anK (fun c => B c && comP w h (b.1 c) (ded b.1) c t) (w * h))
  have loop : ∀ m k, m + k = w * h → WP ΩC (d + 5) kX5_canComeAt 8 [(0, .ref 0), (1, .int (nI (mset A))), (2, .int (nI (mset B))), (3, .int (nI (mset (fun t => anK (fun c => A c && thrP w h (b.1 c) (ded b.1) c (w * h) t) k)))), (4, .int (nI (mset (fun t => anK (fun c => B c && comP w h (b.1 c) (ded b.1) c t) k)))), (5, .int (nI k))] [] I J (PQ (.int (bI (ccB w h b.1 A B))) I J) := by
    intro m
    induction m with
    | zero =>
      intro k hk
      have hk' : k = w * h := (Nat.zero_add k).symm.trans hk
      rw [hk']
      refine wp_iload (pc := 8) dX5_canComeAt_8 rfl ?_
      refine wp_aload_n (pc := 10) (i := 0) dX5_canComeAt_10 rfl rfl (by first | with_reducible assumption | rfl) ?_
      refine wp_getR (pc := 11) dX5_canComeAt_11 lf_X5_19 (by first | with_reducible assumption | rfl) (by first | with_reducible assumption | rfl) rfl (by first | with_reducible assumption | rfl) (by first | with_reducible assumption | rfl) ?_
      refine wp_getI (pc := 14) dX5_canComeAt_14 lf_X5_86 (by first | with_reducible assumption | rfl) (by first | with_reducible assumption | rfl) rfl ?_
      rw [eF]
      first | (refine wp_icmp_geN (pc := 17) (tgt := 102) dX5_canComeAt_17 (by decide) (by first | with_reducible assumption | omega) (by first | with_reducible assumption | omega) (fun c_17 => ?_) (fun c_17 => ?_)) | (refine wp_icmp_ge (pc := 17) (tgt := 102) dX5_canComeAt_17 (by decide) (fun c_17 => ?_) (fun c_17 => ?_))
      · refine wp_iload_n (pc := 102) (i := 3) dX5_canComeAt_102 rfl rfl ?_
        refine wp_iload (pc := 103) dX5_canComeAt_103 rfl ?_
        first | (refine wp_iandN (pc := 105) dX5_canComeAt_105 ?_) | (refine wp_iand (pc := 105) dX5_canComeAt_105 ?_)
        rw [mset_and]
        refine wp_if_eqN (pc := 106) (tgt := 113) dX5_canComeAt_106 (by decide) (by first | with_reducible assumption | omega) (fun c_106 => ?_) (fun c_106 => ?_)
        · refine wp_iconst (pc := 113) (v := nI 0) dX5_canComeAt_113 (by decide +kernel) ?_
          refine wp_zreturn (pc := 114) dX5_canComeAt_114 rfl (by first | exact bI_narrow _ | exact nI_narrow01 (by omega) | decide +kernel | assumption) ?_
          first | (have g : ¬ _ = 0 := c_106; exact pq_i (dI_t g).symm) | (have g : _ = 0 := c_106; exact pq_i (dI_f (fun z => z g)).symm)
        · refine wp_iconst (pc := 109) (v := nI 1) dX5_canComeAt_109 (by decide +kernel) ?_
          refine wp_goto (pc := 110) (tgt := 114) dX5_canComeAt_110 (by decide) ?_
          refine wp_zreturn (pc := 114) dX5_canComeAt_114 rfl (by first | exact bI_narrow _ | exact nI_narrow01 (by omega) | decide +kernel | assumption) ?_
          first | (have g : ¬ _ = 0 := c_106; exact pq_i (dI_t g).symm) | (have g : _ = 0 := c_106; exact pq_i (dI_f (fun z => z g)).symm)
      · exact absurd (Nat.le_refl _) c_17
    | succ m ih =>
      intro k hk
      have hkn : k < w * h := by omega
      have hk16 : k < 16 := by omega
      have bA := mset_bit' A hk16
      have bB := mset_bit' B hk16
      have hsk := hB.1 k hk16
      have h0 := ih (k + 1) (by omega)
      clear ih
      refine wp_iload (pc := 8) dX5_canComeAt_8 rfl ?_
      refine wp_aload_n (pc := 10) (i := 0) dX5_canComeAt_10 rfl rfl (by first | with_reducible assumption | rfl) ?_
      refine wp_getR (pc := 11) dX5_canComeAt_11 lf_X5_19 (by first | with_reducible assumption | rfl) (by first | with_reducible assumption | rfl) rfl (by first | with_reducible assumption | rfl) (by first | with_reducible assumption | rfl) ?_
      refine wp_getI (pc := 14) dX5_canComeAt_14 lf_X5_86 (by first | with_reducible assumption | rfl) (by first | with_reducible assumption | rfl) rfl ?_
      rw [eF]
      first | (refine wp_icmp_geN (pc := 17) (tgt := 102) dX5_canComeAt_17 (by decide) (by first | with_reducible assumption | omega) (by first | with_reducible assumption | omega) (fun c_17 => ?_) (fun c_17 => ?_)) | (refine wp_icmp_ge (pc := 17) (tgt := 102) dX5_canComeAt_17 (by decide) (fun c_17 => ?_) (fun c_17 => ?_))
      · exact absurd c_17 (by omega)
      · refine wp_iload_n (pc := 20) (i := 1) dX5_canComeAt_20 rfl rfl ?_
        refine wp_iload (pc := 21) dX5_canComeAt_21 rfl ?_
        refine wp_cSP2 (pc := 23) dX5_canComeAt_23 lm_X5_118 m_X5_has (Nat.le_of_ble_eq_true rfl) (sp_X5_has (by first | with_reducible assumption | omega) (by first | with_reducible assumption | omega)) ?_
        rw [bA]
        refine wp_if_eqB (pc := 26) (tgt := 57) dX5_canComeAt_26 (by decide) (fun c_26 => ?_) (fun c_26 => ?_)
        · refine wp_iload_n (pc := 57) (i := 2) dX5_canComeAt_57 rfl rfl ?_
          refine wp_iload (pc := 58) dX5_canComeAt_58 rfl ?_
          refine wp_cSP2 (pc := 60) dX5_canComeAt_60 lm_X5_118 m_X5_has (Nat.le_of_ble_eq_true rfl) (sp_X5_has (by first | with_reducible assumption | omega) (by first | with_reducible assumption | omega)) ?_
          rw [bB]
          refine wp_if_eqB (pc := 63) (tgt := 96) dX5_canComeAt_63 (by decide) (fun c_63 => ?_) (fun c_63 => ?_)
          · first | (refine wp_iincN (pc := 96) (m := 1) dX5_canComeAt_96 rfl rfl (by decide) ?_) | (refine wp_iinc (pc := 96) dX5_canComeAt_96 rfl rfl (by decide) ?_)
            refine wp_goto (pc := 99) (tgt := 8) dX5_canComeAt_99 (by decide) ?_
            first
              | (have g1 : A k = true := c_26; have g2 : B k = true := c_63; rw [an_t g1, an_t g2] at h0; exact h0)
              | (have g1 : A k = true := c_26; have g2 : B k = false := c_63; rw [an_t g1, an_f g2] at h0; exact h0)
              | (have g1 : A k = false := c_26; have g2 : B k = true := c_63; rw [an_f g1, an_t g2] at h0; exact h0)
              | (have g1 : A k = false := c_26; have g2 : B k = false := c_63; rw [an_f g1, an_f g2] at h0; exact h0)
          · refine wp_iload (pc := 66) dX5_canComeAt_66 rfl ?_
            refine wp_aload_n (pc := 68) (i := 0) dX5_canComeAt_68 rfl rfl (by first | with_reducible assumption | rfl) ?_
            refine wp_getR (pc := 69) dX5_canComeAt_69 lf_X5_19 (by first | with_reducible assumption | rfl) (by first | with_reducible assumption | rfl) rfl (by first | with_reducible assumption | rfl) (by first | with_reducible assumption | rfl) ?_
            refine wp_aload_n (pc := 72) (i := 0) dX5_canComeAt_72 rfl rfl (by first | with_reducible assumption | rfl) ?_
            refine wp_getR (pc := 73) dX5_canComeAt_73 lf_X5_32 (by first | with_reducible assumption | rfl) (by first | with_reducible assumption | rfl) rfl (by first | with_reducible assumption | rfl) (by first | with_reducible assumption | rfl) ?_
            refine wp_iload (pc := 76) dX5_canComeAt_76 rfl ?_
            refine wp_cVP1 (pc := 78) (ci := 2) dX5_canComeAt_78 lm_X5_109 m_X2_sign (by first | with_reducible assumption | rfl) (by first | with_reducible assumption | rfl) (by decide) rfl (Nat.le_of_ble_eq_true rfl) (sp_X2_sign p12 hb hB.1 hk16) ?_
            refine wp_iload (pc := 81) dX5_canComeAt_81 rfl ?_
            refine wp_aload_n (pc := 83) (i := 0) dX5_canComeAt_83 rfl rfl (by first | with_reducible assumption | rfl) ?_
            refine wp_getR (pc := 84) dX5_canComeAt_84 lf_X5_32 (by first | with_reducible assumption | rfl) (by first | with_reducible assumption | rfl) rfl (by first | with_reducible assumption | rfl) (by first | with_reducible assumption | rfl) ?_
            refine wp_getI (pc := 87) dX5_canComeAt_87 lf_X5_115 (by first | with_reducible assumption | rfl) (by first | with_reducible assumption | rfl) rfl ?_
            rw [e7]
            refine wp_cVP3 (pc := 90) (ci := 0) dX5_canComeAt_90 lm_X5_186 m_X0_coming (by first | with_reducible assumption | rfl) (by first | with_reducible assumption | rfl) (by decide) rfl (Nat.le_of_ble_eq_true rfl) (sp_X0_coming hF hsk hkn) ?_
            first | (refine wp_iorN (pc := 93) dX5_canComeAt_93 ?_) | (refine wp_ior (pc := 93) dX5_canComeAt_93 ?_)
            rw [mset_or]
            refine wp_istore (pc := 94) dX5_canComeAt_94 (by decide) ?_
            first | (refine wp_iincN (pc := 96) (m := 1) dX5_canComeAt_96 rfl rfl (by decide) ?_) | (refine wp_iinc (pc := 96) dX5_canComeAt_96 rfl rfl (by decide) ?_)
            refine wp_goto (pc := 99) (tgt := 8) dX5_canComeAt_99 (by decide) ?_
            first
              | (have g1 : A k = true := c_26; have g2 : B k = true := c_63; rw [an_t g1, an_t g2] at h0; exact h0)
              | (have g1 : A k = true := c_26; have g2 : B k = false := c_63; rw [an_t g1, an_f g2] at h0; exact h0)
              | (have g1 : A k = false := c_26; have g2 : B k = true := c_63; rw [an_f g1, an_t g2] at h0; exact h0)
              | (have g1 : A k = false := c_26; have g2 : B k = false := c_63; rw [an_f g1, an_f g2] at h0; exact h0)
        · refine wp_iload_n (pc := 29) (i := 3) dX5_canComeAt_29 rfl rfl ?_
          refine wp_aload_n (pc := 30) (i := 0) dX5_canComeAt_30 rfl rfl (by first | with_reducible assumption | rfl) ?_
          refine wp_getR (pc := 31) dX5_canComeAt_31 lf_X5_19 (by first | with_reducible assumption | rfl) (by first | with_reducible assumption | rfl) rfl (by first | with_reducible assumption | rfl) (by first | with_reducible assumption | rfl) ?_
          refine wp_aload_n (pc := 34) (i := 0) dX5_canComeAt_34 rfl rfl (by first | with_reducible assumption | rfl) ?_
          refine wp_getR (pc := 35) dX5_canComeAt_35 lf_X5_32 (by first | with_reducible assumption | rfl) (by first | with_reducible assumption | rfl) rfl (by first | with_reducible assumption | rfl) (by first | with_reducible assumption | rfl) ?_
          refine wp_iload (pc := 38) dX5_canComeAt_38 rfl ?_
          refine wp_cVP1 (pc := 40) (ci := 2) dX5_canComeAt_40 lm_X5_109 m_X2_sign (by first | with_reducible assumption | rfl) (by first | with_reducible assumption | rfl) (by decide) rfl (Nat.le_of_ble_eq_true rfl) (sp_X2_sign p12 hb hB.1 hk16) ?_
          refine wp_iload (pc := 43) dX5_canComeAt_43 rfl ?_
          refine wp_aload_n (pc := 45) (i := 0) dX5_canComeAt_45 rfl rfl (by first | with_reducible assumption | rfl) ?_
          refine wp_getR (pc := 46) dX5_canComeAt_46 lf_X5_32 (by first | with_reducible assumption | rfl) (by first | with_reducible assumption | rfl) rfl (by first | with_reducible assumption | rfl) (by first | with_reducible assumption | rfl) ?_
          refine wp_getI (pc := 49) dX5_canComeAt_49 lf_X5_115 (by first | with_reducible assumption | rfl) (by first | with_reducible assumption | rfl) rfl ?_
          rw [e7]
          refine wp_cVP3 (pc := 52) (ci := 0) dX5_canComeAt_52 lm_X5_245 m_X0_threatened (by first | with_reducible assumption | rfl) (by first | with_reducible assumption | rfl) (by decide) rfl (Nat.le_of_ble_eq_true rfl) (sp_X0_threatened hF hsk hkn) ?_
          first | (refine wp_iorN (pc := 55) dX5_canComeAt_55 ?_) | (refine wp_ior (pc := 55) dX5_canComeAt_55 ?_)
          rw [mset_or]
          refine wp_istore_n (pc := 56) (i := 3) dX5_canComeAt_56 rfl (by decide) ?_
          refine wp_iload_n (pc := 57) (i := 2) dX5_canComeAt_57 rfl rfl ?_
          refine wp_iload (pc := 58) dX5_canComeAt_58 rfl ?_
          refine wp_cSP2 (pc := 60) dX5_canComeAt_60 lm_X5_118 m_X5_has (Nat.le_of_ble_eq_true rfl) (sp_X5_has (by first | with_reducible assumption | omega) (by first | with_reducible assumption | omega)) ?_
          rw [bB]
          refine wp_if_eqB (pc := 63) (tgt := 96) dX5_canComeAt_63 (by decide) (fun c_63 => ?_) (fun c_63 => ?_)
          · first | (refine wp_iincN (pc := 96) (m := 1) dX5_canComeAt_96 rfl rfl (by decide) ?_) | (refine wp_iinc (pc := 96) dX5_canComeAt_96 rfl rfl (by decide) ?_)
            refine wp_goto (pc := 99) (tgt := 8) dX5_canComeAt_99 (by decide) ?_
            first
              | (have g1 : A k = true := c_26; have g2 : B k = true := c_63; rw [an_t g1, an_t g2] at h0; exact h0)
              | (have g1 : A k = true := c_26; have g2 : B k = false := c_63; rw [an_t g1, an_f g2] at h0; exact h0)
              | (have g1 : A k = false := c_26; have g2 : B k = true := c_63; rw [an_f g1, an_t g2] at h0; exact h0)
              | (have g1 : A k = false := c_26; have g2 : B k = false := c_63; rw [an_f g1, an_f g2] at h0; exact h0)
          · refine wp_iload (pc := 66) dX5_canComeAt_66 rfl ?_
            refine wp_aload_n (pc := 68) (i := 0) dX5_canComeAt_68 rfl rfl (by first | with_reducible assumption | rfl) ?_
            refine wp_getR (pc := 69) dX5_canComeAt_69 lf_X5_19 (by first | with_reducible assumption | rfl) (by first | with_reducible assumption | rfl) rfl (by first | with_reducible assumption | rfl) (by first | with_reducible assumption | rfl) ?_
            refine wp_aload_n (pc := 72) (i := 0) dX5_canComeAt_72 rfl rfl (by first | with_reducible assumption | rfl) ?_
            refine wp_getR (pc := 73) dX5_canComeAt_73 lf_X5_32 (by first | with_reducible assumption | rfl) (by first | with_reducible assumption | rfl) rfl (by first | with_reducible assumption | rfl) (by first | with_reducible assumption | rfl) ?_
            refine wp_iload (pc := 76) dX5_canComeAt_76 rfl ?_
            refine wp_cVP1 (pc := 78) (ci := 2) dX5_canComeAt_78 lm_X5_109 m_X2_sign (by first | with_reducible assumption | rfl) (by first | with_reducible assumption | rfl) (by decide) rfl (Nat.le_of_ble_eq_true rfl) (sp_X2_sign p12 hb hB.1 hk16) ?_
            refine wp_iload (pc := 81) dX5_canComeAt_81 rfl ?_
            refine wp_aload_n (pc := 83) (i := 0) dX5_canComeAt_83 rfl rfl (by first | with_reducible assumption | rfl) ?_
            refine wp_getR (pc := 84) dX5_canComeAt_84 lf_X5_32 (by first | with_reducible assumption | rfl) (by first | with_reducible assumption | rfl) rfl (by first | with_reducible assumption | rfl) (by first | with_reducible assumption | rfl) ?_
            refine wp_getI (pc := 87) dX5_canComeAt_87 lf_X5_115 (by first | with_reducible assumption | rfl) (by first | with_reducible assumption | rfl) rfl ?_
            rw [e7]
            refine wp_cVP3 (pc := 90) (ci := 0) dX5_canComeAt_90 lm_X5_186 m_X0_coming (by first | with_reducible assumption | rfl) (by first | with_reducible assumption | rfl) (by decide) rfl (Nat.le_of_ble_eq_true rfl) (sp_X0_coming hF hsk hkn) ?_
            first | (refine wp_iorN (pc := 93) dX5_canComeAt_93 ?_) | (refine wp_ior (pc := 93) dX5_canComeAt_93 ?_)
            rw [mset_or]
            refine wp_istore (pc := 94) dX5_canComeAt_94 (by decide) ?_
            first | (refine wp_iincN (pc := 96) (m := 1) dX5_canComeAt_96 rfl rfl (by decide) ?_) | (refine wp_iinc (pc := 96) dX5_canComeAt_96 rfl rfl (by decide) ?_)
            refine wp_goto (pc := 99) (tgt := 8) dX5_canComeAt_99 (by decide) ?_
            first
              | (have g1 : A k = true := c_26; have g2 : B k = true := c_63; rw [an_t g1, an_t g2] at h0; exact h0)
              | (have g1 : A k = true := c_26; have g2 : B k = false := c_63; rw [an_t g1, an_f g2] at h0; exact h0)
              | (have g1 : A k = false := c_26; have g2 : B k = true := c_63; rw [an_f g1, an_t g2] at h0; exact h0)
              | (have g1 : A k = false := c_26; have g2 : B k = false := c_63; rw [an_f g1, an_f g2] at h0; exact h0)
  refine call_of_wp (by decide) (Nat.le_of_ble_eq_true rfl) ?_
  refine wp_iconst (pc := 0) (v := nI 0) dX5_canComeAt_0 (by decide +kernel) ?_
  refine wp_istore_n (pc := 1) (i := 3) dX5_canComeAt_1 rfl (by decide) ?_
  refine wp_iconst (pc := 2) (v := nI 0) dX5_canComeAt_2 (by decide +kernel) ?_
  refine wp_istore (pc := 3) dX5_canComeAt_3 (by decide) ?_
  refine wp_iconst (pc := 5) (v := nI 0) dX5_canComeAt_5 (by decide +kernel) ?_
  refine wp_istore (pc := 6) dX5_canComeAt_6 (by decide) ?_
  have h0 := loop (w * h) 0 rfl
  rw [an_0, an_0] at h0
  exact h0
theorem flt_take {l : List Nat} {P : Nat → Bool} {j : Nat} (hj : j < l.length) : (l.take (j + 1)).filter P = (l.take j).filter P ++ (if P (l.getD j 0) = true then [l.getD j 0] else []) := by
  rw [List.take_succ, List.filter_append, List.getD_eq_getElem?_getD, List.getElem?_eq_getElem hj]
  cases h : P l[j] <;> simp [h]
theorem flt_tl {l : List Nat} {P : Nat → Bool} {j : Nat} : ((l.take j).filter P).length ≤ j := Nat.le_trans (List.length_filter_le _ _) (List.length_take_le _ _)
set_option maxHeartbeats 16000000 in
theorem sp_X5_listKeys {w h last n : Nat} {b : Bd} (hF : Fld w h last I) (hb : PL 12 b I J) (hB : Bok (w * h) b) (hl9 : last < 10) (hn1 : 1 ≤ n) (hn4 : n ≤ 4) : CALL ΩC (d + 7) kX5_listKeys [.ref 0, .int (nI n)] I J (IQ (fun x I' J' => x = nI (keyL w h last b (n - 1)).length ∧ FR scrC I I' J J' ∧ I' 12 2 = nI (PLY w h b).length ∧ ∀ j, j < (keyL w h last b (n - 1)).length → I' 17 j = encC ((keyL w h last b (n - 1)).getD j 0))) := by
  have p12 : isP 12 := ⟨by decide, by decide⟩
  have p9 : isP 9 := ⟨by decide, by decide⟩
  have hlen := PLY_len (w := w) (h := h) hB.2.2.2.1
  have ho2 := hB.2.2.2.1
  have nF : ∀ a i, 3 ≤ a → a ≤ 8 → ¬ scrC a i := fun a i z1 z2 => by unfold scrC; omega
  have nP : ∀ i, 3 ≤ i → i ≤ 10 → ¬ scrC 12 i := fun i z1 z2 => by unfold scrC; omega
  have loop : ∀ m j (I2 : MemI) (J2 : MemJ), m + j = (PLY w h b).length → FR scrC I I2 J J2 → I2 12 2 = nI (PLY w h b).length → (∀ z, j ≤ z → z < (PLY w h b).length → I2 17 z = encC ((PLY w h b).getD z 0)) → (∀ z, z < (((PLY w h b).take j).filter (fun x => frc w h last b.2.2.1 (n - 1) (mkB last b x))).length → I2 17 z = encC ((((PLY w h b).take j).filter (fun x => frc w h last b.2.2.1 (n - 1) (mkB last b x))).getD z 0)) → WP ΩC (d + 7) kX5_listKeys 17 [(0, .ref 0), (1, .int (nI n)), (2, .int (nI (PLY w h b).length)), (3, .int (nI (((PLY w h b).take j).filter (fun x => frc w h last b.2.2.1 (n - 1) (mkB last b x))).length)), (4, .int (nI j))] [] I2 J2 (IQ (fun x I' J' => x = nI (keyL w h last b (n - 1)).length ∧ FR scrC I I' J J' ∧ I' 12 2 = nI (PLY w h b).length ∧ ∀ j, j < (keyL w h last b (n - 1)).length → I' 17 j = encC ((keyL w h last b (n - 1)).getD j 0))) := by
    intro m
    induction m with
    | zero =>
      intro j I2 J2 hj hfr h2 h5 hk
      have hj' : j = (PLY w h b).length := (Nat.zero_add j).symm.trans hj
      rw [hj', List.take_length] at hk
      rw [hj', List.take_length]
      refine wp_iload (pc := 17) dX5_listKeys_17 rfl ?_
      refine wp_iload_n (pc := 19) (i := 2) dX5_listKeys_19 rfl rfl ?_
      first | (refine wp_icmp_geN (pc := 20) (tgt := 97) dX5_listKeys_20 (by decide) (by first | with_reducible assumption | omega) (by first | with_reducible assumption | omega) (fun c_20 => ?_) (fun c_20 => ?_)) | (refine wp_icmp_ge (pc := 20) (tgt := 97) dX5_listKeys_20 (by decide) (fun c_20 => ?_) (fun c_20 => ?_))
      · refine wp_iload_n (pc := 97) (i := 3) dX5_listKeys_97 rfl rfl ?_
        refine wp_ireturn (pc := 98) dX5_listKeys_98 rfl ?_
        exact iq_i ⟨rfl, hfr, h2, hk⟩
      · exact absurd (Nat.le_refl _) c_20
    | succ m ih =>
      intro j I2 J2 hj hfr h2 h5 hk
      have hjl : j < (PLY w h b).length := by omega
      have hF2 := Fld_fr hF hfr nF
      have hb2 := PL_fr hb hfr nP
      have hlast : I2 3 7 = nI last := hF2.2.2.2.1
      obtain ⟨m1, m2, m3⟩ := PLY_mem hB.1 (PLY_get hjl)
      have hx5 := h5 j (Nat.le_refl j) hjl
      have hft := flt_take (P := fun x => frc w h last b.2.2.1 (n - 1) (mkB last b x)) hjl
      have hle := flt_tl (l := PLY w h b) (P := fun x => frc w h last b.2.2.1 (n - 1) (mkB last b x)) (j := j)
      have h0 := fun I4 J4 => ih (j + 1) I4 J4 (by omega)
      rw [hft] at h0
      clear ih hft
      generalize hK : ((PLY w h b).take j).filter (fun x => frc w h last b.2.2.1 (n - 1) (mkB last b x)) = K at h0 hk hle ⊢
      generalize hx : (PLY w h b).getD j 0 = x at m2 m3 hx5 h0
      have hBk := Bok_mk hB m2 m3 hl9
      have hw1 : FR scrC I2 (wI 9 (mkB last b x) I2) J2 (wJ 9 (mkB last b x) J2) := FR.w (fun i => Or.inl (by decide))
      have hF3 := Fld_fr hF2 hw1 nF
      have hb3 := PL_fr hb2 hw1 nP
      have e9 : wI 9 (mkB last b x) I2 12 9 = nI b.2.2.1 := hb3.1 9 (by omega) (by omega)
      have hstep := isF_9 (d := d) hl9 (wI 9 (mkB last b x) I2) (wJ 9 (mkB last b x) J2) (mkB last b x) b.2.2.1 (n - 1) hF3 PL_w hBk ho2 (by omega)
      have hply := sp_X2_plyR (d := d + 5) (I := I2) (J := J2) p12 h2 hlen hjl
      rw [hx5] at hply
      have hfol := sp_X2_follow (d := d + 2) (p := 9) (q := 12) p9 p12 (by decide) hb2 hB.1 hB.2.1 hB.2.2.1 hB.2.2.2.1 m2 hl9
      have sub9 : ∀ a i, frA a i → scrC a i := fun a i z => by unfold frA at z; unfold scrC; omega
      have q12 : ∀ i, ¬ frA 12 i := fun i z => by unfold frA at z; omega
      have q17 : ∀ i, ¬ frA 17 i := fun i z => by unfold frA at z; omega
      rcases (show frc w h last b.2.2.1 (n - 1) (mkB last b x) = true ∨ frc w h last b.2.2.1 (n - 1) (mkB last b x) = false by cases frc w h last b.2.2.1 (n - 1) (mkB last b x) <;> simp) with hv | hv
      · rw [if_pos hv] at h0
        refine wp_iload (pc := 17) dX5_listKeys_17 rfl ?_
        refine wp_iload_n (pc := 19) (i := 2) dX5_listKeys_19 rfl rfl ?_
        first | (refine wp_icmp_geN (pc := 20) (tgt := 97) dX5_listKeys_20 (by decide) (by first | with_reducible assumption | omega) (by first | with_reducible assumption | omega) (fun c_20 => ?_) (fun c_20 => ?_)) | (refine wp_icmp_ge (pc := 20) (tgt := 97) dX5_listKeys_20 (by decide) (fun c_20 => ?_) (fun c_20 => ?_))
        · exact absurd c_20 (by omega)
        · refine wp_aload_n (pc := 23) (i := 0) dX5_listKeys_23 rfl rfl (by first | with_reducible assumption | rfl) ?_
          refine wp_getR (pc := 24) dX5_listKeys_24 lf_X5_32 (by first | with_reducible assumption | rfl) (by first | with_reducible assumption | rfl) rfl (by first | with_reducible assumption | rfl) (by first | with_reducible assumption | rfl) ?_
          refine wp_iload (pc := 27) dX5_listKeys_27 rfl ?_
          refine wp_cVP1 (pc := 29) (ci := 2) dX5_listKeys_29 lm_X5_151 m_X2_ply (by first | with_reducible assumption | rfl) (by first | with_reducible assumption | rfl) (by decide) rfl (Nat.le_of_ble_eq_true rfl) hply ?_
          refine wp_istore (pc := 32) dX5_listKeys_32 (by decide) ?_
          refine wp_aload_n (pc := 34) (i := 0) dX5_listKeys_34 rfl rfl (by first | with_reducible assumption | rfl) ?_
          refine wp_getR (pc := 35) dX5_listKeys_35 lf_X5_28 (by first | with_reducible assumption | rfl) (by first | with_reducible assumption | rfl) rfl (by first | with_reducible assumption | rfl) (by first | with_reducible assumption | rfl) ?_
          refine wp_aload_n (pc := 38) (i := 0) dX5_listKeys_38 rfl rfl (by first | with_reducible assumption | rfl) ?_
          refine wp_getR (pc := 39) dX5_listKeys_39 lf_X5_32 (by first | with_reducible assumption | rfl) (by first | with_reducible assumption | rfl) rfl (by first | with_reducible assumption | rfl) (by first | with_reducible assumption | rfl) ?_
          refine wp_iload (pc := 42) dX5_listKeys_42 rfl ?_
          refine wp_aload_n (pc := 44) (i := 0) dX5_listKeys_44 rfl rfl (by first | with_reducible assumption | rfl) ?_
          refine wp_getR (pc := 45) dX5_listKeys_45 lf_X5_19 (by first | with_reducible assumption | rfl) (by first | with_reducible assumption | rfl) rfl (by first | with_reducible assumption | rfl) (by first | with_reducible assumption | rfl) ?_
          refine wp_getI (pc := 48) dX5_listKeys_48 lf_X5_146 (by first | with_reducible assumption | rfl) (by first | with_reducible assumption | rfl) rfl ?_
          rw [hlast]
          refine wp_cVV3 (pc := 51) (ci := 2) dX5_listKeys_51 lm_X5_232 m_X2_follow (by first | with_reducible assumption | rfl) (by first | with_reducible assumption | rfl) (by decide) rfl (Nat.le_of_ble_eq_true rfl) hfol (fun I_51 J_51 h_51 => ?_)
          obtain ⟨rfl, rfl⟩ := h_51
          refine wp_aload_n (pc := 54) (i := 0) dX5_listKeys_54 rfl rfl (by first | with_reducible assumption | rfl) ?_
          refine wp_getR (pc := 55) dX5_listKeys_55 lf_X5_19 (by first | with_reducible assumption | rfl) (by first | with_reducible assumption | rfl) rfl (by first | with_reducible assumption | rfl) (by first | with_reducible assumption | rfl) ?_
          refine wp_aload_n (pc := 58) (i := 0) dX5_listKeys_58 rfl rfl (by first | with_reducible assumption | rfl) ?_
          refine wp_getR (pc := 59) dX5_listKeys_59 lf_X5_28 (by first | with_reducible assumption | rfl) (by first | with_reducible assumption | rfl) rfl (by first | with_reducible assumption | rfl) (by first | with_reducible assumption | rfl) ?_
          refine wp_aload_n (pc := 62) (i := 0) dX5_listKeys_62 rfl rfl (by first | with_reducible assumption | rfl) ?_
          refine wp_getR (pc := 63) dX5_listKeys_63 lf_X5_32 (by first | with_reducible assumption | rfl) (by first | with_reducible assumption | rfl) rfl (by first | with_reducible assumption | rfl) (by first | with_reducible assumption | rfl) ?_
          refine wp_getI (pc := 66) dX5_listKeys_66 lf_X5_100 (by first | with_reducible assumption | rfl) (by first | with_reducible assumption | rfl) rfl ?_
          rw [e9]
          refine wp_iload_n (pc := 69) (i := 1) dX5_listKeys_69 rfl rfl ?_
          refine wp_iconst (pc := 70) (v := nI 1) dX5_listKeys_70 (by decide +kernel) ?_
          first | (refine wp_isubN (pc := 71) dX5_listKeys_71 (by first | with_reducible assumption | omega) ?_) | (refine wp_isub (pc := 71) dX5_listKeys_71 ?_)
          refine wp_cSI4 (pc := 72) dX5_listKeys_72 lm_X5_166 m_X5_isForced (Nat.le_of_ble_eq_true rfl) hstep (fun x_72 I_72 J_72 h_72 => ?_)
          obtain ⟨rfl, hfr2⟩ := h_72
          rw [hv]
          refine wp_if_eqB (pc := 75) (tgt := 91) dX5_listKeys_75 (by decide) (fun c_75 => ?_) (fun c_75 => ?_)
          · exact Bool.noConfusion c_75
          · refine wp_aload_n (pc := 78) (i := 0) dX5_listKeys_78 rfl rfl (by first | with_reducible assumption | rfl) ?_
            refine wp_getR (pc := 79) dX5_listKeys_79 lf_X5_32 (by first | with_reducible assumption | rfl) (by first | with_reducible assumption | rfl) rfl (by first | with_reducible assumption | rfl) (by first | with_reducible assumption | rfl) ?_
            refine wp_iload_n (pc := 82) (i := 3) dX5_listKeys_82 rfl rfl ?_
            refine wp_iload (pc := 83) dX5_listKeys_83 rfl ?_
            refine wp_cVV2 (pc := 85) (ci := 2) dX5_listKeys_85 lm_X5_236 m_X2_setPly (by first | with_reducible assumption | rfl) (by first | with_reducible assumption | rfl) (by decide) rfl (Nat.le_of_ble_eq_true rfl) (sp_X2_setPly (d := d + 5) p12 (by omega)) (fun I_85 J_85 h_85 => ?_)
            obtain ⟨rfl, rfl⟩ := h_85
            first | (refine wp_iincN (pc := 88) (m := 1) dX5_listKeys_88 rfl rfl (by decide) ?_) | (refine wp_iinc (pc := 88) dX5_listKeys_88 rfl rfl (by decide) ?_)
            first | (refine wp_iincN (pc := 91) (m := 1) dX5_listKeys_91 rfl rfl (by decide) ?_) | (refine wp_iinc (pc := 91) dX5_listKeys_91 rfl rfl (by decide) ?_)
            refine wp_goto (pc := 94) (tgt := 17) dX5_listKeys_94 (by decide) ?_
            refine wp_drop 5 ?_
            have hs : FR scrC I_72 (uI I_72 (12 + 5) K.length (encC x)) J_85 J_85 := ⟨fun a i z => by
              have : ¬ a = 17 := fun y => z (by rw [y]; unfold scrC; omega)
              simp [uI, this], fun _ _ _ => rfl⟩
            have h9 := h0 _ _ (((hfr.trans hw1).trans (hfr2.mono sub9)).trans hs) (by
              show I_72 12 2 = _
              rw [hfr2.1 12 2 (q12 2), wI_n (by decide)]; exact h2) (fun z z1 z2 => by
              have : ¬ z = K.length := by omega
              show (if 17 = 17 ∧ z = K.length then encC x else I_72 17 z) = _
              rw [if_neg (fun y => this y.2), hfr2.1 17 z (q17 z), wI_n (by decide)]
              exact h5 z (by omega) z2) (fun z z1 => by
              show (if 17 = 17 ∧ z = K.length then encC x else I_72 17 z) = _
              rw [List.length_append, List.length_singleton] at z1
              by_cases hz : z = K.length
              · rw [if_pos ⟨rfl, hz⟩, hz, List.getD_eq_getElem?_getD, List.getElem?_append_right (Nat.le_refl _), Nat.sub_self]; rfl
              · rw [if_neg (fun y => hz y.2), hfr2.1 17 z (q17 z), wI_n (by decide), hk z (by omega), List.getD_eq_getElem?_getD, List.getD_eq_getElem?_getD, List.getElem?_append_left (by omega)])
            rw [List.length_append, List.length_singleton] at h9
            exact h9
      · rw [if_neg (by rw [hv]; exact Bool.false_ne_true), List.append_nil] at h0
        refine wp_iload (pc := 17) dX5_listKeys_17 rfl ?_
        refine wp_iload_n (pc := 19) (i := 2) dX5_listKeys_19 rfl rfl ?_
        first | (refine wp_icmp_geN (pc := 20) (tgt := 97) dX5_listKeys_20 (by decide) (by first | with_reducible assumption | omega) (by first | with_reducible assumption | omega) (fun c_20 => ?_) (fun c_20 => ?_)) | (refine wp_icmp_ge (pc := 20) (tgt := 97) dX5_listKeys_20 (by decide) (fun c_20 => ?_) (fun c_20 => ?_))
        · exact absurd c_20 (by omega)
        · refine wp_aload_n (pc := 23) (i := 0) dX5_listKeys_23 rfl rfl (by first | with_reducible assumption | rfl) ?_
          refine wp_getR (pc := 24) dX5_listKeys_24 lf_X5_32 (by first | with_reducible assumption | rfl) (by first | with_reducible assumption | rfl) rfl (by first | with_reducible assumption | rfl) (by first | with_reducible assumption | rfl) ?_
          refine wp_iload (pc := 27) dX5_listKeys_27 rfl ?_
          refine wp_cVP1 (pc := 29) (ci := 2) dX5_listKeys_29 lm_X5_151 m_X2_ply (by first | with_reducible assumption | rfl) (by first | with_reducible assumption | rfl) (by decide) rfl (Nat.le_of_ble_eq_true rfl) hply ?_
          refine wp_istore (pc := 32) dX5_listKeys_32 (by decide) ?_
          refine wp_aload_n (pc := 34) (i := 0) dX5_listKeys_34 rfl rfl (by first | with_reducible assumption | rfl) ?_
          refine wp_getR (pc := 35) dX5_listKeys_35 lf_X5_28 (by first | with_reducible assumption | rfl) (by first | with_reducible assumption | rfl) rfl (by first | with_reducible assumption | rfl) (by first | with_reducible assumption | rfl) ?_
          refine wp_aload_n (pc := 38) (i := 0) dX5_listKeys_38 rfl rfl (by first | with_reducible assumption | rfl) ?_
          refine wp_getR (pc := 39) dX5_listKeys_39 lf_X5_32 (by first | with_reducible assumption | rfl) (by first | with_reducible assumption | rfl) rfl (by first | with_reducible assumption | rfl) (by first | with_reducible assumption | rfl) ?_
          refine wp_iload (pc := 42) dX5_listKeys_42 rfl ?_
          refine wp_aload_n (pc := 44) (i := 0) dX5_listKeys_44 rfl rfl (by first | with_reducible assumption | rfl) ?_
          refine wp_getR (pc := 45) dX5_listKeys_45 lf_X5_19 (by first | with_reducible assumption | rfl) (by first | with_reducible assumption | rfl) rfl (by first | with_reducible assumption | rfl) (by first | with_reducible assumption | rfl) ?_
          refine wp_getI (pc := 48) dX5_listKeys_48 lf_X5_146 (by first | with_reducible assumption | rfl) (by first | with_reducible assumption | rfl) rfl ?_
          rw [hlast]
          refine wp_cVV3 (pc := 51) (ci := 2) dX5_listKeys_51 lm_X5_232 m_X2_follow (by first | with_reducible assumption | rfl) (by first | with_reducible assumption | rfl) (by decide) rfl (Nat.le_of_ble_eq_true rfl) hfol (fun I_51 J_51 h_51 => ?_)
          obtain ⟨rfl, rfl⟩ := h_51
          refine wp_aload_n (pc := 54) (i := 0) dX5_listKeys_54 rfl rfl (by first | with_reducible assumption | rfl) ?_
          refine wp_getR (pc := 55) dX5_listKeys_55 lf_X5_19 (by first | with_reducible assumption | rfl) (by first | with_reducible assumption | rfl) rfl (by first | with_reducible assumption | rfl) (by first | with_reducible assumption | rfl) ?_
          refine wp_aload_n (pc := 58) (i := 0) dX5_listKeys_58 rfl rfl (by first | with_reducible assumption | rfl) ?_
          refine wp_getR (pc := 59) dX5_listKeys_59 lf_X5_28 (by first | with_reducible assumption | rfl) (by first | with_reducible assumption | rfl) rfl (by first | with_reducible assumption | rfl) (by first | with_reducible assumption | rfl) ?_
          refine wp_aload_n (pc := 62) (i := 0) dX5_listKeys_62 rfl rfl (by first | with_reducible assumption | rfl) ?_
          refine wp_getR (pc := 63) dX5_listKeys_63 lf_X5_32 (by first | with_reducible assumption | rfl) (by first | with_reducible assumption | rfl) rfl (by first | with_reducible assumption | rfl) (by first | with_reducible assumption | rfl) ?_
          refine wp_getI (pc := 66) dX5_listKeys_66 lf_X5_100 (by first | with_reducible assumption | rfl) (by first | with_reducible assumption | rfl) rfl ?_
          rw [e9]
          refine wp_iload_n (pc := 69) (i := 1) dX5_listKeys_69 rfl rfl ?_
          refine wp_iconst (pc := 70) (v := nI 1) dX5_listKeys_70 (by decide +kernel) ?_
          first | (refine wp_isubN (pc := 71) dX5_listKeys_71 (by first | with_reducible assumption | omega) ?_) | (refine wp_isub (pc := 71) dX5_listKeys_71 ?_)
          refine wp_cSI4 (pc := 72) dX5_listKeys_72 lm_X5_166 m_X5_isForced (Nat.le_of_ble_eq_true rfl) hstep (fun x_72 I_72 J_72 h_72 => ?_)
          obtain ⟨rfl, hfr2⟩ := h_72
          rw [hv]
          refine wp_if_eqB (pc := 75) (tgt := 91) dX5_listKeys_75 (by decide) (fun c_75 => ?_) (fun c_75 => ?_)
          · first | (refine wp_iincN (pc := 91) (m := 1) dX5_listKeys_91 rfl rfl (by decide) ?_) | (refine wp_iinc (pc := 91) dX5_listKeys_91 rfl rfl (by decide) ?_)
            refine wp_goto (pc := 94) (tgt := 17) dX5_listKeys_94 (by decide) ?_
            refine wp_drop 5 ?_
            refine h0 _ _ ((hfr.trans hw1).trans (hfr2.mono sub9)) ?_ (fun z z1 z2 => ?_) (fun z z1 => ?_)
            · rw [hfr2.1 12 2 (q12 2), wI_n (by decide)]; exact h2
            · rw [hfr2.1 17 z (q17 z), wI_n (by decide)]; exact h5 z (by omega) z2
            · rw [hfr2.1 17 z (q17 z), wI_n (by decide)]; exact hk z z1
          · exact Bool.noConfusion c_75
  have hlist := sp_X2_list (d := d + 2) p12 hF hb hB.1 hB.2.2.2.2.2 hB.2.2.2.1 hB.2.2.2.2.1
  refine call_of_wp (by decide) (Nat.le_of_ble_eq_true rfl) ?_
  refine wp_aload_n (pc := 0) (i := 0) dX5_listKeys_0 rfl rfl (by first | with_reducible assumption | rfl) ?_
  refine wp_getR (pc := 1) dX5_listKeys_1 lf_X5_32 (by first | with_reducible assumption | rfl) (by first | with_reducible assumption | rfl) rfl (by first | with_reducible assumption | rfl) (by first | with_reducible assumption | rfl) ?_
  refine wp_aload_n (pc := 4) (i := 0) dX5_listKeys_4 rfl rfl (by first | with_reducible assumption | rfl) ?_
  refine wp_getR (pc := 5) dX5_listKeys_5 lf_X5_19 (by first | with_reducible assumption | rfl) (by first | with_reducible assumption | rfl) rfl (by first | with_reducible assumption | rfl) (by first | with_reducible assumption | rfl) ?_
  refine wp_cVI1 (pc := 8) (ci := 2) dX5_listKeys_8 lm_X5_136 m_X2_list (by first | with_reducible assumption | rfl) (by first | with_reducible assumption | rfl) (by decide) rfl (Nat.le_of_ble_eq_true rfl) hlist (fun x_8 I_8 J_8 h_8 => ?_)
  obtain ⟨rfl, rfl, rfl⟩ := h_8
  refine wp_istore_n (pc := 11) (i := 2) dX5_listKeys_11 rfl (by decide) ?_
  refine wp_iconst (pc := 12) (v := nI 0) dX5_listKeys_12 (by decide +kernel) ?_
  refine wp_istore_n (pc := 13) (i := 3) dX5_listKeys_13 rfl (by decide) ?_
  refine wp_iconst (pc := 14) (v := nI 0) dX5_listKeys_14 (by decide +kernel) ?_
  refine wp_istore (pc := 15) dX5_listKeys_15 (by decide) ?_
  refine loop (PLY w h b).length 0 _ _ rfl (FR.ls (Or.inr (Or.inr ⟨rfl, rfl⟩)) (fun i => Or.inr (Or.inl (by decide)))) lsM_2 (fun z _ hz => ?_) (fun z hz => absurd hz (Nat.not_lt_zero z))
  unfold lsM
  rw [if_neg (fun y => absurd y.1 (by decide)), if_pos ⟨rfl, hz⟩]
end HL2
