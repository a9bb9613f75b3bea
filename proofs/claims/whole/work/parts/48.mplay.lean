/-! THE REFERENCE'S CALLS, 5: judge, odds, play -/
section MPL
variable {d : Nat} {I : MemI} {J : MemJ} {t : List Nat} {w h last : Nat} {b : Bd} {ps : List Bd} {f : Nat → Option Bd} {z : Int64}
set_option maxHeartbeats 16000000 in
theorem sp_X6_tenTo {Ω : Shp} {m : Nat} (hm : m ≤ 8) : CALL Ω d kX6_tenTo [.int (nI m)] I J (PQ (.int (nI (10 ^ m))) I J) := by
  have loop : ∀ k j, k + j = m → WP Ω d kX6_tenTo 4 [(0, .int (nI m)), (1, .int (nI (10 ^ j))), (2, .int (nI j))] [] I J (PQ (.int (nI (10 ^ m))) I J) := by
    intro k
    induction k with
    | zero =>
      intro j hj
      have hj' : j = m := (Nat.zero_add j).symm.trans hj
      rw [hj']
      refine wp_iload_n (pc := 4) (i := 2) dX6_tenTo_4 rfl rfl ?_
      refine wp_iload_n (pc := 5) (i := 0) dX6_tenTo_5 rfl rfl ?_
      first | (refine wp_icmp_geN (pc := 6) (tgt := 20) dX6_tenTo_6 (by decide) (by first | with_reducible assumption | omega) (by first | with_reducible assumption | omega) (fun c_6 => ?_) (fun c_6 => ?_)) | (refine wp_icmp_ge (pc := 6) (tgt := 20) dX6_tenTo_6 (by decide) (fun c_6 => ?_) (fun c_6 => ?_))
      · refine wp_iload_n (pc := 20) (i := 1) dX6_tenTo_20 rfl rfl ?_
        refine wp_ireturn (pc := 21) dX6_tenTo_21 rfl ?_
        exact pq_i rfl
      · exact absurd (Nat.le_refl _) c_6
    | succ k ih =>
      intro j hj
      have hjm : j < m := by omega
      have h0 := ih (j + 1) (by omega)
      rw [Nat.pow_succ] at h0
      clear ih
      refine wp_iload_n (pc := 4) (i := 2) dX6_tenTo_4 rfl rfl ?_
      refine wp_iload_n (pc := 5) (i := 0) dX6_tenTo_5 rfl rfl ?_
      first | (refine wp_icmp_geN (pc := 6) (tgt := 20) dX6_tenTo_6 (by decide) (by first | with_reducible assumption | omega) (by first | with_reducible assumption | omega) (fun c_6 => ?_) (fun c_6 => ?_)) | (refine wp_icmp_ge (pc := 6) (tgt := 20) dX6_tenTo_6 (by decide) (fun c_6 => ?_) (fun c_6 => ?_))
      · exact absurd c_6 (by omega)
      · refine wp_iload_n (pc := 9) (i := 1) dX6_tenTo_9 rfl rfl ?_
        refine wp_bipush (pc := 10) (v := nI 10) dX6_tenTo_10 (by decide +kernel) ?_
        first | (refine wp_imulN (pc := 12) dX6_tenTo_12 ?_) | (refine wp_imul (pc := 12) dX6_tenTo_12 ?_)
        refine wp_istore_n (pc := 13) (i := 1) dX6_tenTo_13 rfl (by decide) ?_
        first | (refine wp_iincN (pc := 14) (m := 1) dX6_tenTo_14 rfl rfl (by decide) ?_) | (refine wp_iinc (pc := 14) dX6_tenTo_14 rfl rfl (by decide) ?_)
        refine wp_goto (pc := 17) (tgt := 4) dX6_tenTo_17 (by decide) ?_
        exact h0
  have h00 := loop m 0 rfl
  refine call_of_wp (by decide) (Nat.le_of_ble_eq_true rfl) ?_
  refine wp_iconst (pc := 0) (v := nI 1) dX6_tenTo_0 (by decide +kernel) ?_
  refine wp_istore_n (pc := 1) (i := 1) dX6_tenTo_1 rfl (by decide) ?_
  refine wp_iconst (pc := 2) (v := nI 0) dX6_tenTo_2 (by decide +kernel) ?_
  refine wp_istore_n (pc := 3) (i := 2) dX6_tenTo_3 rfl (by decide) ?_
  exact h00
set_option maxHeartbeats 16000000 in
theorem sp_X6_common {Ω : Shp} {a c : Nat} (ha : a ≤ 64) (hc : c ≤ 64) : CALL Ω d kX6_common [.int (nI a), .int (nI c)] I J (PQ (.int (nI (Nat.gcd a c))) I J) := by
  have loop : ∀ n x y, y ≤ n → x ≤ 64 → y ≤ 64 → Nat.gcd x y = Nat.gcd a c → WP Ω d kX6_common 4 [(0, .int (nI a)), (1, .int (nI c)), (2, .int (nI x)), (3, .int (nI y))] [] I J (PQ (.int (nI (Nat.gcd a c))) I J) := by
    intro n
    induction n with
    | zero =>
      intro x y hy hx hy2 hg
      have h0 : y = 0 := Nat.le_zero.mp hy
      subst h0
      rw [Nat.gcd_zero_right] at hg
      refine wp_iload_n (pc := 4) (i := 3) dX6_common_4 rfl rfl ?_
      refine wp_if_eqN (pc := 5) (tgt := 21) dX6_common_5 (by decide) (by first | with_reducible assumption | omega) (fun c_5 => ?_) (fun c_5 => ?_)
      · refine wp_iload_n (pc := 21) (i := 2) dX6_common_21 rfl rfl ?_
        refine wp_ireturn (pc := 22) dX6_common_22 rfl ?_
        exact pq_i (by rw [hg])
      · exact absurd rfl c_5
    | succ n ih =>
      intro x y hy hx hy2 hg
      by_cases h0 : y = 0
      · subst h0
        rw [Nat.gcd_zero_right] at hg
        refine wp_iload_n (pc := 4) (i := 3) dX6_common_4 rfl rfl ?_
        refine wp_if_eqN (pc := 5) (tgt := 21) dX6_common_5 (by decide) (by first | with_reducible assumption | omega) (fun c_5 => ?_) (fun c_5 => ?_)
        · refine wp_iload_n (pc := 21) (i := 2) dX6_common_21 rfl rfl ?_
          refine wp_ireturn (pc := 22) dX6_common_22 rfl ?_
          exact pq_i (by rw [hg])
        · exact absurd rfl c_5
      · have hm := Nat.mod_lt x (show 0 < y by omega)
        have h1 := ih y (x % y) (by omega) (by omega) (by omega) (by rw [← hg, Nat.gcd_comm x y, Nat.gcd_rec y x, Nat.gcd_comm (x % y) y])
        clear ih
        have hy0 : 0 < y := by omega
        refine wp_iload_n (pc := 4) (i := 3) dX6_common_4 rfl rfl ?_
        refine wp_if_eqN (pc := 5) (tgt := 21) dX6_common_5 (by decide) (by first | with_reducible assumption | omega) (fun c_5 => ?_) (fun c_5 => ?_)
        · exact absurd c_5 h0
        · refine wp_iload_n (pc := 8) (i := 2) dX6_common_8 rfl rfl ?_
          refine wp_iload_n (pc := 9) (i := 3) dX6_common_9 rfl rfl ?_
          refine wp_iremN (pc := 10) dX6_common_10 (by first | with_reducible assumption | omega) (by first | with_reducible assumption | omega) (by first | with_reducible assumption | omega) ?_
          refine wp_istore (pc := 11) dX6_common_11 (by decide) ?_
          refine wp_iload_n (pc := 13) (i := 3) dX6_common_13 rfl rfl ?_
          refine wp_istore_n (pc := 14) (i := 2) dX6_common_14 rfl (by decide) ?_
          refine wp_iload (pc := 15) dX6_common_15 rfl ?_
          refine wp_istore_n (pc := 17) (i := 3) dX6_common_17 rfl (by decide) ?_
          refine wp_goto (pc := 18) (tgt := 4) dX6_common_18 (by decide) ?_
          refine wp_drop 4 ?_
          exact h1
  refine call_of_wp (by decide) (Nat.le_of_ble_eq_true rfl) ?_
  refine wp_iload_n (pc := 0) (i := 0) dX6_common_0 rfl rfl ?_
  refine wp_istore_n (pc := 1) (i := 2) dX6_common_1 rfl (by decide) ?_
  refine wp_iload_n (pc := 2) (i := 1) dX6_common_2 rfl rfl ?_
  refine wp_istore_n (pc := 3) (i := 3) dX6_common_3 rfl (by decide) ?_
  exact loop c a c (Nat.le_refl _) ha hc rfl
theorem mj_end {n r : Nat} {Q : Pst} (hn : n ≤ 2) (hQ : Q (some (.int (-9))) I J) : WP ΩM (d + 7) kX6_judge 35 [(0, .ref 0), (1, .int (nI n)), (2, .int (nI r)), (3, .int (nI n))] [] I J Q := by
  refine wp_iload_n (pc := 35) (i := 3) dX6_judge_35 rfl rfl ?_
  refine wp_iload_n (pc := 36) (i := 1) dX6_judge_36 rfl rfl ?_
  first | (refine wp_icmp_geN (pc := 37) (tgt := 131) dX6_judge_37 (by decide) (by first | with_reducible assumption | omega) (by first | with_reducible assumption | omega) (fun c_37 => ?_) (fun c_37 => ?_)) | (refine wp_icmp_ge (pc := 37) (tgt := 131) dX6_judge_37 (by decide) (fun c_37 => ?_) (fun c_37 => ?_))
  · refine wp_bipush (pc := 131) (v := (-9)) dX6_judge_131 (by decide +kernel) ?_
    refine wp_ireturn (pc := 133) dX6_judge_133 rfl ?_
    exact hQ
  · exact absurd (Nat.le_refl _) c_37
theorem mj_go {n k r q T : Nat} {c : Bd} {Q : Pst} (hW : WH w h I) (hla : I 0 2 = nI last) (hL : LX (w * h) k c I) (hB : Bok (w * h) c) (hn : n ≤ 2) (hk : k < n) (hr : r < 2147483648) (hT : 10 ^ (4 * (n - 1 - k)) = T) (hT0 : 0 < T) (hTm : T < 2147483648) (hq : r / T % 10000 = q) (h0 : mayB w h c q = false → Q (some (.int (nI k))) I J) (h1 : mayB w h c q = true → ∀ I', LX (w * h) (k + 1) (mkB last c (enR q)) I' → FM (k + 1) I I' → WP ΩM (d + 7) kX6_judge 35 [(0, .ref 0), (1, .int (nI n)), (2, .int (nI r)), (3, .int (nI (k + 1)))] [] I' J Q) : WP ΩM (d + 7) kX6_judge 35 [(0, .ref 0), (1, .int (nI n)), (2, .int (nI r)), (3, .int (nI k))] [] I J Q := by
  have n16 := (WH_n hW).2
  have hq9 : q < 10000 := by rw [← hq]; exact Nat.mod_lt _ (by decide)
  have hten := sp_X6_tenTo (Ω := ΩM) (d := d + 6) (I := I) (J := J) (m := 4 * (n - 1 - k)) (by omega)
  rw [hT] at hten
  have hrT : r / T < 2147483648 := Nat.lt_of_le_of_lt (Nat.div_le_self _ _) hr
  generalize hrr : r / T = rr at hq hrT
  have key : WP ΩM (d + 7) kX6_judge 58 [(0, .ref 0), (1, .int (nI n)), (2, .int (nI r)), (3, .int (nI k)), (4, .int (nI q))] [] I J Q := by
    obtain ⟨F, hF⟩ : ∃ F, F = q / 100 := ⟨_, rfl⟩
    obtain ⟨G, hG⟩ : ∃ G, G = q % 100 := ⟨_, rfl⟩
    have hF9 : F < 1000 := by omega
    have hG9 : G < 100 := by omega
    have eM : mayB w h c q = (decide (F < w * h ∧ G < w * h ∧ c.2.2.2 = 2) && plP w h c (16 * F + G)) := by rw [hF, hG]; rfl
    have eR : enR q = 16 * F + G := by rw [hF, hG]; rfl
    have i1 := sp_X6_isCell (d := d + 5) (J := J) (x := nI F) hW
    have i2 := sp_X6_isCell (d := d + 5) (J := J) (x := nI G) hW
    by_cases g1 : F < w * h
    · rw [inB_yes (by omega) (by omega) g1] at i1
      by_cases g2 : G < w * h
      · rw [inB_yes (by omega) (by omega) g2] at i2
        have hip := sp_X6_isPly (d := d) (J := J) hW (LX_V n16 hL) hB (show k < 4 by omega) g1 g2
        have eM2 : mayB w h c q = (decide (c.2.2.2 = 2) && plP w h c (16 * F + G)) := by
          rw [eM]
          congr 1
          exact decide_eq_decide.mpr ⟨fun y => y.2.2, fun y => ⟨g1, g2, y⟩⟩
        cases hm : mayB w h c q
        · have hQ := h0 hm
          rw [← eM2, hm] at hip
          refine wp_aload_n (pc := 58) (i := 0) dX6_judge_58 rfl rfl (by first | with_reducible assumption | rfl) ?_
          refine wp_iload (pc := 59) dX6_judge_59 rfl ?_
          refine wp_bipush (pc := 61) (v := nI 100) dX6_judge_61 (by decide +kernel) ?_
          refine wp_idivN (pc := 63) dX6_judge_63 (by first | with_reducible assumption | omega) (by first | with_reducible assumption | omega) (by first | with_reducible assumption | omega) ?_
          rw [← hF]
          refine wp_cVP1 (pc := 64) (ci := 6) dX6_judge_64 lm_X6_94 m_X6_isCell (by first | with_reducible assumption | rfl) (by first | with_reducible assumption | rfl) (by decide) rfl (Nat.le_of_ble_eq_true rfl) i1 ?_
          refine wp_if_eqB (pc := 67) (tgt := 100) dX6_judge_67 (by decide) (fun c_67 => ?_) (fun c_67 => ?_)
          · exact Bool.noConfusion c_67
          · refine wp_aload_n (pc := 70) (i := 0) dX6_judge_70 rfl rfl (by first | with_reducible assumption | rfl) ?_
            refine wp_iload (pc := 71) dX6_judge_71 rfl ?_
            refine wp_bipush (pc := 73) (v := nI 100) dX6_judge_73 (by decide +kernel) ?_
            refine wp_iremN (pc := 75) dX6_judge_75 (by first | with_reducible assumption | omega) (by first | with_reducible assumption | omega) (by first | with_reducible assumption | omega) ?_
            rw [← hG]
            refine wp_cVP1 (pc := 76) (ci := 6) dX6_judge_76 lm_X6_94 m_X6_isCell (by first | with_reducible assumption | rfl) (by first | with_reducible assumption | rfl) (by decide) rfl (Nat.le_of_ble_eq_true rfl) i2 ?_
            refine wp_if_eqB (pc := 79) (tgt := 100) dX6_judge_79 (by decide) (fun c_79 => ?_) (fun c_79 => ?_)
            · exact Bool.noConfusion c_79
            · refine wp_aload_n (pc := 82) (i := 0) dX6_judge_82 rfl rfl (by first | with_reducible assumption | rfl) ?_
              refine wp_iload_n (pc := 83) (i := 3) dX6_judge_83 rfl rfl ?_
              refine wp_iload (pc := 84) dX6_judge_84 rfl ?_
              refine wp_bipush (pc := 86) (v := nI 100) dX6_judge_86 (by decide +kernel) ?_
              refine wp_idivN (pc := 88) dX6_judge_88 (by first | with_reducible assumption | omega) (by first | with_reducible assumption | omega) (by first | with_reducible assumption | omega) ?_
              rw [← hF]
              refine wp_iload (pc := 89) dX6_judge_89 rfl ?_
              refine wp_bipush (pc := 91) (v := nI 100) dX6_judge_91 (by decide +kernel) ?_
              refine wp_iremN (pc := 93) dX6_judge_93 (by first | with_reducible assumption | omega) (by first | with_reducible assumption | omega) (by first | with_reducible assumption | omega) ?_
              rw [← hG]
              refine wp_cVP3 (pc := 94) (ci := 6) dX6_judge_94 lm_X6_136 m_X6_isPly (by first | with_reducible assumption | rfl) (by first | with_reducible assumption | rfl) (by decide) rfl (Nat.le_of_ble_eq_true rfl) hip ?_
              refine wp_if_neB (pc := 97) (tgt := 102) dX6_judge_97 (by decide) (fun c_97 => ?_) (fun c_97 => ?_)
              · exact Bool.noConfusion c_97
              · refine wp_iload_n (pc := 100) (i := 3) dX6_judge_100 rfl rfl ?_
                refine wp_ireturn (pc := 101) dX6_judge_101 rfl ?_
                exact hQ
        · have hg := h1 hm
          rw [← eM2, hm] at hip
          rw [eM2, Bool.and_eq_true] at hm
          have hl2 := of_decide_eq_true hm.1
          have hok := plP_ok hB.1 hB.2.2.2.1 hB.2.2.2.2.2 (show 16 * F + G < 256 by omega) hm.2
          have ee : encM (16 * F + G) = 16 * F + G := if_neg (by omega)
          have hmk := sp_X6_make (d := d + 3) (J := J) hW hla hL hB hl2 hok (show k < 4 by omega) (show k + 1 < 4 by omega)
          rw [ee] at hmk
          rw [eR] at hg
          refine wp_aload_n (pc := 58) (i := 0) dX6_judge_58 rfl rfl (by first | with_reducible assumption | rfl) ?_
          refine wp_iload (pc := 59) dX6_judge_59 rfl ?_
          refine wp_bipush (pc := 61) (v := nI 100) dX6_judge_61 (by decide +kernel) ?_
          refine wp_idivN (pc := 63) dX6_judge_63 (by first | with_reducible assumption | omega) (by first | with_reducible assumption | omega) (by first | with_reducible assumption | omega) ?_
          rw [← hF]
          refine wp_cVP1 (pc := 64) (ci := 6) dX6_judge_64 lm_X6_94 m_X6_isCell (by first | with_reducible assumption | rfl) (by first | with_reducible assumption | rfl) (by decide) rfl (Nat.le_of_ble_eq_true rfl) i1 ?_
          refine wp_if_eqB (pc := 67) (tgt := 100) dX6_judge_67 (by decide) (fun c_67 => ?_) (fun c_67 => ?_)
          · exact Bool.noConfusion c_67
          · refine wp_aload_n (pc := 70) (i := 0) dX6_judge_70 rfl rfl (by first | with_reducible assumption | rfl) ?_
            refine wp_iload (pc := 71) dX6_judge_71 rfl ?_
            refine wp_bipush (pc := 73) (v := nI 100) dX6_judge_73 (by decide +kernel) ?_
            refine wp_iremN (pc := 75) dX6_judge_75 (by first | with_reducible assumption | omega) (by first | with_reducible assumption | omega) (by first | with_reducible assumption | omega) ?_
            rw [← hG]
            refine wp_cVP1 (pc := 76) (ci := 6) dX6_judge_76 lm_X6_94 m_X6_isCell (by first | with_reducible assumption | rfl) (by first | with_reducible assumption | rfl) (by decide) rfl (Nat.le_of_ble_eq_true rfl) i2 ?_
            refine wp_if_eqB (pc := 79) (tgt := 100) dX6_judge_79 (by decide) (fun c_79 => ?_) (fun c_79 => ?_)
            · exact Bool.noConfusion c_79
            · refine wp_aload_n (pc := 82) (i := 0) dX6_judge_82 rfl rfl (by first | with_reducible assumption | rfl) ?_
              refine wp_iload_n (pc := 83) (i := 3) dX6_judge_83 rfl rfl ?_
              refine wp_iload (pc := 84) dX6_judge_84 rfl ?_
              refine wp_bipush (pc := 86) (v := nI 100) dX6_judge_86 (by decide +kernel) ?_
              refine wp_idivN (pc := 88) dX6_judge_88 (by first | with_reducible assumption | omega) (by first | with_reducible assumption | omega) (by first | with_reducible assumption | omega) ?_
              rw [← hF]
              refine wp_iload (pc := 89) dX6_judge_89 rfl ?_
              refine wp_bipush (pc := 91) (v := nI 100) dX6_judge_91 (by decide +kernel) ?_
              refine wp_iremN (pc := 93) dX6_judge_93 (by first | with_reducible assumption | omega) (by first | with_reducible assumption | omega) (by first | with_reducible assumption | omega) ?_
              rw [← hG]
              refine wp_cVP3 (pc := 94) (ci := 6) dX6_judge_94 lm_X6_136 m_X6_isPly (by first | with_reducible assumption | rfl) (by first | with_reducible assumption | rfl) (by decide) rfl (Nat.le_of_ble_eq_true rfl) hip ?_
              refine wp_if_neB (pc := 97) (tgt := 102) dX6_judge_97 (by decide) (fun c_97 => ?_) (fun c_97 => ?_)
              · refine wp_aload_n (pc := 102) (i := 0) dX6_judge_102 rfl rfl (by first | with_reducible assumption | rfl) ?_
                refine wp_iload_n (pc := 103) (i := 3) dX6_judge_103 rfl rfl ?_
                refine wp_iload_n (pc := 104) (i := 3) dX6_judge_104 rfl rfl ?_
                refine wp_iconst (pc := 105) (v := nI 1) dX6_judge_105 (by decide +kernel) ?_
                first | (refine wp_iaddN (pc := 106) dX6_judge_106 ?_) | (refine wp_iadd (pc := 106) dX6_judge_106 ?_)
                refine wp_bipush (pc := 107) (v := nI 16) dX6_judge_107 (by decide +kernel) ?_
                refine wp_iload (pc := 109) dX6_judge_109 rfl ?_
                refine wp_bipush (pc := 111) (v := nI 100) dX6_judge_111 (by decide +kernel) ?_
                refine wp_idivN (pc := 113) dX6_judge_113 (by first | with_reducible assumption | omega) (by first | with_reducible assumption | omega) (by first | with_reducible assumption | omega) ?_
                rw [← hF]
                first | (refine wp_imulN (pc := 114) dX6_judge_114 ?_) | (refine wp_imul (pc := 114) dX6_judge_114 ?_)
                refine wp_iload (pc := 115) dX6_judge_115 rfl ?_
                refine wp_bipush (pc := 117) (v := nI 100) dX6_judge_117 (by decide +kernel) ?_
                refine wp_iremN (pc := 119) dX6_judge_119 (by first | with_reducible assumption | omega) (by first | with_reducible assumption | omega) (by first | with_reducible assumption | omega) ?_
                rw [← hG]
                first | (refine wp_iaddN (pc := 120) dX6_judge_120 ?_) | (refine wp_iadd (pc := 120) dX6_judge_120 ?_)
                refine wp_cVI3 (pc := 121) (ci := 6) dX6_judge_121 lm_X6_143 m_X6_make (by first | with_reducible assumption | rfl) (by first | with_reducible assumption | rfl) (by decide) rfl (Nat.le_of_ble_eq_true rfl) hmk (fun x_121 I_121 J_121 h_121 => ?_)
                obtain ⟨m1, m2, m3, rfl⟩ := h_121
                refine wp_pop (pc := 124) dX6_judge_124 rfl ?_
                first | (refine wp_iincN (pc := 125) (m := 1) dX6_judge_125 rfl rfl (by decide) ?_) | (refine wp_iinc (pc := 125) dX6_judge_125 rfl rfl (by decide) ?_)
                refine wp_goto (pc := 128) (tgt := 35) dX6_judge_128 (by decide) ?_
                refine wp_drop 4 ?_
                exact hg _ m2 m3
              · exact Bool.noConfusion c_97
      · have hm : mayB w h c q = false := by rw [eM, decide_eq_false (fun y => g2 y.2.1), Bool.false_and]
        have hQ := h0 hm
        rw [inB_no (by omega) (by omega) g2] at i2
        refine wp_aload_n (pc := 58) (i := 0) dX6_judge_58 rfl rfl (by first | with_reducible assumption | rfl) ?_
        refine wp_iload (pc := 59) dX6_judge_59 rfl ?_
        refine wp_bipush (pc := 61) (v := nI 100) dX6_judge_61 (by decide +kernel) ?_
        refine wp_idivN (pc := 63) dX6_judge_63 (by first | with_reducible assumption | omega) (by first | with_reducible assumption | omega) (by first | with_reducible assumption | omega) ?_
        rw [← hF]
        refine wp_cVP1 (pc := 64) (ci := 6) dX6_judge_64 lm_X6_94 m_X6_isCell (by first | with_reducible assumption | rfl) (by first | with_reducible assumption | rfl) (by decide) rfl (Nat.le_of_ble_eq_true rfl) i1 ?_
        refine wp_if_eqB (pc := 67) (tgt := 100) dX6_judge_67 (by decide) (fun c_67 => ?_) (fun c_67 => ?_)
        · exact Bool.noConfusion c_67
        · refine wp_aload_n (pc := 70) (i := 0) dX6_judge_70 rfl rfl (by first | with_reducible assumption | rfl) ?_
          refine wp_iload (pc := 71) dX6_judge_71 rfl ?_
          refine wp_bipush (pc := 73) (v := nI 100) dX6_judge_73 (by decide +kernel) ?_
          refine wp_iremN (pc := 75) dX6_judge_75 (by first | with_reducible assumption | omega) (by first | with_reducible assumption | omega) (by first | with_reducible assumption | omega) ?_
          rw [← hG]
          refine wp_cVP1 (pc := 76) (ci := 6) dX6_judge_76 lm_X6_94 m_X6_isCell (by first | with_reducible assumption | rfl) (by first | with_reducible assumption | rfl) (by decide) rfl (Nat.le_of_ble_eq_true rfl) i2 ?_
          refine wp_if_eqB (pc := 79) (tgt := 100) dX6_judge_79 (by decide) (fun c_79 => ?_) (fun c_79 => ?_)
          · refine wp_iload_n (pc := 100) (i := 3) dX6_judge_100 rfl rfl ?_
            refine wp_ireturn (pc := 101) dX6_judge_101 rfl ?_
            exact hQ
          · exact Bool.noConfusion c_79
    · have hm : mayB w h c q = false := by rw [eM, decide_eq_false (fun y => g1 y.1), Bool.false_and]
      have hQ := h0 hm
      rw [inB_no (by omega) (by omega) g1] at i1
      refine wp_aload_n (pc := 58) (i := 0) dX6_judge_58 rfl rfl (by first | with_reducible assumption | rfl) ?_
      refine wp_iload (pc := 59) dX6_judge_59 rfl ?_
      refine wp_bipush (pc := 61) (v := nI 100) dX6_judge_61 (by decide +kernel) ?_
      refine wp_idivN (pc := 63) dX6_judge_63 (by first | with_reducible assumption | omega) (by first | with_reducible assumption | omega) (by first | with_reducible assumption | omega) ?_
      rw [← hF]
      refine wp_cVP1 (pc := 64) (ci := 6) dX6_judge_64 lm_X6_94 m_X6_isCell (by first | with_reducible assumption | rfl) (by first | with_reducible assumption | rfl) (by decide) rfl (Nat.le_of_ble_eq_true rfl) i1 ?_
      refine wp_if_eqB (pc := 67) (tgt := 100) dX6_judge_67 (by decide) (fun c_67 => ?_) (fun c_67 => ?_)
      · refine wp_iload_n (pc := 100) (i := 3) dX6_judge_100 rfl rfl ?_
        refine wp_ireturn (pc := 101) dX6_judge_101 rfl ?_
        exact hQ
      · exact Bool.noConfusion c_67
  refine wp_iload_n (pc := 35) (i := 3) dX6_judge_35 rfl rfl ?_
  refine wp_iload_n (pc := 36) (i := 1) dX6_judge_36 rfl rfl ?_
  first | (refine wp_icmp_geN (pc := 37) (tgt := 131) dX6_judge_37 (by decide) (by first | with_reducible assumption | omega) (by first | with_reducible assumption | omega) (fun c_37 => ?_) (fun c_37 => ?_)) | (refine wp_icmp_ge (pc := 37) (tgt := 131) dX6_judge_37 (by decide) (fun c_37 => ?_) (fun c_37 => ?_))
  · exact absurd c_37 (by omega)
  · refine wp_iload_n (pc := 40) (i := 2) dX6_judge_40 rfl rfl ?_
    refine wp_iconst (pc := 41) (v := nI 4) dX6_judge_41 (by decide +kernel) ?_
    refine wp_iload_n (pc := 42) (i := 1) dX6_judge_42 rfl rfl ?_
    refine wp_iconst (pc := 43) (v := nI 1) dX6_judge_43 (by decide +kernel) ?_
    first | (refine wp_isubN (pc := 44) dX6_judge_44 (by first | with_reducible assumption | omega) ?_) | (refine wp_isub (pc := 44) dX6_judge_44 ?_)
    refine wp_iload_n (pc := 45) (i := 3) dX6_judge_45 rfl rfl ?_
    first | (refine wp_isubN (pc := 46) dX6_judge_46 (by first | with_reducible assumption | omega) ?_) | (refine wp_isub (pc := 46) dX6_judge_46 ?_)
    first | (refine wp_imulN (pc := 47) dX6_judge_47 ?_) | (refine wp_imul (pc := 47) dX6_judge_47 ?_)
    refine wp_cSP1 (pc := 48) dX6_judge_48 lm_X6_148 m_X6_tenTo (Nat.le_of_ble_eq_true rfl) hten ?_
    refine wp_idivN (pc := 51) dX6_judge_51 (by first | with_reducible assumption | omega) (by first | with_reducible assumption | omega) (by first | with_reducible assumption | omega) ?_
    rw [hrr]
    refine wp_sipush (pc := 52) (v := nI 10000) dX6_judge_52 (by decide +kernel) ?_
    refine wp_iremN (pc := 55) dX6_judge_55 (by first | with_reducible assumption | omega) (by first | with_reducible assumption | omega) (by first | with_reducible assumption | omega) ?_
    rw [hq]
    refine wp_istore (pc := 56) dX6_judge_56 (by decide) ?_
    exact key
set_option maxHeartbeats 16000000 in
theorem sp_X6_judge {x y : Int32} (hR : RepM t w h last b ps f z I J) : CALL ΩM (d + 7) kX6_judge [.ref 0, .int x, .int y] I J (AM (aJudge w h last b x y) (t, (w, h, last), b, ps, f, z)) := by
  have hwh := RepM_16 hR
  have hW := hR.2.2.1.1
  have hla := hR.2.2.1.2
  have hL := hR.2.2.2.1.1
  have hB := hR.2.2.2.1.2
  have hl9 := hR.1
  have hi1 : inL x.toInt64 (lN 1) (lN 2) = decide (¬ (x < nI 1 ∨ nI 2 < x)) := inL_rng (by decide) (by decide)
  by_cases h1 : x < nI 1 ∨ nI 2 < x
  · have e : aJudge w h last b x y = -2 := if_pos h1
    rw [decide_eq_false (fun k => k h1)] at hi1
    rw [e]
    refine call_of_wp (by decide) (Nat.le_of_ble_eq_true rfl) ?_
    refine wp_iload_n (pc := 0) (i := 1) dX6_judge_0 rfl rfl ?_
    refine wp_i2l (pc := 1) dX6_judge_1 ?_
    refine wp_lconst (pc := 2) (v := lN 1) dX6_judge_2 (by decide +kernel) ?_
    refine wp_ldc2_w (pc := 3) (v := lN 2) dX6_judge_3 kl_X6_146 ?_
    refine wp_cSP3 (pc := 6) dX6_judge_6 lm_X6_56 m_X6_in (Nat.le_of_ble_eq_true rfl) sp_X6_in ?_
    rw [hi1]
    refine wp_if_eqB (pc := 9) (tgt := 30) dX6_judge_9 (by decide) (fun c_9 => ?_) (fun c_9 => ?_)
    · refine wp_bipush (pc := 30) (v := (-2)) dX6_judge_30 (by decide +kernel) ?_
      refine wp_ireturn (pc := 32) dX6_judge_32 rfl ?_
      exact am_i rfl hR
    · exact Bool.noConfusion c_9
  · obtain ⟨n, n1, n2, rfl⟩ := rngI (by omega) (by omega) h1
    have ecn := cI_n (n := n) (by omega)
    have hin : inL (lN n) (lN 1) (lN 2) = true := by rw [inL_nn (by omega) (by omega) (by omega)]; exact decide_eq_true ⟨n1, n2⟩
    have hten := sp_X6_tenTo (Ω := ΩM) (d := d + 6) (I := I) (J := J) (m := 4 * n) (by omega)
    have hT : 1 ≤ 10 ^ (4 * n) ∧ 10 ^ (4 * n) ≤ 100000000 := by
      rcases (show n = 1 ∨ n = 2 by omega) with rfl | rfl <;> decide
    generalize hTT : 10 ^ (4 * n) = T at hten hT
    have hin2 : inL y.toInt64 (lN 0) (lN (T - 1)) = decide (¬ y < 0 ∧ y < nI T) := by
      unfold inL
      refine decide_eq_decide.mpr ?_
      have h0 : (0 : Int32).toInt = 0 := rfl
      rw [Int64.le_iff_toInt_le, Int64.le_iff_toInt_le, Int32.toInt_toInt64, pk_lT (by omega), pk_lT (by omega), Int32.lt_iff_toInt_lt, Int32.lt_iff_toInt_lt, nI_toInt (by omega), h0]
      omega
    by_cases hy : ¬ y < 0 ∧ y < nI T
    · rw [decide_eq_true hy] at hin2
      obtain ⟨r, hr, rfl⟩ := int_pos hy.1
      have hrT : r < T := by
        have := hy.2
        rw [Int32.lt_iff_toInt_lt, nI_toInt (by omega), nI_toInt (by omega)] at this
        omega
      have ecr := cI_m hr
      have hi2 : inL (lN r) (lN 0) (lN (T - 1)) = true := decide_eq_true ⟨(pk_lLE (by omega) (by omega)).mpr (by omega), (pk_lLE (by omega) (by omega)).mpr (by omega)⟩
      have hn0 : ¬ nI r < 0 := hy.1
      have main : WP ΩM (d + 7) kX6_judge 35 [(0, .ref 0), (1, .int (nI n)), (2, .int (nI r)), (3, .int (nI 0))] [] I J (AM (aJudge w h last b (nI n) (nI r)) (t, (w, h, last), b, ps, f, z)) := by
        by_cases hn : n = 1
        · subst hn
          have hT4 : T = 10000 := by rw [← hTT]
          have e : aJudge w h last b (nI 1) (nI r) = if mayB w h b r = true then -9 else nI 0 := by
            unfold aJudge
            rw [if_neg h1, if_neg hn0, ecn, ecr, if_pos rfl, if_neg (by omega)]
          rw [e]
          refine mj_go (q := r) (T := 1) hW hla hL hB n2 (by decide) hr (by decide) (by decide) (by decide) (by rw [Nat.div_one]; exact Nat.mod_eq_of_lt (by omega)) (fun g => ?_) (fun g I' u1 u2 => ?_)
          · rw [g]; exact am_i rfl hR
          · rw [if_pos g]
            exact mj_end n2 (am_i rfl (RepM_fr hR (FM_fr (by decide) u2)))
        · obtain rfl : n = 2 := by omega
          have hT8 : T = 100000000 := by rw [← hTT]
          have e : aJudge w h last b (nI 2) (nI r) = if mayB w h b (r / 10000) = true then (if mayB w h (mkB last b (enR (r / 10000))) (r % 10000) = true then -9 else nI 1) else nI 0 := by
            unfold aJudge
            rw [if_neg h1, if_neg hn0, ecn, ecr, if_neg (by decide), if_neg (by omega)]
          rw [e]
          refine mj_go (q := r / 10000) (T := 10000) hW hla hL hB n2 (by decide) hr (by decide) (by decide) (by decide) (Nat.mod_eq_of_lt (by omega)) (fun g => ?_) (fun g I' u1 u2 => ?_)
          · rw [g]; exact am_i rfl hR
          · rw [if_pos g]
            obtain ⟨l1, l2, l3⟩ := mayB_leg hwh.2 hB.1 g
            have hB2 := Bok_mk hB l1 (Or.inr l2) hl9
            have hR2 := RepM_fr hR (FM_fr (by decide) u2)
            refine mj_go (q := r % 10000) (T := 1) hR2.2.2.1.1 hR2.2.2.1.2 u1 hB2 n2 (by decide) hr (by decide) (by decide) (by decide) (by rw [Nat.div_one]) (fun g2 => ?_) (fun g2 I' v1 v2 => ?_)
            · rw [g2]; exact am_i rfl hR2
            · rw [if_pos g2]
              exact mj_end n2 (am_i rfl (RepM_fr hR2 (FM_fr (by decide) v2)))
      refine call_of_wp (by decide) (Nat.le_of_ble_eq_true rfl) ?_
      refine wp_iload_n (pc := 0) (i := 1) dX6_judge_0 rfl rfl ?_
      first | (refine wp_i2lN (pc := 1) dX6_judge_1 (by first | with_reducible assumption | omega) ?_) | (refine wp_i2l (pc := 1) dX6_judge_1 ?_)
      refine wp_lconst (pc := 2) (v := lN 1) dX6_judge_2 (by decide +kernel) ?_
      refine wp_ldc2_w (pc := 3) (v := lN 2) dX6_judge_3 kl_X6_146 ?_
      refine wp_cSP3 (pc := 6) dX6_judge_6 lm_X6_56 m_X6_in (Nat.le_of_ble_eq_true rfl) sp_X6_in ?_
      rw [hin]
      refine wp_if_eqB (pc := 9) (tgt := 30) dX6_judge_9 (by decide) (fun c_9 => ?_) (fun c_9 => ?_)
      · exact Bool.noConfusion c_9
      · refine wp_iload_n (pc := 12) (i := 2) dX6_judge_12 rfl rfl ?_
        first | (refine wp_i2lN (pc := 13) dX6_judge_13 (by first | with_reducible assumption | omega) ?_) | (refine wp_i2l (pc := 13) dX6_judge_13 ?_)
        refine wp_lconst (pc := 14) (v := lN 0) dX6_judge_14 (by decide +kernel) ?_
        refine wp_iconst (pc := 15) (v := nI 4) dX6_judge_15 (by decide +kernel) ?_
        refine wp_iload_n (pc := 16) (i := 1) dX6_judge_16 rfl rfl ?_
        first | (refine wp_imulN (pc := 17) dX6_judge_17 ?_) | (refine wp_imul (pc := 17) dX6_judge_17 ?_)
        refine wp_cSP1 (pc := 18) dX6_judge_18 lm_X6_148 m_X6_tenTo (Nat.le_of_ble_eq_true rfl) hten ?_
        refine wp_iconst (pc := 21) (v := nI 1) dX6_judge_21 (by decide +kernel) ?_
        first | (refine wp_isubN (pc := 22) dX6_judge_22 (by first | with_reducible assumption | omega) ?_) | (refine wp_isub (pc := 22) dX6_judge_22 ?_)
        first | (refine wp_i2lN (pc := 23) dX6_judge_23 (by first | with_reducible assumption | omega) ?_) | (refine wp_i2l (pc := 23) dX6_judge_23 ?_)
        refine wp_cSP3 (pc := 24) dX6_judge_24 lm_X6_56 m_X6_in (Nat.le_of_ble_eq_true rfl) sp_X6_in ?_
        rw [hi2]
        refine wp_if_neB (pc := 27) (tgt := 33) dX6_judge_27 (by decide) (fun c_27 => ?_) (fun c_27 => ?_)
        · refine wp_iconst (pc := 33) (v := nI 0) dX6_judge_33 (by decide +kernel) ?_
          refine wp_istore_n (pc := 34) (i := 3) dX6_judge_34 rfl (by decide) ?_
          exact main
        · exact Bool.noConfusion c_27
    · rw [decide_eq_false hy] at hin2
      have e : aJudge w h last b (nI n) y = -2 := by
        unfold aJudge
        rw [if_neg h1]
        by_cases h0 : y < 0
        · rw [if_pos h0]
        · rw [if_neg h0]
          obtain ⟨r, hr, rfl⟩ := int_pos h0
          have ecr := cI_m hr
          have hge : T ≤ r := by
            rcases Nat.lt_or_ge r T with k | k
            · exact absurd ⟨h0, by rw [Int32.lt_iff_toInt_lt, nI_toInt (by omega), nI_toInt (by omega)]; omega⟩ hy
            · exact k
          rw [ecn, ecr]
          by_cases hn : n = 1
          · subst hn
            have hT4 : T = 10000 := by rw [← hTT]
            rw [if_pos rfl, if_pos (by omega)]
          · obtain rfl : n = 2 := by omega
            have hT8 : T = 100000000 := by rw [← hTT]
            rw [if_neg (by decide), if_pos (by omega)]
      rw [e]
      refine call_of_wp (by decide) (Nat.le_of_ble_eq_true rfl) ?_
      refine wp_iload_n (pc := 0) (i := 1) dX6_judge_0 rfl rfl ?_
      first | (refine wp_i2lN (pc := 1) dX6_judge_1 (by first | with_reducible assumption | omega) ?_) | (refine wp_i2l (pc := 1) dX6_judge_1 ?_)
      refine wp_lconst (pc := 2) (v := lN 1) dX6_judge_2 (by decide +kernel) ?_
      refine wp_ldc2_w (pc := 3) (v := lN 2) dX6_judge_3 kl_X6_146 ?_
      refine wp_cSP3 (pc := 6) dX6_judge_6 lm_X6_56 m_X6_in (Nat.le_of_ble_eq_true rfl) sp_X6_in ?_
      rw [hin]
      refine wp_if_eqB (pc := 9) (tgt := 30) dX6_judge_9 (by decide) (fun c_9 => ?_) (fun c_9 => ?_)
      · exact Bool.noConfusion c_9
      · refine wp_iload_n (pc := 12) (i := 2) dX6_judge_12 rfl rfl ?_
        refine wp_i2l (pc := 13) dX6_judge_13 ?_
        refine wp_lconst (pc := 14) (v := lN 0) dX6_judge_14 (by decide +kernel) ?_
        refine wp_iconst (pc := 15) (v := nI 4) dX6_judge_15 (by decide +kernel) ?_
        refine wp_iload_n (pc := 16) (i := 1) dX6_judge_16 rfl rfl ?_
        first | (refine wp_imulN (pc := 17) dX6_judge_17 ?_) | (refine wp_imul (pc := 17) dX6_judge_17 ?_)
        refine wp_cSP1 (pc := 18) dX6_judge_18 lm_X6_148 m_X6_tenTo (Nat.le_of_ble_eq_true rfl) hten ?_
        refine wp_iconst (pc := 21) (v := nI 1) dX6_judge_21 (by decide +kernel) ?_
        first | (refine wp_isubN (pc := 22) dX6_judge_22 (by first | with_reducible assumption | omega) ?_) | (refine wp_isub (pc := 22) dX6_judge_22 ?_)
        first | (refine wp_i2lN (pc := 23) dX6_judge_23 (by first | with_reducible assumption | omega) ?_) | (refine wp_i2l (pc := 23) dX6_judge_23 ?_)
        refine wp_cSP3 (pc := 24) dX6_judge_24 lm_X6_56 m_X6_in (Nat.le_of_ble_eq_true rfl) sp_X6_in ?_
        rw [hin2]
        refine wp_if_neB (pc := 27) (tgt := 33) dX6_judge_27 (by decide) (fun c_27 => ?_) (fun c_27 => ?_)
        · exact Bool.noConfusion c_27
        · refine wp_bipush (pc := 30) (v := (-2)) dX6_judge_30 (by decide +kernel) ?_
          refine wp_ireturn (pc := 32) dX6_judge_32 rfl ?_
          exact am_i rfl hR
set_option maxHeartbeats 16000000 in
theorem sp_X6_odds {u : Bool} (hR : RepM t w h last b ps f z I J) : CALL ΩM (d + 7) kX6_odds [.ref 0, .int (bI u)] I J (AM (aOdds w h b u) (t, (w, h, last), b, ps, f, z)) := by
  have hB := hR.2.2.2.1.2
  have hL := hR.2.2.2.1.1
  have hl3 := hB.2.2.2.2.1
  have hlen := PLY_len (w := w) (h := h) hB.2.2.2.1
  by_cases hl : b.2.2.2 = 2
  · have f4 : I 4 0 = -9 := by rw [hL.2.2, hl]; rfl
    have hli := sp_X6_list (d := d) (J := J) hR.2.2.1.1 hL hB (k := 0) (by decide)
    have hpos := PLY_pos (w := w) (h := h) hB hl
    have hne : ¬ PLY w h b = [] := fun k => by rw [k] at hpos; exact absurd hpos (by decide)
    have hfl : felN b (PLY w h b) ≤ (PLY w h b).length := List.length_filter_le _ _
    have hg1 : 1 ≤ Nat.gcd (PLY w h b).length (felN b (PLY w h b)) := Nat.gcd_pos_of_pos_left _ (by omega)
    have hg2 : Nat.gcd (PLY w h b).length (felN b (PLY w h b)) ≤ 64 := Nat.le_trans (Nat.le_of_dvd (by omega) (Nat.gcd_dvd_left _ _)) hlen
    have eA : aOdds w h b u = if u = true then nI (felN b (PLY w h b) / Nat.gcd (PLY w h b).length (felN b (PLY w h b))) else nI ((PLY w h b).length / Nat.gcd (PLY w h b).length (felN b (PLY w h b))) := if_neg hne
    rw [eA]
    have loop : ∀ m j (I2 : MemI), m + j = (PLY w h b).length → FI scrM I I2 → (∀ j, j < (PLY w h b).length → I2 6 (256 * 0 + j) = nI (encM ((PLY w h b).getD j 0))) → WP ΩM (d + 7) kX6_odds 25 [(0, .ref 0), (1, .int (bI u)), (2, .int (nI (PLY w h b).length)), (3, .int (nI (felN b ((PLY w h b).take j)))), (4, .int (nI j))] [] I2 J (AM (if u = true then nI (felN b (PLY w h b) / Nat.gcd (PLY w h b).length (felN b (PLY w h b))) else nI ((PLY w h b).length / Nat.gcd (PLY w h b).length (felN b (PLY w h b)))) (t, (w, h, last), b, ps, f, z)) := by
      intro m
      induction m with
      | zero =>
        intro j I2 hj hfr h6
        have hj' : j = (PLY w h b).length := (Nat.zero_add j).symm.trans hj
        have hR2 : RM (t, (w, h, last), b, ps, f, z) I2 J := RepM_fr hR hfr
        have hgc := sp_X6_common (Ω := ΩM) (d := d + 6) (I := I2) (J := J) (Nat.le_trans hfl hlen) hlen
        rw [Nat.gcd_comm] at hgc
        rw [hj', List.take_length]
        generalize (PLY w h b).length = L at hlen hgc hg1 hg2 hfl ⊢
        generalize felN b (PLY w h b) = F at hgc hg1 hg2 hfl ⊢
        generalize Nat.gcd L F = G at hgc hg1 hg2 ⊢
        cases u
        · have hu0 := hR2
          refine wp_iload (pc := 25) dX6_odds_25 rfl ?_
          refine wp_iload_n (pc := 27) (i := 2) dX6_odds_27 rfl rfl ?_
          first | (refine wp_icmp_geN (pc := 28) (tgt := 53) dX6_odds_28 (by decide) (by first | with_reducible assumption | omega) (by first | with_reducible assumption | omega) (fun c_28 => ?_) (fun c_28 => ?_)) | (refine wp_icmp_ge (pc := 28) (tgt := 53) dX6_odds_28 (by decide) (fun c_28 => ?_) (fun c_28 => ?_))
          · refine wp_iload_n (pc := 53) (i := 1) dX6_odds_53 rfl rfl ?_
            refine wp_if_eqB (pc := 54) (tgt := 67) dX6_odds_54 (by decide) (fun c_54 => ?_) (fun c_54 => ?_)
            · refine wp_iload_n (pc := 67) (i := 2) dX6_odds_67 rfl rfl ?_
              refine wp_iload_n (pc := 68) (i := 3) dX6_odds_68 rfl rfl ?_
              refine wp_iload_n (pc := 69) (i := 2) dX6_odds_69 rfl rfl ?_
              refine wp_cSP2 (pc := 70) dX6_odds_70 lm_X6_165 m_X6_common (Nat.le_of_ble_eq_true rfl) hgc ?_
              refine wp_idivN (pc := 73) dX6_odds_73 (by first | with_reducible assumption | omega) (by first | with_reducible assumption | omega) (by first | with_reducible assumption | omega) ?_
              refine wp_ireturn (pc := 74) dX6_odds_74 rfl ?_
              exact am_i rfl hR2
            · exact Bool.noConfusion c_54
          · exact absurd (Nat.le_refl _) c_28
        · have hu0 := hR2
          refine wp_iload (pc := 25) dX6_odds_25 rfl ?_
          refine wp_iload_n (pc := 27) (i := 2) dX6_odds_27 rfl rfl ?_
          first | (refine wp_icmp_geN (pc := 28) (tgt := 53) dX6_odds_28 (by decide) (by first | with_reducible assumption | omega) (by first | with_reducible assumption | omega) (fun c_28 => ?_) (fun c_28 => ?_)) | (refine wp_icmp_ge (pc := 28) (tgt := 53) dX6_odds_28 (by decide) (fun c_28 => ?_) (fun c_28 => ?_))
          · refine wp_iload_n (pc := 53) (i := 1) dX6_odds_53 rfl rfl ?_
            refine wp_if_eqB (pc := 54) (tgt := 67) dX6_odds_54 (by decide) (fun c_54 => ?_) (fun c_54 => ?_)
            · exact Bool.noConfusion c_54
            · refine wp_iload_n (pc := 57) (i := 3) dX6_odds_57 rfl rfl ?_
              refine wp_iload_n (pc := 58) (i := 3) dX6_odds_58 rfl rfl ?_
              refine wp_iload_n (pc := 59) (i := 2) dX6_odds_59 rfl rfl ?_
              refine wp_cSP2 (pc := 60) dX6_odds_60 lm_X6_165 m_X6_common (Nat.le_of_ble_eq_true rfl) hgc ?_
              refine wp_idivN (pc := 63) dX6_odds_63 (by first | with_reducible assumption | omega) (by first | with_reducible assumption | omega) (by first | with_reducible assumption | omega) ?_
              refine wp_goto (pc := 64) (tgt := 74) dX6_odds_64 (by decide) ?_
              refine wp_ireturn (pc := 74) dX6_odds_74 rfl ?_
              exact am_i rfl hR2
          · exact absurd (Nat.le_refl _) c_28
      | succ m ih =>
        intro j I2 hj hfr h6
        have hjl : j < (PLY w h b).length := by omega
        have hR2 := RepM_fr hR hfr
        have hok := PLY_ok hB (PLY_get hjl)
        have hmk := sp_X6_make (d := d + 3) (J := J) hR2.2.2.1.1 hR2.2.2.1.2 hR2.2.2.2.1.1 hB hl hok (show 0 < 4 by decide) (show 1 < 4 by decide)
        have h6j := h6 j hjl
        rw [Nat.mul_zero, Nat.zero_add] at h6j
        have h0 := fun I4 => ih (j + 1) I4 (by omega)
        rw [felN_take hjl] at h0
        clear ih
        refine wp_iload (pc := 25) dX6_odds_25 rfl ?_
        refine wp_iload_n (pc := 27) (i := 2) dX6_odds_27 rfl rfl ?_
        first | (refine wp_icmp_geN (pc := 28) (tgt := 53) dX6_odds_28 (by decide) (by first | with_reducible assumption | omega) (by first | with_reducible assumption | omega) (fun c_28 => ?_) (fun c_28 => ?_)) | (refine wp_icmp_ge (pc := 28) (tgt := 53) dX6_odds_28 (by decide) (fun c_28 => ?_) (fun c_28 => ?_))
        · exact absurd c_28 (by omega)
        · refine wp_iload_n (pc := 31) (i := 3) dX6_odds_31 rfl rfl ?_
          refine wp_aload_n (pc := 32) (i := 0) dX6_odds_32 rfl rfl (by first | with_reducible assumption | rfl) ?_
          refine wp_iconst (pc := 33) (v := nI 0) dX6_odds_33 (by decide +kernel) ?_
          refine wp_iconst (pc := 34) (v := nI 1) dX6_odds_34 (by decide +kernel) ?_
          refine wp_aload_n (pc := 35) (i := 0) dX6_odds_35 rfl rfl (by first | with_reducible assumption | rfl) ?_
          refine wp_getR (pc := 36) dX6_odds_36 lf_X6_25 (by first | with_reducible assumption | rfl) (by first | with_reducible assumption | rfl) rfl (by first | with_reducible assumption | rfl) (by first | with_reducible assumption | rfl) ?_
          refine wp_iload (pc := 39) dX6_odds_39 rfl ?_
          refine wp_iald (pc := 41) dX6_odds_41 (by first | with_reducible assumption | rfl) (by first | with_reducible assumption | rfl) (by first | with_reducible assumption | omega) (by first | decide | omega) ?_
          rw [h6j]
          refine wp_cVI3 (pc := 42) (ci := 6) dX6_odds_42 lm_X6_143 m_X6_make (by first | with_reducible assumption | rfl) (by first | with_reducible assumption | rfl) (by decide) rfl (Nat.le_of_ble_eq_true rfl) hmk (fun x_42 I_42 J_42 h_42 => ?_)
          obtain ⟨rfl, m2, m3, rfl⟩ := h_42
          show WP ΩM _ _ _ _ (.int (nI (felB b ((PLY w h b).getD j 0)).toNat) :: _) _ _ _
          first | (refine wp_iaddN (pc := 45) dX6_odds_45 ?_) | (refine wp_iadd (pc := 45) dX6_odds_45 ?_)
          refine wp_istore_n (pc := 46) (i := 3) dX6_odds_46 rfl (by decide) ?_
          first | (refine wp_iincN (pc := 47) (m := 1) dX6_odds_47 rfl rfl (by decide) ?_) | (refine wp_iinc (pc := 47) dX6_odds_47 rfl rfl (by decide) ?_)
          refine wp_goto (pc := 50) (tgt := 25) dX6_odds_50 (by decide) ?_
          exact h0 _ (hfr.trans (FM_fr (by decide) m3)) (fun i hi => (m3 6 (256 * 0 + i) (by omega) (by omega)).trans (h6 i hi))
    refine call_of_wp (by decide) (Nat.le_of_ble_eq_true rfl) ?_
    refine wp_aload_n (pc := 0) (i := 0) dX6_odds_0 rfl rfl (by first | with_reducible assumption | rfl) ?_
    refine wp_getR (pc := 1) dX6_odds_1 lf_X6_19 (by first | with_reducible assumption | rfl) (by first | with_reducible assumption | rfl) rfl (by first | with_reducible assumption | rfl) (by first | with_reducible assumption | rfl) ?_
    refine wp_iconst (pc := 4) (v := nI 0) dX6_odds_4 (by decide +kernel) ?_
    refine wp_iald (pc := 5) dX6_odds_5 (by first | with_reducible assumption | rfl) (by first | with_reducible assumption | rfl) (by first | with_reducible assumption | omega) (by first | decide | omega) ?_
    rw [f4]
    refine wp_bipush (pc := 6) (v := (-9)) dX6_odds_6 (by decide +kernel) ?_
    refine wp_icmp_eq (pc := 8) (tgt := 14) dX6_odds_8 (by decide) (fun c_8 => ?_) (fun c_8 => ?_)
    · refine wp_aload_n (pc := 14) (i := 0) dX6_odds_14 rfl rfl (by first | with_reducible assumption | rfl) ?_
      refine wp_iconst (pc := 15) (v := nI 0) dX6_odds_15 (by decide +kernel) ?_
      refine wp_cVI1 (pc := 16) (ci := 6) dX6_odds_16 lm_X6_130 m_X6_list (by first | with_reducible assumption | rfl) (by first | with_reducible assumption | rfl) (by decide) rfl (Nat.le_of_ble_eq_true rfl) hli (fun x_16 I_16 J_16 h_16 => ?_)
      obtain ⟨rfl, q1, q2, rfl⟩ := h_16
      refine wp_istore_n (pc := 19) (i := 2) dX6_odds_19 rfl (by decide) ?_
      refine wp_iconst (pc := 20) (v := nI 0) dX6_odds_20 (by decide +kernel) ?_
      refine wp_istore_n (pc := 21) (i := 3) dX6_odds_21 rfl (by decide) ?_
      refine wp_iconst (pc := 22) (v := nI 0) dX6_odds_22 (by decide +kernel) ?_
      refine wp_istore (pc := 23) dX6_odds_23 (by decide) ?_
      exact loop (PLY w h b).length 0 _ rfl (LsT_fr q1) q1.1
    · exact absurd rfl c_8
  · have eN : PLY w h b = [] := by unfold PLY; rw [if_pos hl]
    have e : aOdds w h b u = -3 := if_pos eN
    have hne := lsI_ne hl hl3
    have f4 := hL.2.2
    rw [e]
    refine call_of_wp (by decide) (Nat.le_of_ble_eq_true rfl) ?_
    refine wp_aload_n (pc := 0) (i := 0) dX6_odds_0 rfl rfl (by first | with_reducible assumption | rfl) ?_
    refine wp_getR (pc := 1) dX6_odds_1 lf_X6_19 (by first | with_reducible assumption | rfl) (by first | with_reducible assumption | rfl) rfl (by first | with_reducible assumption | rfl) (by first | with_reducible assumption | rfl) ?_
    refine wp_iconst (pc := 4) (v := nI 0) dX6_odds_4 (by decide +kernel) ?_
    refine wp_iald (pc := 5) dX6_odds_5 (by first | with_reducible assumption | rfl) (by first | with_reducible assumption | rfl) (by first | with_reducible assumption | omega) (by first | decide | omega) ?_
    rw [f4]
    refine wp_bipush (pc := 6) (v := (-9)) dX6_odds_6 (by decide +kernel) ?_
    refine wp_icmp_eq (pc := 8) (tgt := 14) dX6_odds_8 (by decide) (fun c_8 => ?_) (fun c_8 => ?_)
    · exact absurd c_8 hne
    · refine wp_bipush (pc := 11) (v := (-3)) dX6_odds_11 (by decide +kernel) ?_
      refine wp_ireturn (pc := 13) dX6_odds_13 rfl ?_
      exact am_i rfl hR
end MPL
