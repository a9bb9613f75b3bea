/-! THE CLASS'S CALLS, 3 -/
def enR (r : Nat) : Nat := 16 * (r / 100) + r % 100
def aJudge (w h last : Nat) (b : Bd) (x y : Int32) : Int32 := if x < nI 1 ∨ nI 2 < x then -2 else if y < 0 then -2 else if cI x = 1 then (if 10000 ≤ cI y then -2 else if mayB w h b (cI y) = true then -9 else nI 0) else (if 10000 ≤ cI y / 10000 then -2 else if mayB w h b (cI y / 10000) = true then (if mayB w h (mkB last b (enR (cI y / 10000))) (cI y % 10000) = true then -9 else nI 1) else nI 0)
def aWins (w h last : Nat) (b : Bd) (x : Int32) : Int32 := if refA b.2.2.2 x = -9 then bI (frc w h last b.2.2.1 (cI x) b) else refA b.2.2.2 x
def aKeys (w h last : Nat) (b : Bd) (x : Int32) : Int32 := if refA b.2.2.2 x = -9 then nI (keyL w h last b (cI x - 1)).length else refA b.2.2.2 x
def aKeyAt (w h last : Nat) (b : Bd) (x y : Int32) : Int32 := if refA b.2.2.2 x = -9 then (if inB y (keyL w h last b (cI x - 1)).length = true then encC ((keyL w h last b (cI x - 1)).getD (cI y) 0) else -9) else refA b.2.2.2 x
def felB (b : Bd) (x : Nat) : Bool := !decide (x = 256) && thr b (x % 16)
def felN (b : Bd) (l : List Nat) : Nat := (l.filter (felB b)).length
def aOdds (w h : Nat) (b : Bd) (u : Bool) : Int32 := if PLY w h b = [] then -3 else if u = true then nI (felN b (PLY w h b) / Nat.gcd (PLY w h b).length (felN b (PLY w h b))) else nI ((PLY w h b).length / Nat.gcd (PLY w h b).length (felN b (PLY w h b)))
theorem int_pos {y : Int32} (h : ¬ y < 0) : ∃ r, r < 2147483648 ∧ y = nI r := by
  rw [Int32.lt_iff_toInt_lt] at h
  have h0 : ¬ y.toInt < 0 := h
  have h1 := Int32.toInt_lt y
  refine ⟨y.toInt.toNat, by omega, Int32.toInt_inj.mp ?_⟩
  rw [nI_toInt (by omega)]
  omega
theorem cI_m {r : Nat} (h : r < 2147483648) : cI (nI r) = r := by unfold cI; rw [nI_toInt h]; rfl
theorem mayB_leg {w h r : Nat} {b : Bd} (hwh : w * h ≤ 16) (hs : ∀ c, c < 16 → b.1 c < 12) (hm : mayB w h b r = true) : legX b (enR r) ∧ enR r % 16 < w * h ∧ encC (enR r) = nI r := by
  unfold mayB at hm
  rw [Bool.and_eq_true] at hm
  have h1 := of_decide_eq_true hm.1
  have hx : enR r < 256 := by unfold enR; omega
  have := plP_leg hs hx hm.2
  refine ⟨this.1, this.2, ?_⟩
  rw [enc_ne hx]
  congr 1
  unfold enR
  omega
section PU3
variable {d : Nat} {I : MemI} {J : MemJ} {t : List Nat} {w h last : Nat} {b : Bd} {ps : List Bd} {f : Nat → Option Bd} {z : Int64}
theorem fr_9 {c : Bd} : FR scrC I (wI 9 c I) J (wJ 9 c J) := FR.w (fun i => Or.inl (by decide))
theorem jd_end {n r : Nat} {Q : Pst} (hn : n ≤ 2) (hQ : Q (some (.int (-9))) I J) : WP ΩC (d + 5) kX5_judge 53 [(0, .ref 0), (1, .int (nI n)), (2, .int (nI r)), (3, .int (nI n))] [] I J Q := by
  refine wp_iload_n (pc := 53) (i := 3) dX5_judge_53 rfl rfl ?_
  refine wp_iload_n (pc := 54) (i := 1) dX5_judge_54 rfl rfl ?_
  first | (refine wp_icmp_geN (pc := 55) (tgt := 117) dX5_judge_55 (by decide) (by first | with_reducible assumption | omega) (by first | with_reducible assumption | omega) (fun c_55 => ?_) (fun c_55 => ?_)) | (refine wp_icmp_ge (pc := 55) (tgt := 117) dX5_judge_55 (by decide) (fun c_55 => ?_) (fun c_55 => ?_))
  · refine wp_bipush (pc := 117) (v := (-9)) dX5_judge_117 (by decide +kernel) ?_
    refine wp_ireturn (pc := 119) dX5_judge_119 rfl ?_
    exact hQ
  · exact absurd (Nat.le_refl _) c_55
theorem jd_go {n i r q : Nat} {c : Bd} {Q : Pst} (hn : n ≤ 2) (hi : i < n) (hr : r < 2147483648) (hq : q = if i = n - 1 then r % 10000 else r / 10000) (hq9 : q < 10000) (hF : Fld w h last I) (hb : PL 9 c I J) (hB : Bok (w * h) c) (hl9 : last < 10) (h0 : mayB w h c q = false → Q (some (.int (nI i))) I J) (h1 : mayB w h c q = true → WP ΩC (d + 5) kX5_judge 53 [(0, .ref 0), (1, .int (nI n)), (2, .int (nI r)), (3, .int (nI (i + 1)))] [] (wI 9 (mkB last c (enR q)) I) (wJ 9 (mkB last c (enR q)) J) Q) : WP ΩC (d + 5) kX5_judge 53 [(0, .ref 0), (1, .int (nI n)), (2, .int (nI r)), (3, .int (nI i))] [] I J Q := by
  have hwh := wh16 hF.1.2.1 hF.1.2.2.2
  have hlast : I 3 7 = nI last := hF.2.2.2.1
  have key : WP ΩC (d + 5) kX5_judge 80 [(0, .ref 0), (1, .int (nI n)), (2, .int (nI r)), (3, .int (nI i)), (4, .int (nI q))] [] I J Q := by
    cases hm : mayB w h c q
    · have g := h0 hm
      refine wp_aload_n (pc := 80) (i := 0) dX5_judge_80 rfl rfl (by first | with_reducible assumption | rfl) ?_
      refine wp_aload_n (pc := 81) (i := 0) dX5_judge_81 rfl rfl (by first | with_reducible assumption | rfl) ?_
      refine wp_getR (pc := 82) dX5_judge_82 lf_X5_28 (by first | with_reducible assumption | rfl) (by first | with_reducible assumption | rfl) rfl (by first | with_reducible assumption | rfl) (by first | with_reducible assumption | rfl) ?_
      refine wp_iload (pc := 85) dX5_judge_85 rfl ?_
      refine wp_cVP2 (pc := 87) (ci := 5) dX5_judge_87 lm_X5_140 m_X5_may (by first | with_reducible assumption | rfl) (by first | with_reducible assumption | rfl) (by decide) rfl (Nat.le_of_ble_eq_true rfl) (sp_X5_may isP9 hF hb hB (by omega)) ?_
      rw [hm]
      refine wp_if_neB (pc := 90) (tgt := 95) dX5_judge_90 (by decide) (fun c_90 => ?_) (fun c_90 => ?_)
      · exact Bool.noConfusion c_90
      · refine wp_iload_n (pc := 93) (i := 3) dX5_judge_93 rfl rfl ?_
        refine wp_ireturn (pc := 94) dX5_judge_94 rfl ?_
        exact g
    · have g := h1 hm
      obtain ⟨l1, l2, l3⟩ := mayB_leg hwh hB.1 hm
      rw [← l3]
      refine wp_aload_n (pc := 80) (i := 0) dX5_judge_80 rfl rfl (by first | with_reducible assumption | rfl) ?_
      refine wp_aload_n (pc := 81) (i := 0) dX5_judge_81 rfl rfl (by first | with_reducible assumption | rfl) ?_
      refine wp_getR (pc := 82) dX5_judge_82 lf_X5_28 (by first | with_reducible assumption | rfl) (by first | with_reducible assumption | rfl) rfl (by first | with_reducible assumption | rfl) (by first | with_reducible assumption | rfl) ?_
      refine wp_iload (pc := 85) dX5_judge_85 rfl ?_
      rw [l3]
      refine wp_cVP2 (pc := 87) (ci := 5) dX5_judge_87 lm_X5_140 m_X5_may (by first | with_reducible assumption | rfl) (by first | with_reducible assumption | rfl) (by decide) rfl (Nat.le_of_ble_eq_true rfl) (sp_X5_may isP9 hF hb hB (by omega)) ?_
      rw [hm]
      refine wp_if_neB (pc := 90) (tgt := 95) dX5_judge_90 (by decide) (fun c_90 => ?_) (fun c_90 => ?_)
      · refine wp_aload_n (pc := 95) (i := 0) dX5_judge_95 rfl rfl (by first | with_reducible assumption | rfl) ?_
        refine wp_getR (pc := 96) dX5_judge_96 lf_X5_28 (by first | with_reducible assumption | rfl) (by first | with_reducible assumption | rfl) rfl (by first | with_reducible assumption | rfl) (by first | with_reducible assumption | rfl) ?_
        rw [← l3]
        refine wp_iload (pc := 99) dX5_judge_99 rfl ?_
        refine wp_aload_n (pc := 101) (i := 0) dX5_judge_101 rfl rfl (by first | with_reducible assumption | rfl) ?_
        refine wp_getR (pc := 102) dX5_judge_102 lf_X5_19 (by first | with_reducible assumption | rfl) (by first | with_reducible assumption | rfl) rfl (by first | with_reducible assumption | rfl) (by first | with_reducible assumption | rfl) ?_
        refine wp_getI (pc := 105) dX5_judge_105 lf_X5_146 (by first | with_reducible assumption | rfl) (by first | with_reducible assumption | rfl) rfl ?_
        rw [hlast]
        refine wp_cVV2 (pc := 108) (ci := 2) dX5_judge_108 lm_X5_148 m_X2_make (by first | with_reducible assumption | rfl) (by first | with_reducible assumption | rfl) (by decide) rfl (Nat.le_of_ble_eq_true rfl) (sp_X2_make isP9 hb hB.1 hB.2.1 hB.2.2.1 hB.2.2.2.1 l1 hl9) (fun I_108 J_108 h_108 => ?_)
        obtain ⟨rfl, rfl⟩ := h_108
        first | (refine wp_iincN (pc := 111) (m := 1) dX5_judge_111 rfl rfl (by decide) ?_) | (refine wp_iinc (pc := 111) dX5_judge_111 rfl rfl (by decide) ?_)
        refine wp_goto (pc := 114) (tgt := 53) dX5_judge_114 (by decide) ?_
        refine wp_drop 4 ?_
        exact g
      · exact Bool.noConfusion c_90
  by_cases he : i = n - 1
  · have eq : q = r % 10000 := by rw [hq, if_pos he]
    rw [eq] at key
    refine wp_iload_n (pc := 53) (i := 3) dX5_judge_53 rfl rfl ?_
    refine wp_iload_n (pc := 54) (i := 1) dX5_judge_54 rfl rfl ?_
    first | (refine wp_icmp_geN (pc := 55) (tgt := 117) dX5_judge_55 (by decide) (by first | with_reducible assumption | omega) (by first | with_reducible assumption | omega) (fun c_55 => ?_) (fun c_55 => ?_)) | (refine wp_icmp_ge (pc := 55) (tgt := 117) dX5_judge_55 (by decide) (fun c_55 => ?_) (fun c_55 => ?_))
    · exact absurd c_55 (by omega)
    · refine wp_iload_n (pc := 58) (i := 3) dX5_judge_58 rfl rfl ?_
      refine wp_iload_n (pc := 59) (i := 1) dX5_judge_59 rfl rfl ?_
      refine wp_iconst (pc := 60) (v := nI 1) dX5_judge_60 (by decide +kernel) ?_
      first | (refine wp_isubN (pc := 61) dX5_judge_61 (by first | with_reducible assumption | omega) ?_) | (refine wp_isub (pc := 61) dX5_judge_61 ?_)
      first | (refine wp_icmp_neN (pc := 62) (tgt := 73) dX5_judge_62 (by decide) (by first | with_reducible assumption | omega) (by first | with_reducible assumption | omega) (fun c_62 => ?_) (fun c_62 => ?_)) | (refine wp_icmp_ne (pc := 62) (tgt := 73) dX5_judge_62 (by decide) (fun c_62 => ?_) (fun c_62 => ?_))
      · exact absurd he c_62
      · refine wp_iload_n (pc := 65) (i := 2) dX5_judge_65 rfl rfl ?_
        refine wp_sipush (pc := 66) (v := nI 10000) dX5_judge_66 (by decide +kernel) ?_
        refine wp_iremN (pc := 69) dX5_judge_69 (by first | with_reducible assumption | omega) (by first | with_reducible assumption | omega) (by first | with_reducible assumption | omega) ?_
        refine wp_goto (pc := 70) (tgt := 78) dX5_judge_70 (by decide) ?_
        refine wp_istore (pc := 78) dX5_judge_78 (by decide) ?_
        exact key
  · have eq : q = r / 10000 := by rw [hq, if_neg he]
    rw [eq] at key
    refine wp_iload_n (pc := 53) (i := 3) dX5_judge_53 rfl rfl ?_
    refine wp_iload_n (pc := 54) (i := 1) dX5_judge_54 rfl rfl ?_
    first | (refine wp_icmp_geN (pc := 55) (tgt := 117) dX5_judge_55 (by decide) (by first | with_reducible assumption | omega) (by first | with_reducible assumption | omega) (fun c_55 => ?_) (fun c_55 => ?_)) | (refine wp_icmp_ge (pc := 55) (tgt := 117) dX5_judge_55 (by decide) (fun c_55 => ?_) (fun c_55 => ?_))
    · exact absurd c_55 (by omega)
    · refine wp_iload_n (pc := 58) (i := 3) dX5_judge_58 rfl rfl ?_
      refine wp_iload_n (pc := 59) (i := 1) dX5_judge_59 rfl rfl ?_
      refine wp_iconst (pc := 60) (v := nI 1) dX5_judge_60 (by decide +kernel) ?_
      first | (refine wp_isubN (pc := 61) dX5_judge_61 (by first | with_reducible assumption | omega) ?_) | (refine wp_isub (pc := 61) dX5_judge_61 ?_)
      first | (refine wp_icmp_neN (pc := 62) (tgt := 73) dX5_judge_62 (by decide) (by first | with_reducible assumption | omega) (by first | with_reducible assumption | omega) (fun c_62 => ?_) (fun c_62 => ?_)) | (refine wp_icmp_ne (pc := 62) (tgt := 73) dX5_judge_62 (by decide) (fun c_62 => ?_) (fun c_62 => ?_))
      · refine wp_iload_n (pc := 73) (i := 2) dX5_judge_73 rfl rfl ?_
        refine wp_sipush (pc := 74) (v := nI 10000) dX5_judge_74 (by decide +kernel) ?_
        refine wp_idivN (pc := 77) dX5_judge_77 (by first | with_reducible assumption | omega) (by first | with_reducible assumption | omega) (by first | with_reducible assumption | omega) ?_
        refine wp_istore (pc := 78) dX5_judge_78 (by decide) ?_
        exact key
      · exact absurd c_62 he
set_option maxHeartbeats 16000000 in
theorem sp_X5_judge {x y : Int32} (hR : RepC t w h last b ps f z I J) : CALL ΩC (d + 5) kX5_judge [.ref 0, .int x, .int y] I J (AQ (aJudge w h last b x y) (t, (w, h, last), b, ps, f, z)) := by
  have hwh := RepC_16 hR
  have hF := hR.2.2.1
  have hb := hR.2.2.2.1.1
  have hB := hR.2.2.2.1.2
  have hl9 := hR.1
  by_cases h1 : x < nI 1 ∨ nI 2 < x
  · have e : aJudge w h last b x y = -2 := if_pos h1
    rw [e]
    refine call_of_wp (by decide) (Nat.le_of_ble_eq_true rfl) ?_
    refine wp_iload_n (pc := 0) (i := 1) dX5_judge_0 rfl rfl ?_
    refine wp_iconst (pc := 1) (v := nI 1) dX5_judge_1 (by decide +kernel) ?_
    refine wp_icmp_lt (pc := 2) (tgt := 10) dX5_judge_2 (by decide) (fun c_2 => ?_) (fun c_2 => ?_)
    · refine wp_bipush (pc := 10) (v := (-2)) dX5_judge_10 (by decide +kernel) ?_
      refine wp_ireturn (pc := 12) dX5_judge_12 rfl ?_
      exact aq_i rfl hR
    · refine wp_iload_n (pc := 5) (i := 1) dX5_judge_5 rfl rfl ?_
      refine wp_iconst (pc := 6) (v := nI 2) dX5_judge_6 (by decide +kernel) ?_
      refine wp_icmp_le (pc := 7) (tgt := 13) dX5_judge_7 (by decide) (fun c_7 => ?_) (fun c_7 => ?_)
      · exact absurd h1 (fun k => k.elim c_2 (Int32.not_lt.mpr c_7))
      · refine wp_bipush (pc := 10) (v := (-2)) dX5_judge_10 (by decide +kernel) ?_
        refine wp_ireturn (pc := 12) dX5_judge_12 rfl ?_
        exact aq_i rfl hR
  · obtain ⟨n, n1, n2, rfl⟩ := rngI (by omega) (by omega) h1
    have ecn := cI_n (n := n) (by omega)
    by_cases hy : y < 0
    · have e : aJudge w h last b (nI n) y = -2 := by unfold aJudge; rw [if_neg h1, if_pos hy]
      rw [e]
      refine call_of_wp (by decide) (Nat.le_of_ble_eq_true rfl) ?_
      refine wp_iload_n (pc := 0) (i := 1) dX5_judge_0 rfl rfl ?_
      refine wp_iconst (pc := 1) (v := nI 1) dX5_judge_1 (by decide +kernel) ?_
      first | (refine wp_icmp_ltN (pc := 2) (tgt := 10) dX5_judge_2 (by decide) (by first | with_reducible assumption | omega) (by first | with_reducible assumption | omega) (fun c_2 => ?_) (fun c_2 => ?_)) | (refine wp_icmp_lt (pc := 2) (tgt := 10) dX5_judge_2 (by decide) (fun c_2 => ?_) (fun c_2 => ?_))
      · exact absurd c_2 (by omega)
      · refine wp_iload_n (pc := 5) (i := 1) dX5_judge_5 rfl rfl ?_
        refine wp_iconst (pc := 6) (v := nI 2) dX5_judge_6 (by decide +kernel) ?_
        first | (refine wp_icmp_leN (pc := 7) (tgt := 13) dX5_judge_7 (by decide) (by first | with_reducible assumption | omega) (by first | with_reducible assumption | omega) (fun c_7 => ?_) (fun c_7 => ?_)) | (refine wp_icmp_le (pc := 7) (tgt := 13) dX5_judge_7 (by decide) (fun c_7 => ?_) (fun c_7 => ?_))
        · refine wp_iload_n (pc := 13) (i := 2) dX5_judge_13 rfl rfl ?_
          refine wp_if_lt (pc := 14) (tgt := 37) dX5_judge_14 (by decide) (fun c_14 => ?_) (fun c_14 => ?_)
          · refine wp_bipush (pc := 37) (v := (-2)) dX5_judge_37 (by decide +kernel) ?_
            refine wp_ireturn (pc := 39) dX5_judge_39 rfl ?_
            exact aq_i rfl hR
          · exact absurd hy c_14
        · exact absurd n2 c_7
    · obtain ⟨r, hr, rfl⟩ := int_pos hy
      have ecr := cI_m hr
      have hR9 : RC (t, (w, h, last), b, ps, f, z) (wI 9 b I) (wJ 9 b J) := RepC_fr hR fr_9
      have hF9 : Fld w h last (wI 9 b I) := hR9.2.2.1
      by_cases hn : n = 1
      · subst hn
        by_cases hr4 : 10000 ≤ r
        · have e : aJudge w h last b (nI 1) (nI r) = -2 := by unfold aJudge; rw [if_neg h1, if_neg hy, ecn, ecr, if_pos rfl, if_pos hr4]
          rw [e]
          refine call_of_wp (by decide) (Nat.le_of_ble_eq_true rfl) ?_
          refine wp_iload_n (pc := 0) (i := 1) dX5_judge_0 rfl rfl ?_
          refine wp_iconst (pc := 1) (v := nI 1) dX5_judge_1 (by decide +kernel) ?_
          first | (refine wp_icmp_ltN (pc := 2) (tgt := 10) dX5_judge_2 (by decide) (by first | with_reducible assumption | omega) (by first | with_reducible assumption | omega) (fun c_2 => ?_) (fun c_2 => ?_)) | (refine wp_icmp_lt (pc := 2) (tgt := 10) dX5_judge_2 (by decide) (fun c_2 => ?_) (fun c_2 => ?_))
          · exact absurd c_2 (by omega)
          · refine wp_iload_n (pc := 5) (i := 1) dX5_judge_5 rfl rfl ?_
            refine wp_iconst (pc := 6) (v := nI 2) dX5_judge_6 (by decide +kernel) ?_
            first | (refine wp_icmp_leN (pc := 7) (tgt := 13) dX5_judge_7 (by decide) (by first | with_reducible assumption | omega) (by first | with_reducible assumption | omega) (fun c_7 => ?_) (fun c_7 => ?_)) | (refine wp_icmp_le (pc := 7) (tgt := 13) dX5_judge_7 (by decide) (fun c_7 => ?_) (fun c_7 => ?_))
            · refine wp_iload_n (pc := 13) (i := 2) dX5_judge_13 rfl rfl ?_
              refine wp_if_ltN (pc := 14) (tgt := 37) dX5_judge_14 (by decide) (by first | with_reducible assumption | omega) ?_
              refine wp_iload_n (pc := 17) (i := 1) dX5_judge_17 rfl rfl ?_
              refine wp_iconst (pc := 18) (v := nI 1) dX5_judge_18 (by decide +kernel) ?_
              first | (refine wp_icmp_neN (pc := 19) (tgt := 26) dX5_judge_19 (by decide) (by first | with_reducible assumption | omega) (by first | with_reducible assumption | omega) (fun c_19 => ?_) (fun c_19 => ?_)) | (refine wp_icmp_ne (pc := 19) (tgt := 26) dX5_judge_19 (by decide) (fun c_19 => ?_) (fun c_19 => ?_))
              · exact absurd rfl c_19
              · refine wp_iload_n (pc := 22) (i := 2) dX5_judge_22 rfl rfl ?_
                refine wp_goto (pc := 23) (tgt := 31) dX5_judge_23 (by decide) ?_
                refine wp_sipush (pc := 31) (v := nI 10000) dX5_judge_31 (by decide +kernel) ?_
                first | (refine wp_icmp_ltN (pc := 34) (tgt := 40) dX5_judge_34 (by decide) (by first | with_reducible assumption | omega) (by first | with_reducible assumption | omega) (fun c_34 => ?_) (fun c_34 => ?_)) | (refine wp_icmp_lt (pc := 34) (tgt := 40) dX5_judge_34 (by decide) (fun c_34 => ?_) (fun c_34 => ?_))
                · exact absurd c_34 (by omega)
                · refine wp_bipush (pc := 37) (v := (-2)) dX5_judge_37 (by decide +kernel) ?_
                  refine wp_ireturn (pc := 39) dX5_judge_39 rfl ?_
                  exact aq_i rfl hR
            · exact absurd n2 c_7
        · have e : aJudge w h last b (nI 1) (nI r) = if mayB w h b r = true then -9 else nI 0 := by unfold aJudge; rw [if_neg h1, if_neg hy, ecn, ecr, if_pos rfl, if_neg hr4]
          have em : r = if 0 = 1 - 1 then r % 10000 else r / 10000 := by rw [if_pos rfl]; omega
          rw [e]
          refine call_of_wp (by decide) (Nat.le_of_ble_eq_true rfl) ?_
          refine wp_iload_n (pc := 0) (i := 1) dX5_judge_0 rfl rfl ?_
          refine wp_iconst (pc := 1) (v := nI 1) dX5_judge_1 (by decide +kernel) ?_
          first | (refine wp_icmp_ltN (pc := 2) (tgt := 10) dX5_judge_2 (by decide) (by first | with_reducible assumption | omega) (by first | with_reducible assumption | omega) (fun c_2 => ?_) (fun c_2 => ?_)) | (refine wp_icmp_lt (pc := 2) (tgt := 10) dX5_judge_2 (by decide) (fun c_2 => ?_) (fun c_2 => ?_))
          · exact absurd c_2 (by omega)
          · refine wp_iload_n (pc := 5) (i := 1) dX5_judge_5 rfl rfl ?_
            refine wp_iconst (pc := 6) (v := nI 2) dX5_judge_6 (by decide +kernel) ?_
            first | (refine wp_icmp_leN (pc := 7) (tgt := 13) dX5_judge_7 (by decide) (by first | with_reducible assumption | omega) (by first | with_reducible assumption | omega) (fun c_7 => ?_) (fun c_7 => ?_)) | (refine wp_icmp_le (pc := 7) (tgt := 13) dX5_judge_7 (by decide) (fun c_7 => ?_) (fun c_7 => ?_))
            · refine wp_iload_n (pc := 13) (i := 2) dX5_judge_13 rfl rfl ?_
              refine wp_if_ltN (pc := 14) (tgt := 37) dX5_judge_14 (by decide) (by first | with_reducible assumption | omega) ?_
              refine wp_iload_n (pc := 17) (i := 1) dX5_judge_17 rfl rfl ?_
              refine wp_iconst (pc := 18) (v := nI 1) dX5_judge_18 (by decide +kernel) ?_
              first | (refine wp_icmp_neN (pc := 19) (tgt := 26) dX5_judge_19 (by decide) (by first | with_reducible assumption | omega) (by first | with_reducible assumption | omega) (fun c_19 => ?_) (fun c_19 => ?_)) | (refine wp_icmp_ne (pc := 19) (tgt := 26) dX5_judge_19 (by decide) (fun c_19 => ?_) (fun c_19 => ?_))
              · exact absurd rfl c_19
              · refine wp_iload_n (pc := 22) (i := 2) dX5_judge_22 rfl rfl ?_
                refine wp_goto (pc := 23) (tgt := 31) dX5_judge_23 (by decide) ?_
                refine wp_sipush (pc := 31) (v := nI 10000) dX5_judge_31 (by decide +kernel) ?_
                first | (refine wp_icmp_ltN (pc := 34) (tgt := 40) dX5_judge_34 (by decide) (by first | with_reducible assumption | omega) (by first | with_reducible assumption | omega) (fun c_34 => ?_) (fun c_34 => ?_)) | (refine wp_icmp_lt (pc := 34) (tgt := 40) dX5_judge_34 (by decide) (fun c_34 => ?_) (fun c_34 => ?_))
                · refine wp_aload_n (pc := 40) (i := 0) dX5_judge_40 rfl rfl (by first | with_reducible assumption | rfl) ?_
                  refine wp_getR (pc := 41) dX5_judge_41 lf_X5_28 (by first | with_reducible assumption | rfl) (by first | with_reducible assumption | rfl) rfl (by first | with_reducible assumption | rfl) (by first | with_reducible assumption | rfl) ?_
                  refine wp_aload_n (pc := 44) (i := 0) dX5_judge_44 rfl rfl (by first | with_reducible assumption | rfl) ?_
                  refine wp_getR (pc := 45) dX5_judge_45 lf_X5_32 (by first | with_reducible assumption | rfl) (by first | with_reducible assumption | rfl) rfl (by first | with_reducible assumption | rfl) (by first | with_reducible assumption | rfl) ?_
                  refine wp_cVV1 (pc := 48) (ci := 2) dX5_judge_48 lm_X5_160 m_X2_copy (by first | with_reducible assumption | rfl) (by first | with_reducible assumption | rfl) (by decide) rfl (Nat.le_of_ble_eq_true rfl) (sp_X2_copy isP9 isP12 (by decide) hb) (fun I_48 J_48 h_48 => ?_)
                  obtain ⟨rfl, rfl⟩ := h_48
                  refine wp_iconst (pc := 51) (v := nI 0) dX5_judge_51 (by decide +kernel) ?_
                  refine wp_istore_n (pc := 52) (i := 3) dX5_judge_52 rfl (by decide) ?_
                  refine jd_go (q := r) n2 (by decide) hr em (by omega) hF9 PL_w hB hl9 (fun g => ?_) (fun g => ?_)
                  · rw [g]
                    exact aq_i rfl hR9
                  · rw [wI_w, wJ_w, if_pos g]
                    exact jd_end n2 (aq_i rfl (RepC_fr hR fr_9))
                · exact absurd (show r < 10000 by omega) c_34
            · exact absurd n2 c_7
      · obtain rfl : n = 2 := by omega
        by_cases hr4 : 10000 ≤ r / 10000
        · have e : aJudge w h last b (nI 2) (nI r) = -2 := by unfold aJudge; rw [if_neg h1, if_neg hy, ecn, ecr, if_neg (by decide), if_pos hr4]
          rw [e]
          refine call_of_wp (by decide) (Nat.le_of_ble_eq_true rfl) ?_
          refine wp_iload_n (pc := 0) (i := 1) dX5_judge_0 rfl rfl ?_
          refine wp_iconst (pc := 1) (v := nI 1) dX5_judge_1 (by decide +kernel) ?_
          first | (refine wp_icmp_ltN (pc := 2) (tgt := 10) dX5_judge_2 (by decide) (by first | with_reducible assumption | omega) (by first | with_reducible assumption | omega) (fun c_2 => ?_) (fun c_2 => ?_)) | (refine wp_icmp_lt (pc := 2) (tgt := 10) dX5_judge_2 (by decide) (fun c_2 => ?_) (fun c_2 => ?_))
          · exact absurd c_2 (by omega)
          · refine wp_iload_n (pc := 5) (i := 1) dX5_judge_5 rfl rfl ?_
            refine wp_iconst (pc := 6) (v := nI 2) dX5_judge_6 (by decide +kernel) ?_
            first | (refine wp_icmp_leN (pc := 7) (tgt := 13) dX5_judge_7 (by decide) (by first | with_reducible assumption | omega) (by first | with_reducible assumption | omega) (fun c_7 => ?_) (fun c_7 => ?_)) | (refine wp_icmp_le (pc := 7) (tgt := 13) dX5_judge_7 (by decide) (fun c_7 => ?_) (fun c_7 => ?_))
            · refine wp_iload_n (pc := 13) (i := 2) dX5_judge_13 rfl rfl ?_
              refine wp_if_ltN (pc := 14) (tgt := 37) dX5_judge_14 (by decide) (by first | with_reducible assumption | omega) ?_
              refine wp_iload_n (pc := 17) (i := 1) dX5_judge_17 rfl rfl ?_
              refine wp_iconst (pc := 18) (v := nI 1) dX5_judge_18 (by decide +kernel) ?_
              first | (refine wp_icmp_neN (pc := 19) (tgt := 26) dX5_judge_19 (by decide) (by first | with_reducible assumption | omega) (by first | with_reducible assumption | omega) (fun c_19 => ?_) (fun c_19 => ?_)) | (refine wp_icmp_ne (pc := 19) (tgt := 26) dX5_judge_19 (by decide) (fun c_19 => ?_) (fun c_19 => ?_))
              · refine wp_iload_n (pc := 26) (i := 2) dX5_judge_26 rfl rfl ?_
                refine wp_sipush (pc := 27) (v := nI 10000) dX5_judge_27 (by decide +kernel) ?_
                refine wp_idivN (pc := 30) dX5_judge_30 (by first | with_reducible assumption | omega) (by first | with_reducible assumption | omega) (by first | with_reducible assumption | omega) ?_
                refine wp_sipush (pc := 31) (v := nI 10000) dX5_judge_31 (by decide +kernel) ?_
                first | (refine wp_icmp_ltN (pc := 34) (tgt := 40) dX5_judge_34 (by decide) (by first | with_reducible assumption | omega) (by first | with_reducible assumption | omega) (fun c_34 => ?_) (fun c_34 => ?_)) | (refine wp_icmp_lt (pc := 34) (tgt := 40) dX5_judge_34 (by decide) (fun c_34 => ?_) (fun c_34 => ?_))
                · exact absurd c_34 (by omega)
                · refine wp_bipush (pc := 37) (v := (-2)) dX5_judge_37 (by decide +kernel) ?_
                  refine wp_ireturn (pc := 39) dX5_judge_39 rfl ?_
                  exact aq_i rfl hR
              · exact absurd c_19 (by decide)
            · exact absurd n2 c_7
        · have e : aJudge w h last b (nI 2) (nI r) = if mayB w h b (r / 10000) = true then (if mayB w h (mkB last b (enR (r / 10000))) (r % 10000) = true then -9 else nI 1) else nI 0 := by unfold aJudge; rw [if_neg h1, if_neg hy, ecn, ecr, if_neg (by decide), if_neg hr4]
          have em : r / 10000 = if 0 = 2 - 1 then r % 10000 else r / 10000 := by rw [if_neg (by decide)]
          have em2 : r % 10000 = if 0 + 1 = 2 - 1 then r % 10000 else r / 10000 := by rw [if_pos rfl]
          rw [e]
          refine call_of_wp (by decide) (Nat.le_of_ble_eq_true rfl) ?_
          refine wp_iload_n (pc := 0) (i := 1) dX5_judge_0 rfl rfl ?_
          refine wp_iconst (pc := 1) (v := nI 1) dX5_judge_1 (by decide +kernel) ?_
          first | (refine wp_icmp_ltN (pc := 2) (tgt := 10) dX5_judge_2 (by decide) (by first | with_reducible assumption | omega) (by first | with_reducible assumption | omega) (fun c_2 => ?_) (fun c_2 => ?_)) | (refine wp_icmp_lt (pc := 2) (tgt := 10) dX5_judge_2 (by decide) (fun c_2 => ?_) (fun c_2 => ?_))
          · exact absurd c_2 (by omega)
          · refine wp_iload_n (pc := 5) (i := 1) dX5_judge_5 rfl rfl ?_
            refine wp_iconst (pc := 6) (v := nI 2) dX5_judge_6 (by decide +kernel) ?_
            first | (refine wp_icmp_leN (pc := 7) (tgt := 13) dX5_judge_7 (by decide) (by first | with_reducible assumption | omega) (by first | with_reducible assumption | omega) (fun c_7 => ?_) (fun c_7 => ?_)) | (refine wp_icmp_le (pc := 7) (tgt := 13) dX5_judge_7 (by decide) (fun c_7 => ?_) (fun c_7 => ?_))
            · refine wp_iload_n (pc := 13) (i := 2) dX5_judge_13 rfl rfl ?_
              refine wp_if_ltN (pc := 14) (tgt := 37) dX5_judge_14 (by decide) (by first | with_reducible assumption | omega) ?_
              refine wp_iload_n (pc := 17) (i := 1) dX5_judge_17 rfl rfl ?_
              refine wp_iconst (pc := 18) (v := nI 1) dX5_judge_18 (by decide +kernel) ?_
              first | (refine wp_icmp_neN (pc := 19) (tgt := 26) dX5_judge_19 (by decide) (by first | with_reducible assumption | omega) (by first | with_reducible assumption | omega) (fun c_19 => ?_) (fun c_19 => ?_)) | (refine wp_icmp_ne (pc := 19) (tgt := 26) dX5_judge_19 (by decide) (fun c_19 => ?_) (fun c_19 => ?_))
              · refine wp_iload_n (pc := 26) (i := 2) dX5_judge_26 rfl rfl ?_
                refine wp_sipush (pc := 27) (v := nI 10000) dX5_judge_27 (by decide +kernel) ?_
                refine wp_idivN (pc := 30) dX5_judge_30 (by first | with_reducible assumption | omega) (by first | with_reducible assumption | omega) (by first | with_reducible assumption | omega) ?_
                refine wp_sipush (pc := 31) (v := nI 10000) dX5_judge_31 (by decide +kernel) ?_
                first | (refine wp_icmp_ltN (pc := 34) (tgt := 40) dX5_judge_34 (by decide) (by first | with_reducible assumption | omega) (by first | with_reducible assumption | omega) (fun c_34 => ?_) (fun c_34 => ?_)) | (refine wp_icmp_lt (pc := 34) (tgt := 40) dX5_judge_34 (by decide) (fun c_34 => ?_) (fun c_34 => ?_))
                · refine wp_aload_n (pc := 40) (i := 0) dX5_judge_40 rfl rfl (by first | with_reducible assumption | rfl) ?_
                  refine wp_getR (pc := 41) dX5_judge_41 lf_X5_28 (by first | with_reducible assumption | rfl) (by first | with_reducible assumption | rfl) rfl (by first | with_reducible assumption | rfl) (by first | with_reducible assumption | rfl) ?_
                  refine wp_aload_n (pc := 44) (i := 0) dX5_judge_44 rfl rfl (by first | with_reducible assumption | rfl) ?_
                  refine wp_getR (pc := 45) dX5_judge_45 lf_X5_32 (by first | with_reducible assumption | rfl) (by first | with_reducible assumption | rfl) rfl (by first | with_reducible assumption | rfl) (by first | with_reducible assumption | rfl) ?_
                  refine wp_cVV1 (pc := 48) (ci := 2) dX5_judge_48 lm_X5_160 m_X2_copy (by first | with_reducible assumption | rfl) (by first | with_reducible assumption | rfl) (by decide) rfl (Nat.le_of_ble_eq_true rfl) (sp_X2_copy isP9 isP12 (by decide) hb) (fun I_48 J_48 h_48 => ?_)
                  obtain ⟨rfl, rfl⟩ := h_48
                  refine wp_iconst (pc := 51) (v := nI 0) dX5_judge_51 (by decide +kernel) ?_
                  refine wp_istore_n (pc := 52) (i := 3) dX5_judge_52 rfl (by decide) ?_
                  refine jd_go (q := r / 10000) n2 (by decide) hr em (by omega) hF9 PL_w hB hl9 (fun g => ?_) (fun g => ?_)
                  · rw [g]
                    exact aq_i rfl hR9
                  · obtain ⟨l1, l2, l3⟩ := mayB_leg hwh hB.1 g
                    have hB2 := Bok_mk hB l1 (Or.inr l2) hl9
                    have hR8 : RC (t, (w, h, last), b, ps, f, z) (wI 9 (mkB last b (enR (r / 10000))) I) (wJ 9 (mkB last b (enR (r / 10000))) J) := RepC_fr hR fr_9
                    have hF8 : Fld w h last (wI 9 (mkB last b (enR (r / 10000))) I) := hR8.2.2.1
                    rw [wI_w, wJ_w, if_pos g]
                    refine jd_go (q := r % 10000) n2 (by decide) hr em2 (by omega) hF8 PL_w hB2 hl9 (fun g2 => ?_) (fun g2 => ?_)
                    · rw [g2]
                      exact aq_i rfl hR8
                    · rw [wI_w, wJ_w, if_pos g2]
                      exact jd_end n2 (aq_i rfl (RepC_fr hR fr_9))
                · exact absurd (show r / 10000 < 10000 by omega) c_34
              · exact absurd c_19 (by decide)
            · exact absurd n2 c_7
theorem refA_9 {l : Nat} {x : Int32} (h : refA l x = -9) : l = 2 ∧ ∃ n, 1 ≤ n ∧ n ≤ 4 ∧ x = nI n := by
  unfold refA at h
  split at h
  · exact absurd h (by decide)
  · rename_i h1
    split at h
    · rename_i h2
      exact ⟨h2, rngI (by omega) (by omega) h1⟩
    · exact absurd h (by decide)
set_option maxHeartbeats 16000000 in
theorem sp_X5_wins {x : Int32} (hR : RepC t w h last b ps f z I J) : CALL ΩC (d + 8) kX5_wins [.ref 0, .int x] I J (AQ (aWins w h last b x) (t, (w, h, last), b, ps, f, z)) := by
  have hF := hR.2.2.1
  have hb := hR.2.2.2.1.1
  have hB := hR.2.2.2.1.2
  have hl9 := hR.1
  have e9 : I 12 9 = nI b.2.2.1 := hb.1 9 (by omega) (by omega)
  have href := sp_X5_refusedAhead (d := d + 7) (x := x) hb hB.2.2.2.2.1
  by_cases hr : refA b.2.2.2 x = -9
  · obtain ⟨hl, n, n1, n4, rfl⟩ := refA_9 hr
    have e : aWins w h last b (nI n) = bI (frc w h last b.2.2.1 n b) := by unfold aWins; rw [if_pos hr, cI_n (by omega)]
    have hst := isF_12 (d := d) hl9 I J b b.2.2.1 n hF hb hB hB.2.2.2.1 n4
    rw [hr] at href
    rw [e]
    refine call_of_wp (by decide) (Nat.le_of_ble_eq_true rfl) ?_
    refine wp_aload_n (pc := 0) (i := 0) dX5_wins_0 rfl rfl (by first | with_reducible assumption | rfl) ?_
    refine wp_iload_n (pc := 1) (i := 1) dX5_wins_1 rfl rfl ?_
    refine wp_cVP1 (pc := 2) (ci := 5) dX5_wins_2 lm_X5_163 m_X5_refusedAhead (by first | with_reducible assumption | rfl) (by first | with_reducible assumption | rfl) (by decide) rfl (Nat.le_of_ble_eq_true rfl) href ?_
    refine wp_istore_n (pc := 5) (i := 2) dX5_wins_5 rfl (by decide) ?_
    refine wp_iload_n (pc := 6) (i := 2) dX5_wins_6 rfl rfl ?_
    refine wp_bipush (pc := 7) (v := (-9)) dX5_wins_7 (by decide +kernel) ?_
    refine wp_icmp_eq (pc := 9) (tgt := 14) dX5_wins_9 (by decide) (fun c_9 => ?_) (fun c_9 => ?_)
    · refine wp_aload_n (pc := 14) (i := 0) dX5_wins_14 rfl rfl (by first | with_reducible assumption | rfl) ?_
      refine wp_getR (pc := 15) dX5_wins_15 lf_X5_19 (by first | with_reducible assumption | rfl) (by first | with_reducible assumption | rfl) rfl (by first | with_reducible assumption | rfl) (by first | with_reducible assumption | rfl) ?_
      refine wp_aload_n (pc := 18) (i := 0) dX5_wins_18 rfl rfl (by first | with_reducible assumption | rfl) ?_
      refine wp_getR (pc := 19) dX5_wins_19 lf_X5_32 (by first | with_reducible assumption | rfl) (by first | with_reducible assumption | rfl) rfl (by first | with_reducible assumption | rfl) (by first | with_reducible assumption | rfl) ?_
      refine wp_aload_n (pc := 22) (i := 0) dX5_wins_22 rfl rfl (by first | with_reducible assumption | rfl) ?_
      refine wp_getR (pc := 23) dX5_wins_23 lf_X5_32 (by first | with_reducible assumption | rfl) (by first | with_reducible assumption | rfl) rfl (by first | with_reducible assumption | rfl) (by first | with_reducible assumption | rfl) ?_
      refine wp_getI (pc := 26) dX5_wins_26 lf_X5_100 (by first | with_reducible assumption | rfl) (by first | with_reducible assumption | rfl) rfl ?_
      rw [e9]
      refine wp_iload_n (pc := 29) (i := 1) dX5_wins_29 rfl rfl ?_
      refine wp_cSI4 (pc := 30) dX5_wins_30 lm_X5_166 m_X5_isForced (Nat.le_of_ble_eq_true rfl) hst (fun x_30 I_30 J_30 h_30 => ?_)
      obtain ⟨rfl, hf2⟩ := h_30
      refine wp_if_eqB (pc := 33) (tgt := 40) dX5_wins_33 (by decide) (fun c_33 => ?_) (fun c_33 => ?_)
      · refine wp_iconst (pc := 40) (v := nI 0) dX5_wins_40 (by decide +kernel) ?_
        refine wp_ireturn (pc := 41) dX5_wins_41 rfl ?_
        first | (have g : frc w h last b.2.2.1 n b = true := c_33; exact aq_i (by rw [g]; rfl) (RepC_fr hR hf2)) | (have g : frc w h last b.2.2.1 n b = false := c_33; exact aq_i (by rw [g]; rfl) (RepC_fr hR hf2))
      · refine wp_iconst (pc := 36) (v := nI 1) dX5_wins_36 (by decide +kernel) ?_
        refine wp_goto (pc := 37) (tgt := 41) dX5_wins_37 (by decide) ?_
        refine wp_ireturn (pc := 41) dX5_wins_41 rfl ?_
        first | (have g : frc w h last b.2.2.1 n b = true := c_33; exact aq_i (by rw [g]; rfl) (RepC_fr hR hf2)) | (have g : frc w h last b.2.2.1 n b = false := c_33; exact aq_i (by rw [g]; rfl) (RepC_fr hR hf2))
    · exact absurd rfl c_9
  · have e : aWins w h last b x = refA b.2.2.2 x := if_neg hr
    rw [e]
    refine call_of_wp (by decide) (Nat.le_of_ble_eq_true rfl) ?_
    refine wp_aload_n (pc := 0) (i := 0) dX5_wins_0 rfl rfl (by first | with_reducible assumption | rfl) ?_
    refine wp_iload_n (pc := 1) (i := 1) dX5_wins_1 rfl rfl ?_
    refine wp_cVP1 (pc := 2) (ci := 5) dX5_wins_2 lm_X5_163 m_X5_refusedAhead (by first | with_reducible assumption | rfl) (by first | with_reducible assumption | rfl) (by decide) rfl (Nat.le_of_ble_eq_true rfl) href ?_
    refine wp_istore_n (pc := 5) (i := 2) dX5_wins_5 rfl (by decide) ?_
    refine wp_iload_n (pc := 6) (i := 2) dX5_wins_6 rfl rfl ?_
    refine wp_bipush (pc := 7) (v := (-9)) dX5_wins_7 (by decide +kernel) ?_
    refine wp_icmp_eq (pc := 9) (tgt := 14) dX5_wins_9 (by decide) (fun c_9 => ?_) (fun c_9 => ?_)
    · exact absurd c_9 hr
    · refine wp_iload_n (pc := 12) (i := 2) dX5_wins_12 rfl rfl ?_
      refine wp_ireturn (pc := 13) dX5_wins_13 rfl ?_
      exact aq_i rfl hR
set_option maxHeartbeats 16000000 in
theorem sp_X5_keys {x : Int32} (hR : RepC t w h last b ps f z I J) : CALL ΩC (d + 8) kX5_keys [.ref 0, .int x] I J (AQ (aKeys w h last b x) (t, (w, h, last), b, ps, f, z)) := by
  have hF := hR.2.2.1
  have hb := hR.2.2.2.1.1
  have hB := hR.2.2.2.1.2
  have hl9 := hR.1
  have href := sp_X5_refusedAhead (d := d + 7) (x := x) hb hB.2.2.2.2.1
  by_cases hr : refA b.2.2.2 x = -9
  · obtain ⟨hl, n, n1, n4, rfl⟩ := refA_9 hr
    have e : aKeys w h last b (nI n) = nI (keyL w h last b (n - 1)).length := by unfold aKeys; rw [if_pos hr, cI_n (by omega)]
    have hst := sp_X5_listKeys (d := d) hF hb hB hl9 n1 n4
    rw [hr] at href
    rw [e]
    refine call_of_wp (by decide) (Nat.le_of_ble_eq_true rfl) ?_
    refine wp_aload_n (pc := 0) (i := 0) dX5_keys_0 rfl rfl (by first | with_reducible assumption | rfl) ?_
    refine wp_iload_n (pc := 1) (i := 1) dX5_keys_1 rfl rfl ?_
    refine wp_cVP1 (pc := 2) (ci := 5) dX5_keys_2 lm_X5_163 m_X5_refusedAhead (by first | with_reducible assumption | rfl) (by first | with_reducible assumption | rfl) (by decide) rfl (Nat.le_of_ble_eq_true rfl) href ?_
    refine wp_istore_n (pc := 5) (i := 2) dX5_keys_5 rfl (by decide) ?_
    refine wp_iload_n (pc := 6) (i := 2) dX5_keys_6 rfl rfl ?_
    refine wp_bipush (pc := 7) (v := (-9)) dX5_keys_7 (by decide +kernel) ?_
    refine wp_icmp_eq (pc := 9) (tgt := 16) dX5_keys_9 (by decide) (fun c_9 => ?_) (fun c_9 => ?_)
    · refine wp_aload_n (pc := 16) (i := 0) dX5_keys_16 rfl rfl (by first | with_reducible assumption | rfl) ?_
      refine wp_iload_n (pc := 17) (i := 1) dX5_keys_17 rfl rfl ?_
      refine wp_cVI1 (pc := 18) (ci := 5) dX5_keys_18 lm_X5_170 m_X5_listKeys (by first | with_reducible assumption | rfl) (by first | with_reducible assumption | rfl) (by decide) rfl (Nat.le_of_ble_eq_true rfl) hst (fun x_18 I_18 J_18 h_18 => ?_)
      obtain ⟨rfl, hf2, hk2, hk3⟩ := h_18
      refine wp_ireturn (pc := 21) dX5_keys_21 rfl ?_
      exact aq_i rfl (RepC_fr hR hf2)
    · exact absurd rfl c_9
  · have e : aKeys w h last b x = refA b.2.2.2 x := if_neg hr
    rw [e]
    refine call_of_wp (by decide) (Nat.le_of_ble_eq_true rfl) ?_
    refine wp_aload_n (pc := 0) (i := 0) dX5_keys_0 rfl rfl (by first | with_reducible assumption | rfl) ?_
    refine wp_iload_n (pc := 1) (i := 1) dX5_keys_1 rfl rfl ?_
    refine wp_cVP1 (pc := 2) (ci := 5) dX5_keys_2 lm_X5_163 m_X5_refusedAhead (by first | with_reducible assumption | rfl) (by first | with_reducible assumption | rfl) (by decide) rfl (Nat.le_of_ble_eq_true rfl) href ?_
    refine wp_istore_n (pc := 5) (i := 2) dX5_keys_5 rfl (by decide) ?_
    refine wp_iload_n (pc := 6) (i := 2) dX5_keys_6 rfl rfl ?_
    refine wp_bipush (pc := 7) (v := (-9)) dX5_keys_7 (by decide +kernel) ?_
    refine wp_icmp_eq (pc := 9) (tgt := 16) dX5_keys_9 (by decide) (fun c_9 => ?_) (fun c_9 => ?_)
    · exact absurd c_9 hr
    · refine wp_iload_n (pc := 12) (i := 2) dX5_keys_12 rfl rfl ?_
      refine wp_goto (pc := 13) (tgt := 21) dX5_keys_13 (by decide) ?_
      refine wp_ireturn (pc := 21) dX5_keys_21 rfl ?_
      exact aq_i rfl hR
theorem keyL_len {n : Nat} (ho : b.2.2.1 < 2) : (keyL w h last b n).length ≤ (PLY w h b).length ∧ (PLY w h b).length ≤ 64 := ⟨List.length_filter_le _ _, PLY_len ho⟩
set_option maxHeartbeats 16000000 in
theorem sp_X5_keyAt {x y : Int32} (hR : RepC t w h last b ps f z I J) : CALL ΩC (d + 8) kX5_keyAt [.ref 0, .int x, .int y] I J (AQ (aKeyAt w h last b x y) (t, (w, h, last), b, ps, f, z)) := by
  have hF := hR.2.2.1
  have hb := hR.2.2.2.1.1
  have hB := hR.2.2.2.1.2
  have hl9 := hR.1
  have href := sp_X5_refusedAhead (d := d + 7) (x := x) hb hB.2.2.2.2.1
  by_cases hr : refA b.2.2.2 x = -9
  · obtain ⟨hl, n, n1, n4, rfl⟩ := refA_9 hr
    have hkl := keyL_len (w := w) (h := h) (last := last) (b := b) (n := n - 1) hB.2.2.2.1
    have hst := sp_X5_listKeys (d := d) hF hb hB hl9 n1 n4
    rw [hr] at href
    generalize hK : keyL w h last b (n - 1) = K at hkl hst
    have eA : aKeyAt w h last b (nI n) y = if inB y K.length = true then encC (K.getD (cI y) 0) else -9 := by unfold aKeyAt; rw [if_pos hr, cI_n (by omega), hK]
    cases hy : inB y K.length
    · have e : aKeyAt w h last b (nI n) y = -9 := by rw [eA, hy]; rfl
      rw [e]
      refine call_of_wp (by decide) (Nat.le_of_ble_eq_true rfl) ?_
      by_cases hy0 : y < 0
      · have hy1 := hy0
        refine wp_aload_n (pc := 0) (i := 0) dX5_keyAt_0 rfl rfl (by first | with_reducible assumption | rfl) ?_
        refine wp_iload_n (pc := 1) (i := 1) dX5_keyAt_1 rfl rfl ?_
        refine wp_cVP1 (pc := 2) (ci := 5) dX5_keyAt_2 lm_X5_163 m_X5_refusedAhead (by first | with_reducible assumption | rfl) (by first | with_reducible assumption | rfl) (by decide) rfl (Nat.le_of_ble_eq_true rfl) href ?_
        refine wp_istore_n (pc := 5) (i := 3) dX5_keyAt_5 rfl (by decide) ?_
        refine wp_iload_n (pc := 6) (i := 3) dX5_keyAt_6 rfl rfl ?_
        refine wp_bipush (pc := 7) (v := (-9)) dX5_keyAt_7 (by decide +kernel) ?_
        refine wp_icmp_eq (pc := 9) (tgt := 14) dX5_keyAt_9 (by decide) (fun c_9 => ?_) (fun c_9 => ?_)
        · refine wp_iload_n (pc := 14) (i := 2) dX5_keyAt_14 rfl rfl ?_
          refine wp_if_lt (pc := 15) (tgt := 38) dX5_keyAt_15 (by decide) (fun c_15 => ?_) (fun c_15 => ?_)
          · refine wp_bipush (pc := 38) (v := (-9)) dX5_keyAt_38 (by decide +kernel) ?_
            refine wp_ireturn (pc := 40) dX5_keyAt_40 rfl ?_
            exact aq_i rfl hR
          · exact absurd hy0 c_15
        · exact absurd rfl c_9
      · have hge : ¬ y < nI K.length := fun k => by
          have : inB y K.length = true := decide_eq_true ⟨hy0, k⟩
          rw [this] at hy; cases hy
        refine wp_aload_n (pc := 0) (i := 0) dX5_keyAt_0 rfl rfl (by first | with_reducible assumption | rfl) ?_
        refine wp_iload_n (pc := 1) (i := 1) dX5_keyAt_1 rfl rfl ?_
        refine wp_cVP1 (pc := 2) (ci := 5) dX5_keyAt_2 lm_X5_163 m_X5_refusedAhead (by first | with_reducible assumption | rfl) (by first | with_reducible assumption | rfl) (by decide) rfl (Nat.le_of_ble_eq_true rfl) href ?_
        refine wp_istore_n (pc := 5) (i := 3) dX5_keyAt_5 rfl (by decide) ?_
        refine wp_iload_n (pc := 6) (i := 3) dX5_keyAt_6 rfl rfl ?_
        refine wp_bipush (pc := 7) (v := (-9)) dX5_keyAt_7 (by decide +kernel) ?_
        refine wp_icmp_eq (pc := 9) (tgt := 14) dX5_keyAt_9 (by decide) (fun c_9 => ?_) (fun c_9 => ?_)
        · refine wp_iload_n (pc := 14) (i := 2) dX5_keyAt_14 rfl rfl ?_
          refine wp_if_lt (pc := 15) (tgt := 38) dX5_keyAt_15 (by decide) (fun c_15 => ?_) (fun c_15 => ?_)
          · exact absurd c_15 hy0
          · refine wp_iload_n (pc := 18) (i := 2) dX5_keyAt_18 rfl rfl ?_
            refine wp_aload_n (pc := 19) (i := 0) dX5_keyAt_19 rfl rfl (by first | with_reducible assumption | rfl) ?_
            refine wp_iload_n (pc := 20) (i := 1) dX5_keyAt_20 rfl rfl ?_
            refine wp_cVI1 (pc := 21) (ci := 5) dX5_keyAt_21 lm_X5_170 m_X5_listKeys (by first | with_reducible assumption | rfl) (by first | with_reducible assumption | rfl) (by decide) rfl (Nat.le_of_ble_eq_true rfl) hst (fun x_21 I_21 J_21 h_21 => ?_)
            obtain ⟨rfl, hf2, hk2, hk3⟩ := h_21
            refine wp_icmp_ge (pc := 24) (tgt := 38) dX5_keyAt_24 (by decide) (fun c_24 => ?_) (fun c_24 => ?_)
            · refine wp_bipush (pc := 38) (v := (-9)) dX5_keyAt_38 (by decide +kernel) ?_
              refine wp_ireturn (pc := 40) dX5_keyAt_40 rfl ?_
              exact aq_i rfl (RepC_fr hR hf2)
            · exact absurd (Int32.not_lt.mp hge) c_24
        · exact absurd rfl c_9
    · obtain ⟨c, hc, rfl⟩ := inB_t (by omega) hy
      have e : aKeyAt w h last b (nI n) (nI c) = encC (K.getD c 0) := by rw [eA, hy, cI_n (by omega)]; rfl
      rw [e]
      refine call_of_wp (by decide) (Nat.le_of_ble_eq_true rfl) ?_
      refine wp_aload_n (pc := 0) (i := 0) dX5_keyAt_0 rfl rfl (by first | with_reducible assumption | rfl) ?_
      refine wp_iload_n (pc := 1) (i := 1) dX5_keyAt_1 rfl rfl ?_
      refine wp_cVP1 (pc := 2) (ci := 5) dX5_keyAt_2 lm_X5_163 m_X5_refusedAhead (by first | with_reducible assumption | rfl) (by first | with_reducible assumption | rfl) (by decide) rfl (Nat.le_of_ble_eq_true rfl) href ?_
      refine wp_istore_n (pc := 5) (i := 3) dX5_keyAt_5 rfl (by decide) ?_
      refine wp_iload_n (pc := 6) (i := 3) dX5_keyAt_6 rfl rfl ?_
      refine wp_bipush (pc := 7) (v := (-9)) dX5_keyAt_7 (by decide +kernel) ?_
      refine wp_icmp_eq (pc := 9) (tgt := 14) dX5_keyAt_9 (by decide) (fun c_9 => ?_) (fun c_9 => ?_)
      · refine wp_iload_n (pc := 14) (i := 2) dX5_keyAt_14 rfl rfl ?_
        refine wp_if_ltN (pc := 15) (tgt := 38) dX5_keyAt_15 (by decide) (by first | with_reducible assumption | omega) ?_
        refine wp_iload_n (pc := 18) (i := 2) dX5_keyAt_18 rfl rfl ?_
        refine wp_aload_n (pc := 19) (i := 0) dX5_keyAt_19 rfl rfl (by first | with_reducible assumption | rfl) ?_
        refine wp_iload_n (pc := 20) (i := 1) dX5_keyAt_20 rfl rfl ?_
        refine wp_cVI1 (pc := 21) (ci := 5) dX5_keyAt_21 lm_X5_170 m_X5_listKeys (by first | with_reducible assumption | rfl) (by first | with_reducible assumption | rfl) (by decide) rfl (Nat.le_of_ble_eq_true rfl) hst (fun x_21 I_21 J_21 h_21 => ?_)
        obtain ⟨rfl, hf2, hk2, hk3⟩ := h_21
        first | (refine wp_icmp_geN (pc := 24) (tgt := 38) dX5_keyAt_24 (by decide) (by first | with_reducible assumption | omega) (by first | with_reducible assumption | omega) (fun c_24 => ?_) (fun c_24 => ?_)) | (refine wp_icmp_ge (pc := 24) (tgt := 38) dX5_keyAt_24 (by decide) (fun c_24 => ?_) (fun c_24 => ?_))
        · exact absurd c_24 (by omega)
        · refine wp_aload_n (pc := 27) (i := 0) dX5_keyAt_27 rfl rfl (by first | with_reducible assumption | rfl) ?_
          refine wp_getR (pc := 28) dX5_keyAt_28 lf_X5_32 (by first | with_reducible assumption | rfl) (by first | with_reducible assumption | rfl) rfl (by first | with_reducible assumption | rfl) (by first | with_reducible assumption | rfl) ?_
          refine wp_iload_n (pc := 31) (i := 2) dX5_keyAt_31 rfl rfl ?_
          refine wp_cVP1 (pc := 32) (ci := 2) dX5_keyAt_32 lm_X5_151 m_X2_ply (by first | with_reducible assumption | rfl) (by first | with_reducible assumption | rfl) (by decide) rfl (Nat.le_of_ble_eq_true rfl) (sp_X2_plyR (d := d + 6) isP12 hk2 hkl.2 (by omega)) ?_
          rw [hk3 c hc]
          refine wp_goto (pc := 35) (tgt := 40) dX5_keyAt_35 (by decide) ?_
          refine wp_ireturn (pc := 40) dX5_keyAt_40 rfl ?_
          exact aq_i rfl (RepC_fr hR hf2)
      · exact absurd rfl c_9
  · have e : aKeyAt w h last b x y = refA b.2.2.2 x := if_neg hr
    rw [e]
    refine call_of_wp (by decide) (Nat.le_of_ble_eq_true rfl) ?_
    refine wp_aload_n (pc := 0) (i := 0) dX5_keyAt_0 rfl rfl (by first | with_reducible assumption | rfl) ?_
    refine wp_iload_n (pc := 1) (i := 1) dX5_keyAt_1 rfl rfl ?_
    refine wp_cVP1 (pc := 2) (ci := 5) dX5_keyAt_2 lm_X5_163 m_X5_refusedAhead (by first | with_reducible assumption | rfl) (by first | with_reducible assumption | rfl) (by decide) rfl (Nat.le_of_ble_eq_true rfl) href ?_
    refine wp_istore_n (pc := 5) (i := 3) dX5_keyAt_5 rfl (by decide) ?_
    refine wp_iload_n (pc := 6) (i := 3) dX5_keyAt_6 rfl rfl ?_
    refine wp_bipush (pc := 7) (v := (-9)) dX5_keyAt_7 (by decide +kernel) ?_
    refine wp_icmp_eq (pc := 9) (tgt := 14) dX5_keyAt_9 (by decide) (fun c_9 => ?_) (fun c_9 => ?_)
    · exact absurd c_9 hr
    · refine wp_iload_n (pc := 12) (i := 3) dX5_keyAt_12 rfl rfl ?_
      refine wp_ireturn (pc := 13) dX5_keyAt_13 rfl ?_
      exact aq_i rfl hR
end PU3
