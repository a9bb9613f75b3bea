/-! THE CLASS'S CALLS, 4 -/
noncomputable def aParts (w h : Nat) (b : Bd) : Int32 := nI (pao w h (opn w h b.1) (fun _ => false))
noncomputable def aPart (w h : Nat) (b : Bd) (x : Int32) : Int32 := if inB x (w * h) = true then (if ded b.1 (cI x) = true then -9 else nI (pao w h (opn w h b.1) (fun i => decide (i = cI x)))) else -1
noncomputable def aComes (w h : Nat) (b : Bd) (x : Int32) : Int32 := if inB x (w * h) = true then nI (mset (comP w h (b.1 (cI x)) (ded b.1) (cI x))) else -1
noncomputable def aComesAt (w h : Nat) (b : Bd) (x y : Int32) : Int32 := if (inB x (w * h) && inB y (w * h)) = true then (if 2 ≤ b.1 (cI x) ∧ menP b.1 (1 - sd (b.1 (cI x))) (cI y) = true then bI (ccB w h b.1 (fun i => decide (i = cI x)) (fun i => decide (i = cI y))) else -3) else -1
noncomputable def aShut (w h : Nat) (b : Bd) : Int32 := bI (!(ccB w h b.1 (wht b.1) (blk b.1) || ccB w h b.1 (blk b.1) (wht b.1)))
def aWays (w h last : Nat) (b : Bd) (f : Nat → Option Bd) (x y : Int32) : Int32 := if inB x 2 = true then (if y < nI 1 ∨ nI 3 < y then -2 else match f (cI x) with
  | none => -3
  | some c => if (b.2.2.1 + cI y) % 2 = c.2.2.1 then nI (rws w h last c (cI y) b) else nI 0) else -1
def aKeep (b : Bd) (x : Int32) : Int32 := if inB x 2 = true then nI (cnt (fun c => wht b.1 c || blk b.1 c)) else -1
def sKeep (x : Int32) (s : Sg) : Sg := if inB x 2 = true then (s.1, s.2.1, s.2.2.1, s.2.2.2.1, upO s.2.2.2.2.1 (cI x) (some s.2.2.1), s.2.2.2.2.2) else s
def aAgain (f : Nat → Option Bd) (x : Int32) : Int32 := if inB x 2 = true then (match f (cI x) with
  | none => -3
  | some c => nI (cnt (fun k => wht c.1 k || blk c.1 k))) else -1
def sAgain (x : Int32) (s : Sg) : Sg := if inB x 2 = true then (match s.2.2.2.2.1 (cI x) with
  | none => s
  | some c => (s.1, s.2.1, c, [], s.2.2.2.2)) else s
def cntA (t : List Nat) (w h last : Nat) (b : Bd) (ps : List Bd) (c : Nat) : Int32 := match c with
  | 0 => nI t.length
  | 1 => nI w
  | 2 => nI h
  | 3 => nI last
  | 4 => nI b.2.2.1
  | 5 => nI (mset (wht b.1))
  | 6 => nI (mset (blk b.1))
  | 7 => nI (mset (ded b.1))
  | 8 => nI ps.length
  | _ => lsI b.2.2.2
def aCount (t : List Nat) (w h last : Nat) (b : Bd) (ps : List Bd) (x : Int32) : Int32 := if inB x 10 = true then cntA t w h last b ps (cI x) else -2
/-- a long's answer -/
def AL (a : Int64) (s : Sg) : Pst := fun r I' J' => r = some (.long a) ∧ RC s I' J'
theorem felN_take {b : Bd} {l : List Nat} {j : Nat} (hj : j < l.length) : felN b (l.take (j + 1)) = felN b (l.take j) + (felB b (l.getD j 0)).toNat := by
  unfold felN
  rw [flt_take hj, List.length_append]
  cases felB b (l.getD j 0) <;> simp
section PU4
variable {d : Nat} {I : MemI} {J : MemJ} {t : List Nat} {w h last : Nat} {b : Bd} {ps : List Bd} {f : Nat → Option Bd} {z : Int64}
set_option maxHeartbeats 16000000 in
theorem sp_X5_odds {u : Bool} (hR : RepC t w h last b ps f z I J) : CALL ΩC (d + 5) kX5_odds [.ref 0, .int (bI u)] I J (AQ (aOdds w h b u) (t, (w, h, last), b, ps, f, z)) := by
  have hwh := RepC_16 hR
  have hF := hR.2.2.1
  have hb := hR.2.2.2.1.1
  have hB := hR.2.2.2.1.2
  have ho2 := hB.2.2.2.1
  have hlen := PLY_len (w := w) (h := h) hB.2.2.2.1
  have hlist := sp_X2_list (d := d) isP12 hF hb hB.1 hB.2.2.2.2.2 hB.2.2.2.1 hB.2.2.2.2.1
  have hR2 : RC (t, (w, h, last), b, ps, f, z) (lsM 12 (PLY w h b) I) J := RepC_fr hR fr_ls
  by_cases h0 : (PLY w h b).length = 0
  · have e : aOdds w h b u = -3 := if_pos (List.length_eq_zero_iff.mp h0)
    rw [e]
    refine call_of_wp (by decide) (Nat.le_of_ble_eq_true rfl) ?_
    refine wp_aload_n (pc := 0) (i := 0) dX5_odds_0 rfl rfl (by first | with_reducible assumption | rfl) ?_
    refine wp_getR (pc := 1) dX5_odds_1 lf_X5_32 (by first | with_reducible assumption | rfl) (by first | with_reducible assumption | rfl) rfl (by first | with_reducible assumption | rfl) (by first | with_reducible assumption | rfl) ?_
    refine wp_aload_n (pc := 4) (i := 0) dX5_odds_4 rfl rfl (by first | with_reducible assumption | rfl) ?_
    refine wp_getR (pc := 5) dX5_odds_5 lf_X5_19 (by first | with_reducible assumption | rfl) (by first | with_reducible assumption | rfl) rfl (by first | with_reducible assumption | rfl) (by first | with_reducible assumption | rfl) ?_
    refine wp_cVI1 (pc := 8) (ci := 2) dX5_odds_8 lm_X5_136 m_X2_list (by first | with_reducible assumption | rfl) (by first | with_reducible assumption | rfl) (by decide) rfl (Nat.le_of_ble_eq_true rfl) hlist (fun x_8 I_8 J_8 h_8 => ?_)
    obtain ⟨rfl, rfl, rfl⟩ := h_8
    rw [h0]
    refine wp_istore_n (pc := 11) (i := 2) dX5_odds_11 rfl (by decide) ?_
    refine wp_iload_n (pc := 12) (i := 2) dX5_odds_12 rfl rfl ?_
    refine wp_iconst (pc := 13) (v := nI 1) dX5_odds_13 (by decide +kernel) ?_
    first | (refine wp_icmp_geN (pc := 14) (tgt := 20) dX5_odds_14 (by decide) (by first | with_reducible assumption | omega) (by first | with_reducible assumption | omega) (fun c_14 => ?_) (fun c_14 => ?_)) | (refine wp_icmp_ge (pc := 14) (tgt := 20) dX5_odds_14 (by decide) (fun c_14 => ?_) (fun c_14 => ?_))
    · exact absurd c_14 (by decide)
    · refine wp_bipush (pc := 17) (v := (-3)) dX5_odds_17 (by decide +kernel) ?_
      refine wp_ireturn (pc := 19) dX5_odds_19 rfl ?_
      exact aq_i rfl hR2
  · have hb2 := hR2.2.2.2.1.1
    have e8 : lsM 12 (PLY w h b) I 12 8 = nI (mset (kng b.1)) := hb2.1 8 (by omega) (by omega)
    have e9 : lsM 12 (PLY w h b) I 12 9 = nI b.2.2.1 := hb2.1 9 (by omega) (by omega)
    have hm := mset_lt (thr b)
    have eT : mset (fun i => kng b.1 i && menP b.1 (1 - b.2.2.1) i) = mset (thr b) := rfl
    have hne : ¬ PLY w h b = [] := fun k => h0 (by rw [k]; rfl)
    have hfl : felN b (PLY w h b) ≤ (PLY w h b).length := List.length_filter_le _ _
    have hg1 : 1 ≤ Nat.gcd (PLY w h b).length (felN b (PLY w h b)) := Nat.gcd_pos_of_pos_left _ (by omega)
    have hg2 : Nat.gcd (PLY w h b).length (felN b (PLY w h b)) ≤ 64 := Nat.le_trans (Nat.le_of_dvd (by omega) (Nat.gcd_dvd_left _ _)) hlen
    have eA : aOdds w h b u = if u = true then nI (felN b (PLY w h b) / Nat.gcd (PLY w h b).length (felN b (PLY w h b))) else nI ((PLY w h b).length / Nat.gcd (PLY w h b).length (felN b (PLY w h b))) := if_neg hne
    have hgc := sp_X5_greatestCommon (Ω := ΩC) (d := d + 4) (I := lsM 12 (PLY w h b) I) (J := J) hlen (Nat.le_trans hfl hlen)
    rw [eA]
    have loop : ∀ m j, m + j = (PLY w h b).length → WP ΩC (d + 5) kX5_odds 51 [(0, .ref 0), (1, .int (bI u)), (2, .int (nI (PLY w h b).length)), (3, .int (nI (mset (thr b)))), (4, .int (nI (felN b ((PLY w h b).take j)))), (5, .int (nI j))] [] (lsM 12 (PLY w h b) I) J (AQ (if u = true then nI (felN b (PLY w h b) / Nat.gcd (PLY w h b).length (felN b (PLY w h b))) else nI ((PLY w h b).length / Nat.gcd (PLY w h b).length (felN b (PLY w h b)))) (t, (w, h, last), b, ps, f, z)) := by
      intro m
      induction m with
      | zero =>
        intro j hj
        have hj' : j = (PLY w h b).length := (Nat.zero_add j).symm.trans hj
        rw [hj', List.take_length]
        generalize (PLY w h b).length = L at hlen hgc hg1 hg2 hfl ⊢
        generalize felN b (PLY w h b) = F at hgc hg1 hg2 hfl ⊢
        generalize Nat.gcd L F = G at hgc hg1 hg2 ⊢
        cases u
        · have hu0 := hR2
          refine wp_iload (pc := 51) dX5_odds_51 rfl ?_
          refine wp_iload_n (pc := 53) (i := 2) dX5_odds_53 rfl rfl ?_
          first | (refine wp_icmp_geN (pc := 54) (tgt := 96) dX5_odds_54 (by decide) (by first | with_reducible assumption | omega) (by first | with_reducible assumption | omega) (fun c_54 => ?_) (fun c_54 => ?_)) | (refine wp_icmp_ge (pc := 54) (tgt := 96) dX5_odds_54 (by decide) (fun c_54 => ?_) (fun c_54 => ?_))
          · refine wp_iload_n (pc := 96) (i := 2) dX5_odds_96 rfl rfl ?_
            refine wp_iload (pc := 97) dX5_odds_97 rfl ?_
            refine wp_cSP2 (pc := 99) dX5_odds_99 lm_X5_179 m_X5_greatestCommon (Nat.le_of_ble_eq_true rfl) hgc ?_
            refine wp_istore (pc := 102) dX5_odds_102 (by decide) ?_
            refine wp_iload (pc := 104) dX5_odds_104 rfl ?_
            refine wp_iconst (pc := 106) (v := nI 1) dX5_odds_106 (by decide +kernel) ?_
            first | (refine wp_icmp_geN (pc := 107) (tgt := 113) dX5_odds_107 (by decide) (by first | with_reducible assumption | omega) (by first | with_reducible assumption | omega) (fun c_107 => ?_) (fun c_107 => ?_)) | (refine wp_icmp_ge (pc := 107) (tgt := 113) dX5_odds_107 (by decide) (fun c_107 => ?_) (fun c_107 => ?_))
            · refine wp_iload_n (pc := 113) (i := 1) dX5_odds_113 rfl rfl ?_
              refine wp_if_eqB (pc := 114) (tgt := 122) dX5_odds_114 (by decide) (fun c_114 => ?_) (fun c_114 => ?_)
              · refine wp_iload_n (pc := 122) (i := 2) dX5_odds_122 rfl rfl ?_
                refine wp_iload (pc := 123) dX5_odds_123 rfl ?_
                refine wp_idivN (pc := 125) dX5_odds_125 (by first | with_reducible assumption | omega) (by first | with_reducible assumption | omega) (by first | with_reducible assumption | omega) ?_
                refine wp_ireturn (pc := 126) dX5_odds_126 rfl ?_
                exact aq_i rfl hR2
              · exact Bool.noConfusion c_114
            · exact absurd hg1 c_107
          · exact absurd (Nat.le_refl _) c_54
        · have hu0 := hR2
          refine wp_iload (pc := 51) dX5_odds_51 rfl ?_
          refine wp_iload_n (pc := 53) (i := 2) dX5_odds_53 rfl rfl ?_
          first | (refine wp_icmp_geN (pc := 54) (tgt := 96) dX5_odds_54 (by decide) (by first | with_reducible assumption | omega) (by first | with_reducible assumption | omega) (fun c_54 => ?_) (fun c_54 => ?_)) | (refine wp_icmp_ge (pc := 54) (tgt := 96) dX5_odds_54 (by decide) (fun c_54 => ?_) (fun c_54 => ?_))
          · refine wp_iload_n (pc := 96) (i := 2) dX5_odds_96 rfl rfl ?_
            refine wp_iload (pc := 97) dX5_odds_97 rfl ?_
            refine wp_cSP2 (pc := 99) dX5_odds_99 lm_X5_179 m_X5_greatestCommon (Nat.le_of_ble_eq_true rfl) hgc ?_
            refine wp_istore (pc := 102) dX5_odds_102 (by decide) ?_
            refine wp_iload (pc := 104) dX5_odds_104 rfl ?_
            refine wp_iconst (pc := 106) (v := nI 1) dX5_odds_106 (by decide +kernel) ?_
            first | (refine wp_icmp_geN (pc := 107) (tgt := 113) dX5_odds_107 (by decide) (by first | with_reducible assumption | omega) (by first | with_reducible assumption | omega) (fun c_107 => ?_) (fun c_107 => ?_)) | (refine wp_icmp_ge (pc := 107) (tgt := 113) dX5_odds_107 (by decide) (fun c_107 => ?_) (fun c_107 => ?_))
            · refine wp_iload_n (pc := 113) (i := 1) dX5_odds_113 rfl rfl ?_
              refine wp_if_eqB (pc := 114) (tgt := 122) dX5_odds_114 (by decide) (fun c_114 => ?_) (fun c_114 => ?_)
              · exact Bool.noConfusion c_114
              · refine wp_iload (pc := 117) dX5_odds_117 rfl ?_
                refine wp_goto (pc := 119) (tgt := 123) dX5_odds_119 (by decide) ?_
                refine wp_iload (pc := 123) dX5_odds_123 rfl ?_
                refine wp_idivN (pc := 125) dX5_odds_125 (by first | with_reducible assumption | omega) (by first | with_reducible assumption | omega) (by first | with_reducible assumption | omega) ?_
                refine wp_ireturn (pc := 126) dX5_odds_126 rfl ?_
                exact aq_i rfl hR2
            · exact absurd hg1 c_107
          · exact absurd (Nat.le_refl _) c_54
      | succ m ih =>
        intro j hj
        have hjl : j < (PLY w h b).length := by omega
        have hply := sp_X2_ply (d := d + 3) (J := J) (PLY w h b) isP12 (lsM_2 (I := I)) hlen (fun k hk => lsM_5 hk) hjl
        have hx := PLY_lt (PLY_get hjl)
        have h1 := ih (j + 1) (by omega)
        rw [felN_take hjl] at h1
        clear ih
        generalize (PLY w h b).getD j 0 = x at hply hx h1
        by_cases hx2 : x = 256
        · have eb : felB b x = false := by unfold felB; rw [decide_eq_true hx2]; rfl
          have e9' : encC x = -9 := (enc_pass hx).mpr hx2
          rw [eb] at h1
          rw [e9'] at hply
          refine wp_iload (pc := 51) dX5_odds_51 rfl ?_
          refine wp_iload_n (pc := 53) (i := 2) dX5_odds_53 rfl rfl ?_
          first | (refine wp_icmp_geN (pc := 54) (tgt := 96) dX5_odds_54 (by decide) (by first | with_reducible assumption | omega) (by first | with_reducible assumption | omega) (fun c_54 => ?_) (fun c_54 => ?_)) | (refine wp_icmp_ge (pc := 54) (tgt := 96) dX5_odds_54 (by decide) (fun c_54 => ?_) (fun c_54 => ?_))
          · exact absurd c_54 (by omega)
          · refine wp_aload_n (pc := 57) (i := 0) dX5_odds_57 rfl rfl (by first | with_reducible assumption | rfl) ?_
            refine wp_getR (pc := 58) dX5_odds_58 lf_X5_32 (by first | with_reducible assumption | rfl) (by first | with_reducible assumption | rfl) rfl (by first | with_reducible assumption | rfl) (by first | with_reducible assumption | rfl) ?_
            refine wp_iload (pc := 61) dX5_odds_61 rfl ?_
            refine wp_cVP1 (pc := 63) (ci := 2) dX5_odds_63 lm_X5_151 m_X2_ply (by first | with_reducible assumption | rfl) (by first | with_reducible assumption | rfl) (by decide) rfl (Nat.le_of_ble_eq_true rfl) hply ?_
            refine wp_istore (pc := 66) dX5_odds_66 (by decide) ?_
            refine wp_iload (pc := 68) dX5_odds_68 rfl ?_
            refine wp_bipush (pc := 70) (v := (-9)) dX5_odds_70 (by decide +kernel) ?_
            refine wp_icmp_eq (pc := 72) (tgt := 90) dX5_odds_72 (by decide) (fun c_72 => ?_) (fun c_72 => ?_)
            · first | (refine wp_iincN (pc := 90) (m := 1) dX5_odds_90 rfl rfl (by decide) ?_) | (refine wp_iinc (pc := 90) dX5_odds_90 rfl rfl (by decide) ?_)
              refine wp_goto (pc := 93) (tgt := 51) dX5_odds_93 (by decide) ?_
              refine wp_drop 6 ?_
              exact h1
            · exact absurd rfl c_72
        · have hx3 : x < 256 := hx.resolve_left hx2
          have e9' : ¬ encC x = -9 := fun k => hx2 ((enc_pass hx).mp k)
          have eE := enc_ne hx3
          have em : (x / 16 * 100 + x % 16) % 100 = x % 16 := by omega
          have eb : felB b x = thr b (x % 16) := by unfold felB; rw [decide_eq_false hx2]; rfl
          have hbit := mset_bit' (thr b) (show x % 16 < 16 by omega)
          rw [eb] at h1
          rw [eE] at hply e9'
          have hxl : x / 16 * 100 + x % 16 < 2147483648 := by omega
          have hx16 : x % 16 < 31 := by omega
          generalize x / 16 * 100 + x % 16 = e at hply e9' em hxl
          generalize x % 16 = q at em hbit h1 hx16
          clear eE hx2 hx3 eb
          refine wp_iload (pc := 51) dX5_odds_51 rfl ?_
          refine wp_iload_n (pc := 53) (i := 2) dX5_odds_53 rfl rfl ?_
          first | (refine wp_icmp_geN (pc := 54) (tgt := 96) dX5_odds_54 (by decide) (by first | with_reducible assumption | omega) (by first | with_reducible assumption | omega) (fun c_54 => ?_) (fun c_54 => ?_)) | (refine wp_icmp_ge (pc := 54) (tgt := 96) dX5_odds_54 (by decide) (fun c_54 => ?_) (fun c_54 => ?_))
          · exact absurd c_54 (by omega)
          · refine wp_aload_n (pc := 57) (i := 0) dX5_odds_57 rfl rfl (by first | with_reducible assumption | rfl) ?_
            refine wp_getR (pc := 58) dX5_odds_58 lf_X5_32 (by first | with_reducible assumption | rfl) (by first | with_reducible assumption | rfl) rfl (by first | with_reducible assumption | rfl) (by first | with_reducible assumption | rfl) ?_
            refine wp_iload (pc := 61) dX5_odds_61 rfl ?_
            refine wp_cVP1 (pc := 63) (ci := 2) dX5_odds_63 lm_X5_151 m_X2_ply (by first | with_reducible assumption | rfl) (by first | with_reducible assumption | rfl) (by decide) rfl (Nat.le_of_ble_eq_true rfl) hply ?_
            refine wp_istore (pc := 66) dX5_odds_66 (by decide) ?_
            refine wp_iload (pc := 68) dX5_odds_68 rfl ?_
            refine wp_bipush (pc := 70) (v := (-9)) dX5_odds_70 (by decide +kernel) ?_
            refine wp_icmp_eq (pc := 72) (tgt := 90) dX5_odds_72 (by decide) (fun c_72 => ?_) (fun c_72 => ?_)
            · exact absurd c_72 e9'
            · refine wp_iload_n (pc := 75) (i := 3) dX5_odds_75 rfl rfl ?_
              refine wp_iload (pc := 76) dX5_odds_76 rfl ?_
              refine wp_bipush (pc := 78) (v := nI 100) dX5_odds_78 (by decide +kernel) ?_
              refine wp_iremN (pc := 80) dX5_odds_80 (by first | with_reducible assumption | omega) (by first | with_reducible assumption | omega) (by first | with_reducible assumption | omega) ?_
              rw [em]
              refine wp_cSP2 (pc := 81) dX5_odds_81 lm_X5_118 m_X5_has (Nat.le_of_ble_eq_true rfl) (sp_X5_has (by first | with_reducible assumption | omega) (by first | with_reducible assumption | omega)) ?_
              rw [hbit]
              refine wp_if_eqB (pc := 84) (tgt := 90) dX5_odds_84 (by decide) (fun c_84 => ?_) (fun c_84 => ?_)
              · first | (refine wp_iincN (pc := 90) (m := 1) dX5_odds_90 rfl rfl (by decide) ?_) | (refine wp_iinc (pc := 90) dX5_odds_90 rfl rfl (by decide) ?_)
                refine wp_goto (pc := 93) (tgt := 51) dX5_odds_93 (by decide) ?_
                refine wp_drop 6 ?_
                first
                  | (have g : thr b q = true := c_84; rw [g] at h1; exact h1)
                  | (have g : thr b q = false := c_84; rw [g] at h1; exact h1)
              · first | (refine wp_iincN (pc := 87) (m := 1) dX5_odds_87 rfl rfl (by decide) ?_) | (refine wp_iinc (pc := 87) dX5_odds_87 rfl rfl (by decide) ?_)
                first | (refine wp_iincN (pc := 90) (m := 1) dX5_odds_90 rfl rfl (by decide) ?_) | (refine wp_iinc (pc := 90) dX5_odds_90 rfl rfl (by decide) ?_)
                refine wp_goto (pc := 93) (tgt := 51) dX5_odds_93 (by decide) ?_
                refine wp_drop 6 ?_
                first
                  | (have g : thr b q = true := c_84; rw [g] at h1; exact h1)
                  | (have g : thr b q = false := c_84; rw [g] at h1; exact h1)
    refine call_of_wp (by decide) (Nat.le_of_ble_eq_true rfl) ?_
    refine wp_aload_n (pc := 0) (i := 0) dX5_odds_0 rfl rfl (by first | with_reducible assumption | rfl) ?_
    refine wp_getR (pc := 1) dX5_odds_1 lf_X5_32 (by first | with_reducible assumption | rfl) (by first | with_reducible assumption | rfl) rfl (by first | with_reducible assumption | rfl) (by first | with_reducible assumption | rfl) ?_
    refine wp_aload_n (pc := 4) (i := 0) dX5_odds_4 rfl rfl (by first | with_reducible assumption | rfl) ?_
    refine wp_getR (pc := 5) dX5_odds_5 lf_X5_19 (by first | with_reducible assumption | rfl) (by first | with_reducible assumption | rfl) rfl (by first | with_reducible assumption | rfl) (by first | with_reducible assumption | rfl) ?_
    refine wp_cVI1 (pc := 8) (ci := 2) dX5_odds_8 lm_X5_136 m_X2_list (by first | with_reducible assumption | rfl) (by first | with_reducible assumption | rfl) (by decide) rfl (Nat.le_of_ble_eq_true rfl) hlist (fun x_8 I_8 J_8 h_8 => ?_)
    obtain ⟨rfl, rfl, rfl⟩ := h_8
    refine wp_istore_n (pc := 11) (i := 2) dX5_odds_11 rfl (by decide) ?_
    refine wp_iload_n (pc := 12) (i := 2) dX5_odds_12 rfl rfl ?_
    refine wp_iconst (pc := 13) (v := nI 1) dX5_odds_13 (by decide +kernel) ?_
    first | (refine wp_icmp_geN (pc := 14) (tgt := 20) dX5_odds_14 (by decide) (by first | with_reducible assumption | omega) (by first | with_reducible assumption | omega) (fun c_14 => ?_) (fun c_14 => ?_)) | (refine wp_icmp_ge (pc := 14) (tgt := 20) dX5_odds_14 (by decide) (fun c_14 => ?_) (fun c_14 => ?_))
    · refine wp_aload_n (pc := 20) (i := 0) dX5_odds_20 rfl rfl (by first | with_reducible assumption | rfl) ?_
      refine wp_getR (pc := 21) dX5_odds_21 lf_X5_32 (by first | with_reducible assumption | rfl) (by first | with_reducible assumption | rfl) rfl (by first | with_reducible assumption | rfl) (by first | with_reducible assumption | rfl) ?_
      refine wp_getI (pc := 24) dX5_odds_24 lf_X5_173 (by first | with_reducible assumption | rfl) (by first | with_reducible assumption | rfl) rfl ?_
      rw [e8]
      refine wp_aload_n (pc := 27) (i := 0) dX5_odds_27 rfl rfl (by first | with_reducible assumption | rfl) ?_
      refine wp_getR (pc := 28) dX5_odds_28 lf_X5_32 (by first | with_reducible assumption | rfl) (by first | with_reducible assumption | rfl) rfl (by first | with_reducible assumption | rfl) (by first | with_reducible assumption | rfl) ?_
      refine wp_iconst (pc := 31) (v := nI 1) dX5_odds_31 (by decide +kernel) ?_
      refine wp_aload_n (pc := 32) (i := 0) dX5_odds_32 rfl rfl (by first | with_reducible assumption | rfl) ?_
      refine wp_getR (pc := 33) dX5_odds_33 lf_X5_32 (by first | with_reducible assumption | rfl) (by first | with_reducible assumption | rfl) rfl (by first | with_reducible assumption | rfl) (by first | with_reducible assumption | rfl) ?_
      refine wp_getI (pc := 36) dX5_odds_36 lf_X5_100 (by first | with_reducible assumption | rfl) (by first | with_reducible assumption | rfl) rfl ?_
      rw [e9]
      first | (refine wp_isubN (pc := 39) dX5_odds_39 (by first | with_reducible assumption | omega) ?_) | (refine wp_isub (pc := 39) dX5_odds_39 ?_)
      refine wp_cVP1 (pc := 40) (ci := 2) dX5_odds_40 lm_X5_176 m_X2_men (by first | with_reducible assumption | rfl) (by first | with_reducible assumption | rfl) (by decide) rfl (Nat.le_of_ble_eq_true rfl) (sp_X2_men isP12 hb2 (by omega)) ?_
      first | (refine wp_iandN (pc := 43) dX5_odds_43 ?_) | (refine wp_iand (pc := 43) dX5_odds_43 ?_)
      rw [mset_and, eT]
      refine wp_istore_n (pc := 44) (i := 3) dX5_odds_44 rfl (by decide) ?_
      refine wp_iconst (pc := 45) (v := nI 0) dX5_odds_45 (by decide +kernel) ?_
      refine wp_istore (pc := 46) dX5_odds_46 (by decide) ?_
      refine wp_iconst (pc := 48) (v := nI 0) dX5_odds_48 (by decide +kernel) ?_
      refine wp_istore (pc := 49) dX5_odds_49 (by decide) ?_
      exact loop (PLY w h b).length 0 rfl
    · exact absurd (show 1 ≤ (PLY w h b).length by omega) c_14
set_option maxHeartbeats 16000000 in
theorem sp_X5_parts (hR : RepC t w h last b ps f z I J) : CALL ΩC (d + 4) kX5_parts [.ref 0] I J (AQ (aParts w h b) (t, (w, h, last), b, ps, f, z)) := by
  have hF := hR.2.2.1
  have hb := hR.2.2.2.1.1
  have hp := sp_X5_partsAheadOf (d := d) (W := fun _ => false) hF hb
  rw [mset_none] at hp
  refine call_of_wp (by decide) (Nat.le_of_ble_eq_true rfl) ?_
  refine wp_aload_n (pc := 0) (i := 0) dX5_parts_0 rfl rfl (by first | with_reducible assumption | rfl) ?_
  refine wp_iconst (pc := 1) (v := nI 0) dX5_parts_1 (by decide +kernel) ?_
  refine wp_cVP1 (pc := 2) (ci := 5) dX5_parts_2 lm_X5_183 m_X5_partsAheadOf (by first | with_reducible assumption | rfl) (by first | with_reducible assumption | rfl) (by decide) rfl (Nat.le_of_ble_eq_true rfl) hp ?_
  refine wp_ireturn (pc := 5) dX5_parts_5 rfl ?_
  exact aq_i rfl hR
set_option maxHeartbeats 16000000 in
theorem sp_X5_part {x : Int32} (hR : RepC t w h last b ps f z I J) : CALL ΩC (d + 4) kX5_part [.ref 0, .int x] I J (AQ (aPart w h b x) (t, (w, h, last), b, ps, f, z)) := by
  have hwh := RepC_16 hR
  have hF := hR.2.2.1
  have hb := hR.2.2.2.1.1
  have e7 : I 12 7 = nI (mset (ded b.1)) := hb.1 7 (by omega) (by omega)
  have hm := mset_lt (ded b.1)
  cases hx : inB x (w * h)
  · have e : aPart w h b x = -1 := if_neg (by rw [hx]; exact Bool.false_ne_true)
    rw [e]
    refine call_of_wp (by decide) (Nat.le_of_ble_eq_true rfl) ?_
    refine wp_aload_n (pc := 0) (i := 0) dX5_part_0 rfl rfl (by first | with_reducible assumption | rfl) ?_
    refine wp_iload_n (pc := 1) (i := 1) dX5_part_1 rfl rfl ?_
    refine wp_cVP1 (pc := 2) (ci := 5) dX5_part_2 lm_X5_105 m_X5_isCell (by first | with_reducible assumption | rfl) (by first | with_reducible assumption | rfl) (by decide) rfl (Nat.le_of_ble_eq_true rfl) (sp_X5_isCell hF) ?_
    rw [hx]
    refine wp_if_neB (pc := 5) (tgt := 10) dX5_part_5 (by decide) (fun c_5 => ?_) (fun c_5 => ?_)
    · exact Bool.noConfusion c_5
    · refine wp_iconst (pc := 8) (v := (-1)) dX5_part_8 (by decide +kernel) ?_
      refine wp_ireturn (pc := 9) dX5_part_9 rfl ?_
      exact aq_i rfl hR
  · obtain ⟨c, hc, rfl⟩ := inB_t (by omega) hx
    have hc16 : c < 16 := by omega
    have e : aPart w h b (nI c) = if ded b.1 c = true then -9 else nI (pao w h (opn w h b.1) (fun i => decide (i = c))) := by unfold aPart; rw [if_pos hx, cI_n (by omega)]
    have hbit := mset_bit' (ded b.1) hc16
    rw [e]
    refine call_of_wp (by decide) (Nat.le_of_ble_eq_true rfl) ?_
    refine wp_aload_n (pc := 0) (i := 0) dX5_part_0 rfl rfl (by first | with_reducible assumption | rfl) ?_
    refine wp_iload_n (pc := 1) (i := 1) dX5_part_1 rfl rfl ?_
    refine wp_cVP1 (pc := 2) (ci := 5) dX5_part_2 lm_X5_105 m_X5_isCell (by first | with_reducible assumption | rfl) (by first | with_reducible assumption | rfl) (by decide) rfl (Nat.le_of_ble_eq_true rfl) (sp_X5_isCell hF) ?_
    rw [hx]
    refine wp_if_neB (pc := 5) (tgt := 10) dX5_part_5 (by decide) (fun c_5 => ?_) (fun c_5 => ?_)
    · refine wp_aload_n (pc := 10) (i := 0) dX5_part_10 rfl rfl (by first | with_reducible assumption | rfl) ?_
      refine wp_getR (pc := 11) dX5_part_11 lf_X5_32 (by first | with_reducible assumption | rfl) (by first | with_reducible assumption | rfl) rfl (by first | with_reducible assumption | rfl) (by first | with_reducible assumption | rfl) ?_
      refine wp_getI (pc := 14) dX5_part_14 lf_X5_115 (by first | with_reducible assumption | rfl) (by first | with_reducible assumption | rfl) rfl ?_
      rw [e7]
      refine wp_iload_n (pc := 17) (i := 1) dX5_part_17 rfl rfl ?_
      refine wp_cSP2 (pc := 18) dX5_part_18 lm_X5_118 m_X5_has (Nat.le_of_ble_eq_true rfl) (sp_X5_has (by first | with_reducible assumption | omega) (by first | with_reducible assumption | omega)) ?_
      rw [hbit]
      refine wp_if_eqB (pc := 21) (tgt := 29) dX5_part_21 (by decide) (fun c_21 => ?_) (fun c_21 => ?_)
      · refine wp_aload_n (pc := 29) (i := 0) dX5_part_29 rfl rfl (by first | with_reducible assumption | rfl) ?_
        refine wp_iconst (pc := 30) (v := nI 1) dX5_part_30 (by decide +kernel) ?_
        refine wp_iload_n (pc := 31) (i := 1) dX5_part_31 rfl rfl ?_
        first | (refine wp_ishl1 (pc := 32) dX5_part_32 (by first | with_reducible assumption | omega) ?_) | (refine wp_ishlN (pc := 32) dX5_part_32 (by first | with_reducible assumption | omega) (by first | with_reducible assumption | omega) ?_) | (refine wp_ishl (pc := 32) dX5_part_32 ?_)
        rw [mset_one hc16]
        refine wp_cVP1 (pc := 33) (ci := 5) dX5_part_33 lm_X5_183 m_X5_partsAheadOf (by first | with_reducible assumption | rfl) (by first | with_reducible assumption | rfl) (by decide) rfl (Nat.le_of_ble_eq_true rfl) (sp_X5_partsAheadOf hF hb) ?_
        refine wp_ireturn (pc := 36) dX5_part_36 rfl ?_
        first | (have g : ded b.1 c = true := c_21; exact aq_i (by rw [if_pos g]) hR) | (have g : ded b.1 c = false := c_21; exact aq_i (by rw [if_neg (by rw [g]; exact Bool.false_ne_true)]) hR)
      · refine wp_bipush (pc := 24) (v := (-9)) dX5_part_24 (by decide +kernel) ?_
        refine wp_goto (pc := 26) (tgt := 36) dX5_part_26 (by decide) ?_
        refine wp_ireturn (pc := 36) dX5_part_36 rfl ?_
        first | (have g : ded b.1 c = true := c_21; exact aq_i (by rw [if_pos g]) hR) | (have g : ded b.1 c = false := c_21; exact aq_i (by rw [if_neg (by rw [g]; exact Bool.false_ne_true)]) hR)
    · exact Bool.noConfusion c_5
set_option maxHeartbeats 16000000 in
theorem sp_X5_comes {x : Int32} (hR : RepC t w h last b ps f z I J) : CALL ΩC (d + 4) kX5_comes [.ref 0, .int x] I J (AQ (aComes w h b x) (t, (w, h, last), b, ps, f, z)) := by
  have hwh := RepC_16 hR
  have hF := hR.2.2.1
  have hb := hR.2.2.2.1.1
  have hB := hR.2.2.2.1.2
  have e7 : I 12 7 = nI (mset (ded b.1)) := hb.1 7 (by omega) (by omega)
  cases hx : inB x (w * h)
  · have e : aComes w h b x = -1 := if_neg (by rw [hx]; exact Bool.false_ne_true)
    rw [e]
    refine call_of_wp (by decide) (Nat.le_of_ble_eq_true rfl) ?_
    refine wp_aload_n (pc := 0) (i := 0) dX5_comes_0 rfl rfl (by first | with_reducible assumption | rfl) ?_
    refine wp_iload_n (pc := 1) (i := 1) dX5_comes_1 rfl rfl ?_
    refine wp_cVP1 (pc := 2) (ci := 5) dX5_comes_2 lm_X5_105 m_X5_isCell (by first | with_reducible assumption | rfl) (by first | with_reducible assumption | rfl) (by decide) rfl (Nat.le_of_ble_eq_true rfl) (sp_X5_isCell hF) ?_
    rw [hx]
    refine wp_if_eqB (pc := 5) (tgt := 34) dX5_comes_5 (by decide) (fun c_5 => ?_) (fun c_5 => ?_)
    · refine wp_iconst (pc := 34) (v := (-1)) dX5_comes_34 (by decide +kernel) ?_
      refine wp_ireturn (pc := 35) dX5_comes_35 rfl ?_
      exact aq_i rfl hR
    · exact Bool.noConfusion c_5
  · obtain ⟨c, hc, rfl⟩ := inB_t (by omega) hx
    have e : aComes w h b (nI c) = nI (mset (comP w h (b.1 c) (ded b.1) c)) := by unfold aComes; rw [if_pos hx, cI_n (by omega)]
    have hsc := hB.1 c (by omega)
    rw [e]
    refine call_of_wp (by decide) (Nat.le_of_ble_eq_true rfl) ?_
    refine wp_aload_n (pc := 0) (i := 0) dX5_comes_0 rfl rfl (by first | with_reducible assumption | rfl) ?_
    refine wp_iload_n (pc := 1) (i := 1) dX5_comes_1 rfl rfl ?_
    refine wp_cVP1 (pc := 2) (ci := 5) dX5_comes_2 lm_X5_105 m_X5_isCell (by first | with_reducible assumption | rfl) (by first | with_reducible assumption | rfl) (by decide) rfl (Nat.le_of_ble_eq_true rfl) (sp_X5_isCell hF) ?_
    rw [hx]
    refine wp_if_eqB (pc := 5) (tgt := 34) dX5_comes_5 (by decide) (fun c_5 => ?_) (fun c_5 => ?_)
    · exact Bool.noConfusion c_5
    · refine wp_aload_n (pc := 8) (i := 0) dX5_comes_8 rfl rfl (by first | with_reducible assumption | rfl) ?_
      refine wp_getR (pc := 9) dX5_comes_9 lf_X5_19 (by first | with_reducible assumption | rfl) (by first | with_reducible assumption | rfl) rfl (by first | with_reducible assumption | rfl) (by first | with_reducible assumption | rfl) ?_
      refine wp_aload_n (pc := 12) (i := 0) dX5_comes_12 rfl rfl (by first | with_reducible assumption | rfl) ?_
      refine wp_getR (pc := 13) dX5_comes_13 lf_X5_32 (by first | with_reducible assumption | rfl) (by first | with_reducible assumption | rfl) rfl (by first | with_reducible assumption | rfl) (by first | with_reducible assumption | rfl) ?_
      refine wp_iload_n (pc := 16) (i := 1) dX5_comes_16 rfl rfl ?_
      refine wp_cVP1 (pc := 17) (ci := 2) dX5_comes_17 lm_X5_109 m_X2_sign (by first | with_reducible assumption | rfl) (by first | with_reducible assumption | rfl) (by decide) rfl (Nat.le_of_ble_eq_true rfl) (sp_X2_sign isP12 hb hB.1 (by omega)) ?_
      refine wp_iload_n (pc := 20) (i := 1) dX5_comes_20 rfl rfl ?_
      refine wp_aload_n (pc := 21) (i := 0) dX5_comes_21 rfl rfl (by first | with_reducible assumption | rfl) ?_
      refine wp_getR (pc := 22) dX5_comes_22 lf_X5_32 (by first | with_reducible assumption | rfl) (by first | with_reducible assumption | rfl) rfl (by first | with_reducible assumption | rfl) (by first | with_reducible assumption | rfl) ?_
      refine wp_getI (pc := 25) dX5_comes_25 lf_X5_115 (by first | with_reducible assumption | rfl) (by first | with_reducible assumption | rfl) rfl ?_
      rw [e7]
      refine wp_cVP3 (pc := 28) (ci := 0) dX5_comes_28 lm_X5_186 m_X0_coming (by first | with_reducible assumption | rfl) (by first | with_reducible assumption | rfl) (by decide) rfl (Nat.le_of_ble_eq_true rfl) (sp_X0_coming hF hsc hc) ?_
      refine wp_goto (pc := 31) (tgt := 35) dX5_comes_31 (by decide) ?_
      refine wp_ireturn (pc := 35) dX5_comes_35 rfl ?_
      exact aq_i rfl hR
set_option maxHeartbeats 16000000 in
theorem sp_X5_comesAt {x y : Int32} (hR : RepC t w h last b ps f z I J) : CALL ΩC (d + 6) kX5_comesAt [.ref 0, .int x, .int y] I J (AQ (aComesAt w h b x y) (t, (w, h, last), b, ps, f, z)) := by
  have hwh := RepC_16 hR
  have hF := hR.2.2.1
  have hb := hR.2.2.2.1.1
  have hB := hR.2.2.2.1.2
  cases hx : inB x (w * h)
  · have e : aComesAt w h b x y = -1 := if_neg (by rw [hx]; exact Bool.false_ne_true)
    rw [e]
    refine call_of_wp (by decide) (Nat.le_of_ble_eq_true rfl) ?_
    refine wp_aload_n (pc := 0) (i := 0) dX5_comesAt_0 rfl rfl (by first | with_reducible assumption | rfl) ?_
    refine wp_iload_n (pc := 1) (i := 1) dX5_comesAt_1 rfl rfl ?_
    refine wp_cVP1 (pc := 2) (ci := 5) dX5_comesAt_2 lm_X5_105 m_X5_isCell (by first | with_reducible assumption | rfl) (by first | with_reducible assumption | rfl) (by decide) rfl (Nat.le_of_ble_eq_true rfl) (sp_X5_isCell hF) ?_
    rw [hx]
    refine wp_if_eqB (pc := 5) (tgt := 16) dX5_comesAt_5 (by decide) (fun c_5 => ?_) (fun c_5 => ?_)
    · refine wp_iconst (pc := 16) (v := (-1)) dX5_comesAt_16 (by decide +kernel) ?_
      refine wp_ireturn (pc := 17) dX5_comesAt_17 rfl ?_
      exact aq_i rfl hR
    · exact Bool.noConfusion c_5
  · cases hy : inB y (w * h)
    · have e : aComesAt w h b x y = -1 := if_neg (by rw [hx, hy]; exact Bool.false_ne_true)
      rw [e]
      refine call_of_wp (by decide) (Nat.le_of_ble_eq_true rfl) ?_
      refine wp_aload_n (pc := 0) (i := 0) dX5_comesAt_0 rfl rfl (by first | with_reducible assumption | rfl) ?_
      refine wp_iload_n (pc := 1) (i := 1) dX5_comesAt_1 rfl rfl ?_
      refine wp_cVP1 (pc := 2) (ci := 5) dX5_comesAt_2 lm_X5_105 m_X5_isCell (by first | with_reducible assumption | rfl) (by first | with_reducible assumption | rfl) (by decide) rfl (Nat.le_of_ble_eq_true rfl) (sp_X5_isCell hF) ?_
      rw [hx]
      refine wp_if_eqB (pc := 5) (tgt := 16) dX5_comesAt_5 (by decide) (fun c_5 => ?_) (fun c_5 => ?_)
      · exact Bool.noConfusion c_5
      · refine wp_aload_n (pc := 8) (i := 0) dX5_comesAt_8 rfl rfl (by first | with_reducible assumption | rfl) ?_
        refine wp_iload_n (pc := 9) (i := 2) dX5_comesAt_9 rfl rfl ?_
        refine wp_cVP1 (pc := 10) (ci := 5) dX5_comesAt_10 lm_X5_105 m_X5_isCell (by first | with_reducible assumption | rfl) (by first | with_reducible assumption | rfl) (by decide) rfl (Nat.le_of_ble_eq_true rfl) (sp_X5_isCell hF) ?_
        rw [hy]
        refine wp_if_neB (pc := 13) (tgt := 18) dX5_comesAt_13 (by decide) (fun c_13 => ?_) (fun c_13 => ?_)
        · exact Bool.noConfusion c_13
        · refine wp_iconst (pc := 16) (v := (-1)) dX5_comesAt_16 (by decide +kernel) ?_
          refine wp_ireturn (pc := 17) dX5_comesAt_17 rfl ?_
          exact aq_i rfl hR
    · obtain ⟨c, hc, rfl⟩ := inB_t (by omega) hx
      obtain ⟨c2, hc2, rfl⟩ := inB_t (by omega) hy
      have hc16 : c < 16 := by omega
      have hd16 : c2 < 16 := by omega
      have eA : aComesAt w h b (nI c) (nI c2) = if 2 ≤ b.1 c ∧ menP b.1 (1 - sd (b.1 c)) c2 = true then bI (ccB w h b.1 (fun i => decide (i = c)) (fun i => decide (i = c2))) else -3 := by
        unfold aComesAt
        rw [if_pos (by rw [hx, hy]; rfl), cI_n (by omega), cI_n (by omega)]
      have hsc := hB.1 c hc16
      have hsd := sd_lt (b.1 c)
      by_cases h2 : b.1 c < 2
      · have e : aComesAt w h b (nI c) (nI c2) = -3 := by rw [eA, if_neg (fun k => absurd k.1 (by omega))]
        have e9 : sdI (b.1 c) = -9 := by unfold sdI; rw [if_pos h2]
        rw [e]
        refine call_of_wp (by decide) (Nat.le_of_ble_eq_true rfl) ?_
        refine wp_aload_n (pc := 0) (i := 0) dX5_comesAt_0 rfl rfl (by first | with_reducible assumption | rfl) ?_
        refine wp_iload_n (pc := 1) (i := 1) dX5_comesAt_1 rfl rfl ?_
        refine wp_cVP1 (pc := 2) (ci := 5) dX5_comesAt_2 lm_X5_105 m_X5_isCell (by first | with_reducible assumption | rfl) (by first | with_reducible assumption | rfl) (by decide) rfl (Nat.le_of_ble_eq_true rfl) (sp_X5_isCell hF) ?_
        rw [hx]
        refine wp_if_eqB (pc := 5) (tgt := 16) dX5_comesAt_5 (by decide) (fun c_5 => ?_) (fun c_5 => ?_)
        · exact Bool.noConfusion c_5
        · refine wp_aload_n (pc := 8) (i := 0) dX5_comesAt_8 rfl rfl (by first | with_reducible assumption | rfl) ?_
          refine wp_iload_n (pc := 9) (i := 2) dX5_comesAt_9 rfl rfl ?_
          refine wp_cVP1 (pc := 10) (ci := 5) dX5_comesAt_10 lm_X5_105 m_X5_isCell (by first | with_reducible assumption | rfl) (by first | with_reducible assumption | rfl) (by decide) rfl (Nat.le_of_ble_eq_true rfl) (sp_X5_isCell hF) ?_
          rw [hy]
          refine wp_if_neB (pc := 13) (tgt := 18) dX5_comesAt_13 (by decide) (fun c_13 => ?_) (fun c_13 => ?_)
          · refine wp_aload_n (pc := 18) (i := 0) dX5_comesAt_18 rfl rfl (by first | with_reducible assumption | rfl) ?_
            refine wp_getR (pc := 19) dX5_comesAt_19 lf_X5_32 (by first | with_reducible assumption | rfl) (by first | with_reducible assumption | rfl) rfl (by first | with_reducible assumption | rfl) (by first | with_reducible assumption | rfl) ?_
            refine wp_iload_n (pc := 22) (i := 1) dX5_comesAt_22 rfl rfl ?_
            refine wp_cVP1 (pc := 23) (ci := 2) dX5_comesAt_23 lm_X5_109 m_X2_sign (by first | with_reducible assumption | rfl) (by first | with_reducible assumption | rfl) (by decide) rfl (Nat.le_of_ble_eq_true rfl) (sp_X2_sign isP12 hb hB.1 hc16) ?_
            refine wp_cSP1 (pc := 26) dX5_comesAt_26 lm_X5_189 m_X5_sideOf (Nat.le_of_ble_eq_true rfl) (sp_X5_sideOf (by first | with_reducible assumption | omega)) ?_
            rw [e9]
            refine wp_istore_n (pc := 29) (i := 3) dX5_comesAt_29 rfl (by decide) ?_
            refine wp_iload_n (pc := 30) (i := 3) dX5_comesAt_30 rfl rfl ?_
            refine wp_bipush (pc := 31) (v := (-9)) dX5_comesAt_31 (by decide +kernel) ?_
            refine wp_icmp_eq (pc := 33) (tgt := 53) dX5_comesAt_33 (by decide) (fun c_33 => ?_) (fun c_33 => ?_)
            · refine wp_bipush (pc := 53) (v := (-3)) dX5_comesAt_53 (by decide +kernel) ?_
              refine wp_ireturn (pc := 55) dX5_comesAt_55 rfl ?_
              exact aq_i rfl hR
            · exact absurd rfl c_33
          · exact Bool.noConfusion c_13
      · have e9 : sdI (b.1 c) = nI (sd (b.1 c)) := sd_i _ hsc (by omega)
        have hne : ¬ nI (sd (b.1 c)) = -9 := nine_ne hsd
        have hm := mset_lt (menP b.1 (1 - sd (b.1 c)))
        have hbit := mset_bit' (menP b.1 (1 - sd (b.1 c))) hd16
        cases hM : menP b.1 (1 - sd (b.1 c)) c2
        · have e : aComesAt w h b (nI c) (nI c2) = -3 := by rw [eA, if_neg (fun k => by rw [hM] at k; exact Bool.false_ne_true k.2)]
          rw [e]
          refine call_of_wp (by decide) (Nat.le_of_ble_eq_true rfl) ?_
          refine wp_aload_n (pc := 0) (i := 0) dX5_comesAt_0 rfl rfl (by first | with_reducible assumption | rfl) ?_
          refine wp_iload_n (pc := 1) (i := 1) dX5_comesAt_1 rfl rfl ?_
          refine wp_cVP1 (pc := 2) (ci := 5) dX5_comesAt_2 lm_X5_105 m_X5_isCell (by first | with_reducible assumption | rfl) (by first | with_reducible assumption | rfl) (by decide) rfl (Nat.le_of_ble_eq_true rfl) (sp_X5_isCell hF) ?_
          rw [hx]
          refine wp_if_eqB (pc := 5) (tgt := 16) dX5_comesAt_5 (by decide) (fun c_5 => ?_) (fun c_5 => ?_)
          · exact Bool.noConfusion c_5
          · refine wp_aload_n (pc := 8) (i := 0) dX5_comesAt_8 rfl rfl (by first | with_reducible assumption | rfl) ?_
            refine wp_iload_n (pc := 9) (i := 2) dX5_comesAt_9 rfl rfl ?_
            refine wp_cVP1 (pc := 10) (ci := 5) dX5_comesAt_10 lm_X5_105 m_X5_isCell (by first | with_reducible assumption | rfl) (by first | with_reducible assumption | rfl) (by decide) rfl (Nat.le_of_ble_eq_true rfl) (sp_X5_isCell hF) ?_
            rw [hy]
            refine wp_if_neB (pc := 13) (tgt := 18) dX5_comesAt_13 (by decide) (fun c_13 => ?_) (fun c_13 => ?_)
            · refine wp_aload_n (pc := 18) (i := 0) dX5_comesAt_18 rfl rfl (by first | with_reducible assumption | rfl) ?_
              refine wp_getR (pc := 19) dX5_comesAt_19 lf_X5_32 (by first | with_reducible assumption | rfl) (by first | with_reducible assumption | rfl) rfl (by first | with_reducible assumption | rfl) (by first | with_reducible assumption | rfl) ?_
              refine wp_iload_n (pc := 22) (i := 1) dX5_comesAt_22 rfl rfl ?_
              refine wp_cVP1 (pc := 23) (ci := 2) dX5_comesAt_23 lm_X5_109 m_X2_sign (by first | with_reducible assumption | rfl) (by first | with_reducible assumption | rfl) (by decide) rfl (Nat.le_of_ble_eq_true rfl) (sp_X2_sign isP12 hb hB.1 hc16) ?_
              refine wp_cSP1 (pc := 26) dX5_comesAt_26 lm_X5_189 m_X5_sideOf (Nat.le_of_ble_eq_true rfl) (sp_X5_sideOf (by first | with_reducible assumption | omega)) ?_
              rw [e9]
              refine wp_istore_n (pc := 29) (i := 3) dX5_comesAt_29 rfl (by decide) ?_
              refine wp_iload_n (pc := 30) (i := 3) dX5_comesAt_30 rfl rfl ?_
              refine wp_bipush (pc := 31) (v := (-9)) dX5_comesAt_31 (by decide +kernel) ?_
              refine wp_icmp_eq (pc := 33) (tgt := 53) dX5_comesAt_33 (by decide) (fun c_33 => ?_) (fun c_33 => ?_)
              · exact absurd c_33 hne
              · refine wp_aload_n (pc := 36) (i := 0) dX5_comesAt_36 rfl rfl (by first | with_reducible assumption | rfl) ?_
                refine wp_getR (pc := 37) dX5_comesAt_37 lf_X5_32 (by first | with_reducible assumption | rfl) (by first | with_reducible assumption | rfl) rfl (by first | with_reducible assumption | rfl) (by first | with_reducible assumption | rfl) ?_
                refine wp_iconst (pc := 40) (v := nI 1) dX5_comesAt_40 (by decide +kernel) ?_
                refine wp_iload_n (pc := 41) (i := 3) dX5_comesAt_41 rfl rfl ?_
                first | (refine wp_isubN (pc := 42) dX5_comesAt_42 (by first | with_reducible assumption | omega) ?_) | (refine wp_isub (pc := 42) dX5_comesAt_42 ?_)
                refine wp_cVP1 (pc := 43) (ci := 2) dX5_comesAt_43 lm_X5_176 m_X2_men (by first | with_reducible assumption | rfl) (by first | with_reducible assumption | rfl) (by decide) rfl (Nat.le_of_ble_eq_true rfl) (sp_X2_men isP12 hb (by omega)) ?_
                refine wp_iload_n (pc := 46) (i := 2) dX5_comesAt_46 rfl rfl ?_
                refine wp_cSP2 (pc := 47) dX5_comesAt_47 lm_X5_118 m_X5_has (Nat.le_of_ble_eq_true rfl) (sp_X5_has (by first | with_reducible assumption | omega) (by first | with_reducible assumption | omega)) ?_
                rw [hbit, hM]
                refine wp_if_neB (pc := 50) (tgt := 56) dX5_comesAt_50 (by decide) (fun c_50 => ?_) (fun c_50 => ?_)
                · exact Bool.noConfusion c_50
                · refine wp_bipush (pc := 53) (v := (-3)) dX5_comesAt_53 (by decide +kernel) ?_
                  refine wp_ireturn (pc := 55) dX5_comesAt_55 rfl ?_
                  exact aq_i rfl hR
            · exact Bool.noConfusion c_13
        · have e : aComesAt w h b (nI c) (nI c2) = bI (ccB w h b.1 (fun i => decide (i = c)) (fun i => decide (i = c2))) := by rw [eA, if_pos ⟨by omega, hM⟩]
          have hcc := sp_X5_canComeAt (d := d) (A := fun i => decide (i = c)) (B := fun i => decide (i = c2)) hF hb hB
          rw [e]
          cases hv : ccB w h b.1 (fun i => decide (i = c)) (fun i => decide (i = c2))
          · rw [hv] at hcc
            refine call_of_wp (by decide) (Nat.le_of_ble_eq_true rfl) ?_
            refine wp_aload_n (pc := 0) (i := 0) dX5_comesAt_0 rfl rfl (by first | with_reducible assumption | rfl) ?_
            refine wp_iload_n (pc := 1) (i := 1) dX5_comesAt_1 rfl rfl ?_
            refine wp_cVP1 (pc := 2) (ci := 5) dX5_comesAt_2 lm_X5_105 m_X5_isCell (by first | with_reducible assumption | rfl) (by first | with_reducible assumption | rfl) (by decide) rfl (Nat.le_of_ble_eq_true rfl) (sp_X5_isCell hF) ?_
            rw [hx]
            refine wp_if_eqB (pc := 5) (tgt := 16) dX5_comesAt_5 (by decide) (fun c_5 => ?_) (fun c_5 => ?_)
            · exact Bool.noConfusion c_5
            · refine wp_aload_n (pc := 8) (i := 0) dX5_comesAt_8 rfl rfl (by first | with_reducible assumption | rfl) ?_
              refine wp_iload_n (pc := 9) (i := 2) dX5_comesAt_9 rfl rfl ?_
              refine wp_cVP1 (pc := 10) (ci := 5) dX5_comesAt_10 lm_X5_105 m_X5_isCell (by first | with_reducible assumption | rfl) (by first | with_reducible assumption | rfl) (by decide) rfl (Nat.le_of_ble_eq_true rfl) (sp_X5_isCell hF) ?_
              rw [hy]
              refine wp_if_neB (pc := 13) (tgt := 18) dX5_comesAt_13 (by decide) (fun c_13 => ?_) (fun c_13 => ?_)
              · refine wp_aload_n (pc := 18) (i := 0) dX5_comesAt_18 rfl rfl (by first | with_reducible assumption | rfl) ?_
                refine wp_getR (pc := 19) dX5_comesAt_19 lf_X5_32 (by first | with_reducible assumption | rfl) (by first | with_reducible assumption | rfl) rfl (by first | with_reducible assumption | rfl) (by first | with_reducible assumption | rfl) ?_
                refine wp_iload_n (pc := 22) (i := 1) dX5_comesAt_22 rfl rfl ?_
                refine wp_cVP1 (pc := 23) (ci := 2) dX5_comesAt_23 lm_X5_109 m_X2_sign (by first | with_reducible assumption | rfl) (by first | with_reducible assumption | rfl) (by decide) rfl (Nat.le_of_ble_eq_true rfl) (sp_X2_sign isP12 hb hB.1 hc16) ?_
                refine wp_cSP1 (pc := 26) dX5_comesAt_26 lm_X5_189 m_X5_sideOf (Nat.le_of_ble_eq_true rfl) (sp_X5_sideOf (by first | with_reducible assumption | omega)) ?_
                rw [e9]
                refine wp_istore_n (pc := 29) (i := 3) dX5_comesAt_29 rfl (by decide) ?_
                refine wp_iload_n (pc := 30) (i := 3) dX5_comesAt_30 rfl rfl ?_
                refine wp_bipush (pc := 31) (v := (-9)) dX5_comesAt_31 (by decide +kernel) ?_
                refine wp_icmp_eq (pc := 33) (tgt := 53) dX5_comesAt_33 (by decide) (fun c_33 => ?_) (fun c_33 => ?_)
                · exact absurd c_33 hne
                · refine wp_aload_n (pc := 36) (i := 0) dX5_comesAt_36 rfl rfl (by first | with_reducible assumption | rfl) ?_
                  refine wp_getR (pc := 37) dX5_comesAt_37 lf_X5_32 (by first | with_reducible assumption | rfl) (by first | with_reducible assumption | rfl) rfl (by first | with_reducible assumption | rfl) (by first | with_reducible assumption | rfl) ?_
                  refine wp_iconst (pc := 40) (v := nI 1) dX5_comesAt_40 (by decide +kernel) ?_
                  refine wp_iload_n (pc := 41) (i := 3) dX5_comesAt_41 rfl rfl ?_
                  first | (refine wp_isubN (pc := 42) dX5_comesAt_42 (by first | with_reducible assumption | omega) ?_) | (refine wp_isub (pc := 42) dX5_comesAt_42 ?_)
                  refine wp_cVP1 (pc := 43) (ci := 2) dX5_comesAt_43 lm_X5_176 m_X2_men (by first | with_reducible assumption | rfl) (by first | with_reducible assumption | rfl) (by decide) rfl (Nat.le_of_ble_eq_true rfl) (sp_X2_men isP12 hb (by omega)) ?_
                  refine wp_iload_n (pc := 46) (i := 2) dX5_comesAt_46 rfl rfl ?_
                  refine wp_cSP2 (pc := 47) dX5_comesAt_47 lm_X5_118 m_X5_has (Nat.le_of_ble_eq_true rfl) (sp_X5_has (by first | with_reducible assumption | omega) (by first | with_reducible assumption | omega)) ?_
                  rw [hbit, hM]
                  refine wp_if_neB (pc := 50) (tgt := 56) dX5_comesAt_50 (by decide) (fun c_50 => ?_) (fun c_50 => ?_)
                  · refine wp_aload_n (pc := 56) (i := 0) dX5_comesAt_56 rfl rfl (by first | with_reducible assumption | rfl) ?_
                    refine wp_iconst (pc := 57) (v := nI 1) dX5_comesAt_57 (by decide +kernel) ?_
                    refine wp_iload_n (pc := 58) (i := 1) dX5_comesAt_58 rfl rfl ?_
                    first | (refine wp_ishl1 (pc := 59) dX5_comesAt_59 (by first | with_reducible assumption | omega) ?_) | (refine wp_ishlN (pc := 59) dX5_comesAt_59 (by first | with_reducible assumption | omega) (by first | with_reducible assumption | omega) ?_) | (refine wp_ishl (pc := 59) dX5_comesAt_59 ?_)
                    rw [mset_one hc16]
                    refine wp_iconst (pc := 60) (v := nI 1) dX5_comesAt_60 (by decide +kernel) ?_
                    refine wp_iload_n (pc := 61) (i := 2) dX5_comesAt_61 rfl rfl ?_
                    first | (refine wp_ishl1 (pc := 62) dX5_comesAt_62 (by first | with_reducible assumption | omega) ?_) | (refine wp_ishlN (pc := 62) dX5_comesAt_62 (by first | with_reducible assumption | omega) (by first | with_reducible assumption | omega) ?_) | (refine wp_ishl (pc := 62) dX5_comesAt_62 ?_)
                    rw [mset_one hd16]
                    refine wp_cVP2 (pc := 63) (ci := 5) dX5_comesAt_63 lm_X5_192 m_X5_canComeAt (by first | with_reducible assumption | rfl) (by first | with_reducible assumption | rfl) (by decide) rfl (Nat.le_of_ble_eq_true rfl) hcc ?_
                    refine wp_if_eqB (pc := 66) (tgt := 73) dX5_comesAt_66 (by decide) (fun c_66 => ?_) (fun c_66 => ?_)
                    · refine wp_iconst (pc := 73) (v := nI 0) dX5_comesAt_73 (by decide +kernel) ?_
                      refine wp_ireturn (pc := 74) dX5_comesAt_74 rfl ?_
                      exact aq_i rfl hR
                    · exact Bool.noConfusion c_66
                  · exact Bool.noConfusion c_50
              · exact Bool.noConfusion c_13
          · rw [hv] at hcc
            refine call_of_wp (by decide) (Nat.le_of_ble_eq_true rfl) ?_
            refine wp_aload_n (pc := 0) (i := 0) dX5_comesAt_0 rfl rfl (by first | with_reducible assumption | rfl) ?_
            refine wp_iload_n (pc := 1) (i := 1) dX5_comesAt_1 rfl rfl ?_
            refine wp_cVP1 (pc := 2) (ci := 5) dX5_comesAt_2 lm_X5_105 m_X5_isCell (by first | with_reducible assumption | rfl) (by first | with_reducible assumption | rfl) (by decide) rfl (Nat.le_of_ble_eq_true rfl) (sp_X5_isCell hF) ?_
            rw [hx]
            refine wp_if_eqB (pc := 5) (tgt := 16) dX5_comesAt_5 (by decide) (fun c_5 => ?_) (fun c_5 => ?_)
            · exact Bool.noConfusion c_5
            · refine wp_aload_n (pc := 8) (i := 0) dX5_comesAt_8 rfl rfl (by first | with_reducible assumption | rfl) ?_
              refine wp_iload_n (pc := 9) (i := 2) dX5_comesAt_9 rfl rfl ?_
              refine wp_cVP1 (pc := 10) (ci := 5) dX5_comesAt_10 lm_X5_105 m_X5_isCell (by first | with_reducible assumption | rfl) (by first | with_reducible assumption | rfl) (by decide) rfl (Nat.le_of_ble_eq_true rfl) (sp_X5_isCell hF) ?_
              rw [hy]
              refine wp_if_neB (pc := 13) (tgt := 18) dX5_comesAt_13 (by decide) (fun c_13 => ?_) (fun c_13 => ?_)
              · refine wp_aload_n (pc := 18) (i := 0) dX5_comesAt_18 rfl rfl (by first | with_reducible assumption | rfl) ?_
                refine wp_getR (pc := 19) dX5_comesAt_19 lf_X5_32 (by first | with_reducible assumption | rfl) (by first | with_reducible assumption | rfl) rfl (by first | with_reducible assumption | rfl) (by first | with_reducible assumption | rfl) ?_
                refine wp_iload_n (pc := 22) (i := 1) dX5_comesAt_22 rfl rfl ?_
                refine wp_cVP1 (pc := 23) (ci := 2) dX5_comesAt_23 lm_X5_109 m_X2_sign (by first | with_reducible assumption | rfl) (by first | with_reducible assumption | rfl) (by decide) rfl (Nat.le_of_ble_eq_true rfl) (sp_X2_sign isP12 hb hB.1 hc16) ?_
                refine wp_cSP1 (pc := 26) dX5_comesAt_26 lm_X5_189 m_X5_sideOf (Nat.le_of_ble_eq_true rfl) (sp_X5_sideOf (by first | with_reducible assumption | omega)) ?_
                rw [e9]
                refine wp_istore_n (pc := 29) (i := 3) dX5_comesAt_29 rfl (by decide) ?_
                refine wp_iload_n (pc := 30) (i := 3) dX5_comesAt_30 rfl rfl ?_
                refine wp_bipush (pc := 31) (v := (-9)) dX5_comesAt_31 (by decide +kernel) ?_
                refine wp_icmp_eq (pc := 33) (tgt := 53) dX5_comesAt_33 (by decide) (fun c_33 => ?_) (fun c_33 => ?_)
                · exact absurd c_33 hne
                · refine wp_aload_n (pc := 36) (i := 0) dX5_comesAt_36 rfl rfl (by first | with_reducible assumption | rfl) ?_
                  refine wp_getR (pc := 37) dX5_comesAt_37 lf_X5_32 (by first | with_reducible assumption | rfl) (by first | with_reducible assumption | rfl) rfl (by first | with_reducible assumption | rfl) (by first | with_reducible assumption | rfl) ?_
                  refine wp_iconst (pc := 40) (v := nI 1) dX5_comesAt_40 (by decide +kernel) ?_
                  refine wp_iload_n (pc := 41) (i := 3) dX5_comesAt_41 rfl rfl ?_
                  first | (refine wp_isubN (pc := 42) dX5_comesAt_42 (by first | with_reducible assumption | omega) ?_) | (refine wp_isub (pc := 42) dX5_comesAt_42 ?_)
                  refine wp_cVP1 (pc := 43) (ci := 2) dX5_comesAt_43 lm_X5_176 m_X2_men (by first | with_reducible assumption | rfl) (by first | with_reducible assumption | rfl) (by decide) rfl (Nat.le_of_ble_eq_true rfl) (sp_X2_men isP12 hb (by omega)) ?_
                  refine wp_iload_n (pc := 46) (i := 2) dX5_comesAt_46 rfl rfl ?_
                  refine wp_cSP2 (pc := 47) dX5_comesAt_47 lm_X5_118 m_X5_has (Nat.le_of_ble_eq_true rfl) (sp_X5_has (by first | with_reducible assumption | omega) (by first | with_reducible assumption | omega)) ?_
                  rw [hbit, hM]
                  refine wp_if_neB (pc := 50) (tgt := 56) dX5_comesAt_50 (by decide) (fun c_50 => ?_) (fun c_50 => ?_)
                  · refine wp_aload_n (pc := 56) (i := 0) dX5_comesAt_56 rfl rfl (by first | with_reducible assumption | rfl) ?_
                    refine wp_iconst (pc := 57) (v := nI 1) dX5_comesAt_57 (by decide +kernel) ?_
                    refine wp_iload_n (pc := 58) (i := 1) dX5_comesAt_58 rfl rfl ?_
                    first | (refine wp_ishl1 (pc := 59) dX5_comesAt_59 (by first | with_reducible assumption | omega) ?_) | (refine wp_ishlN (pc := 59) dX5_comesAt_59 (by first | with_reducible assumption | omega) (by first | with_reducible assumption | omega) ?_) | (refine wp_ishl (pc := 59) dX5_comesAt_59 ?_)
                    rw [mset_one hc16]
                    refine wp_iconst (pc := 60) (v := nI 1) dX5_comesAt_60 (by decide +kernel) ?_
                    refine wp_iload_n (pc := 61) (i := 2) dX5_comesAt_61 rfl rfl ?_
                    first | (refine wp_ishl1 (pc := 62) dX5_comesAt_62 (by first | with_reducible assumption | omega) ?_) | (refine wp_ishlN (pc := 62) dX5_comesAt_62 (by first | with_reducible assumption | omega) (by first | with_reducible assumption | omega) ?_) | (refine wp_ishl (pc := 62) dX5_comesAt_62 ?_)
                    rw [mset_one hd16]
                    refine wp_cVP2 (pc := 63) (ci := 5) dX5_comesAt_63 lm_X5_192 m_X5_canComeAt (by first | with_reducible assumption | rfl) (by first | with_reducible assumption | rfl) (by decide) rfl (Nat.le_of_ble_eq_true rfl) hcc ?_
                    refine wp_if_eqB (pc := 66) (tgt := 73) dX5_comesAt_66 (by decide) (fun c_66 => ?_) (fun c_66 => ?_)
                    · exact Bool.noConfusion c_66
                    · refine wp_iconst (pc := 69) (v := nI 1) dX5_comesAt_69 (by decide +kernel) ?_
                      refine wp_goto (pc := 70) (tgt := 74) dX5_comesAt_70 (by decide) ?_
                      refine wp_ireturn (pc := 74) dX5_comesAt_74 rfl ?_
                      exact aq_i rfl hR
                  · exact Bool.noConfusion c_50
              · exact Bool.noConfusion c_13
set_option maxHeartbeats 16000000 in
theorem sp_X5_shut (hR : RepC t w h last b ps f z I J) : CALL ΩC (d + 6) kX5_shut [.ref 0] I J (AQ (aShut w h b) (t, (w, h, last), b, ps, f, z)) := by
  have hF := hR.2.2.1
  have hb := hR.2.2.2.1.1
  have hB := hR.2.2.2.1.2
  have e5 : I 12 5 = nI (mset (wht b.1)) := hb.1 5 (by omega) (by omega)
  have e6 : I 12 6 = nI (mset (blk b.1)) := hb.1 6 (by omega) (by omega)
  have g1 := sp_X5_canComeAt (d := d) (A := wht b.1) (B := blk b.1) hF hb hB
  have g2 := sp_X5_canComeAt (d := d) (A := blk b.1) (B := wht b.1) hF hb hB
  unfold aShut
  generalize ccB w h b.1 (wht b.1) (blk b.1) = v1 at g1 ⊢
  generalize ccB w h b.1 (blk b.1) (wht b.1) = v2 at g2 ⊢
  refine call_of_wp (by decide) (Nat.le_of_ble_eq_true rfl) ?_
  refine wp_aload_n (pc := 0) (i := 0) dX5_shut_0 rfl rfl (by first | with_reducible assumption | rfl) ?_
  refine wp_aload_n (pc := 1) (i := 0) dX5_shut_1 rfl rfl (by first | with_reducible assumption | rfl) ?_
  refine wp_getR (pc := 2) dX5_shut_2 lf_X5_32 (by first | with_reducible assumption | rfl) (by first | with_reducible assumption | rfl) rfl (by first | with_reducible assumption | rfl) (by first | with_reducible assumption | rfl) ?_
  refine wp_getI (pc := 5) dX5_shut_5 lf_X5_195 (by first | with_reducible assumption | rfl) (by first | with_reducible assumption | rfl) rfl ?_
  rw [e5]
  refine wp_aload_n (pc := 8) (i := 0) dX5_shut_8 rfl rfl (by first | with_reducible assumption | rfl) ?_
  refine wp_getR (pc := 9) dX5_shut_9 lf_X5_32 (by first | with_reducible assumption | rfl) (by first | with_reducible assumption | rfl) rfl (by first | with_reducible assumption | rfl) (by first | with_reducible assumption | rfl) ?_
  refine wp_getI (pc := 12) dX5_shut_12 lf_X5_198 (by first | with_reducible assumption | rfl) (by first | with_reducible assumption | rfl) rfl ?_
  rw [e6]
  refine wp_cVP2 (pc := 15) (ci := 5) dX5_shut_15 lm_X5_192 m_X5_canComeAt (by first | with_reducible assumption | rfl) (by first | with_reducible assumption | rfl) (by decide) rfl (Nat.le_of_ble_eq_true rfl) g1 ?_
  refine wp_if_neB (pc := 18) (tgt := 42) dX5_shut_18 (by decide) (fun c_18 => ?_) (fun c_18 => ?_)
  · refine wp_iconst (pc := 42) (v := nI 0) dX5_shut_42 (by decide +kernel) ?_
    refine wp_goto (pc := 43) (tgt := 47) dX5_shut_43 (by decide) ?_
    refine wp_ireturn (pc := 47) dX5_shut_47 rfl ?_
    first | (have k1 : v1 = true := c_18; exact aq_i (by rw [k1]; rfl) hR) | (have k1 : v1 = false := c_18; have k2 : v2 = true := c_39; exact aq_i (by rw [k1, k2]; rfl) hR) | (have k1 : v1 = false := c_18; have k2 : v2 = false := c_39; exact aq_i (by rw [k1, k2]; rfl) hR)
  · refine wp_aload_n (pc := 21) (i := 0) dX5_shut_21 rfl rfl (by first | with_reducible assumption | rfl) ?_
    refine wp_aload_n (pc := 22) (i := 0) dX5_shut_22 rfl rfl (by first | with_reducible assumption | rfl) ?_
    refine wp_getR (pc := 23) dX5_shut_23 lf_X5_32 (by first | with_reducible assumption | rfl) (by first | with_reducible assumption | rfl) rfl (by first | with_reducible assumption | rfl) (by first | with_reducible assumption | rfl) ?_
    refine wp_getI (pc := 26) dX5_shut_26 lf_X5_198 (by first | with_reducible assumption | rfl) (by first | with_reducible assumption | rfl) rfl ?_
    rw [e6]
    refine wp_aload_n (pc := 29) (i := 0) dX5_shut_29 rfl rfl (by first | with_reducible assumption | rfl) ?_
    refine wp_getR (pc := 30) dX5_shut_30 lf_X5_32 (by first | with_reducible assumption | rfl) (by first | with_reducible assumption | rfl) rfl (by first | with_reducible assumption | rfl) (by first | with_reducible assumption | rfl) ?_
    refine wp_getI (pc := 33) dX5_shut_33 lf_X5_195 (by first | with_reducible assumption | rfl) (by first | with_reducible assumption | rfl) rfl ?_
    rw [e5]
    refine wp_cVP2 (pc := 36) (ci := 5) dX5_shut_36 lm_X5_192 m_X5_canComeAt (by first | with_reducible assumption | rfl) (by first | with_reducible assumption | rfl) (by decide) rfl (Nat.le_of_ble_eq_true rfl) g2 ?_
    refine wp_if_eqB (pc := 39) (tgt := 46) dX5_shut_39 (by decide) (fun c_39 => ?_) (fun c_39 => ?_)
    · refine wp_iconst (pc := 46) (v := nI 1) dX5_shut_46 (by decide +kernel) ?_
      refine wp_ireturn (pc := 47) dX5_shut_47 rfl ?_
      first | (have k1 : v1 = true := c_18; exact aq_i (by rw [k1]; rfl) hR) | (have k1 : v1 = false := c_18; have k2 : v2 = true := c_39; exact aq_i (by rw [k1, k2]; rfl) hR) | (have k1 : v1 = false := c_18; have k2 : v2 = false := c_39; exact aq_i (by rw [k1, k2]; rfl) hR)
    · refine wp_iconst (pc := 42) (v := nI 0) dX5_shut_42 (by decide +kernel) ?_
      refine wp_goto (pc := 43) (tgt := 47) dX5_shut_43 (by decide) ?_
      refine wp_ireturn (pc := 47) dX5_shut_47 rfl ?_
      first | (have k1 : v1 = true := c_18; exact aq_i (by rw [k1]; rfl) hR) | (have k1 : v1 = false := c_18; have k2 : v2 = true := c_39; exact aq_i (by rw [k1, k2]; rfl) hR) | (have k1 : v1 = false := c_18; have k2 : v2 = false := c_39; exact aq_i (by rw [k1, k2]; rfl) hR)
set_option maxHeartbeats 16000000 in
theorem sp_X5_seed {v : Int64} (hR : RepC t w h last b ps f z I J) : CALL ΩC d kX5_seed [.ref 0, .long v] I J (AL z (t, (w, h, last), b, ps, f, v)) := by
  obtain ⟨h1, h2, h3, ⟨h4, h5⟩, ⟨h6, h7⟩, ⟨h8, h9⟩, h10, k, h11, h12⟩ := hR
  have e : ∀ a i, ¬ a = 0 → uJ J 0 7 v a i = J a i := fun a i y => by simp [uJ, y]
  have hf : FR (fun a _ => a = 0) I I J (uJ J 0 7 v) := ⟨fun _ _ _ => rfl, fun a i y => e a i y⟩
  refine call_of_wp (by decide) (Nat.le_of_ble_eq_true rfl) ?_
  refine wp_aload_n (pc := 0) (i := 0) dX5_seed_0 rfl rfl (by first | with_reducible assumption | rfl) ?_
  refine wp_getJ (pc := 1) dX5_seed_1 lf_X5_54 (by first | with_reducible assumption | rfl) (by first | with_reducible assumption | rfl) rfl ?_
  rw [h10]
  refine wp_lstore_n (pc := 4) (i := 3) dX5_seed_4 rfl (by decide) ?_
  refine wp_aload_n (pc := 5) (i := 0) dX5_seed_5 rfl rfl (by first | with_reducible assumption | rfl) ?_
  refine wp_lload_n (pc := 6) (i := 1) dX5_seed_6 rfl rfl ?_
  refine wp_putJ (pc := 7) dX5_seed_7 lf_X5_54 (by first | with_reducible assumption | rfl) (by first | with_reducible assumption | rfl) rfl rfl ?_
  refine wp_lload_n (pc := 10) (i := 3) dX5_seed_10 rfl rfl ?_
  refine wp_lreturn (pc := 11) dX5_seed_11 rfl ?_
  exact ⟨rfl, h1, h2, h3, ⟨PL_fr h4 hf (fun i x y => by omega), h5⟩, ⟨PT_n h6 (fun _ _ _ _ => rfl) (fun a i x y => e a i (by omega)), h7⟩, ⟨SL_n h8 (fun _ _ _ _ => rfl) (fun a i x y => e a i (by omega)), h9⟩, by simp [uJ], k, PL_fr h11 hf (fun i x y => by omega), h12⟩
set_option maxHeartbeats 16000000 in
theorem sp_X5_keep {x : Int32} (hR : RepC t w h last b ps f z I J) : CALL ΩC (d + 2) kX5_keep [.ref 0, .int x] I J (AQ (aKeep b x) (sKeep x (t, (w, h, last), b, ps, f, z))) := by
  have hb := hR.2.2.2.1.1
  have hB := hR.2.2.2.1.2
  cases hx : inB x 2
  · have e : aKeep b x = -1 := if_neg (by rw [hx]; exact Bool.false_ne_true)
    have e2 : sKeep x (t, (w, h, last), b, ps, f, z) = (t, (w, h, last), b, ps, f, z) := if_neg (by rw [hx]; exact Bool.false_ne_true)
    rw [e, e2]
    refine call_of_wp (by decide) (Nat.le_of_ble_eq_true rfl) ?_
    refine wp_iload_n (pc := 0) (i := 1) dX5_keep_0 rfl rfl ?_
    refine wp_cSP1 (pc := 1) dX5_keep_1 lm_X5_201 m_X5_isSlot (Nat.le_of_ble_eq_true rfl) sp_X5_isSlot ?_
    rw [hx]
    refine wp_if_neB (pc := 4) (tgt := 9) dX5_keep_4 (by decide) (fun c_4 => ?_) (fun c_4 => ?_)
    · exact Bool.noConfusion c_4
    · refine wp_iconst (pc := 7) (v := (-1)) dX5_keep_7 (by decide +kernel) ?_
      refine wp_ireturn (pc := 8) dX5_keep_8 rfl ?_
      exact aq_i rfl hR
  · obtain ⟨c, hc, rfl⟩ := inB_t (by omega) hx
    have e : aKeep b (nI c) = nI (cnt (fun c => wht b.1 c || blk b.1 c)) := if_pos hx
    have e2 : sKeep (nI c) (t, (w, h, last), b, ps, f, z) = (t, (w, h, last), b, ps, upO f c (some b), z) := by
      have : sKeep (nI c) (t, (w, h, last), b, ps, f, z) = (t, (w, h, last), b, ps, upO f (cI (nI c)) (some b), z) := if_pos hx
      rw [this, cI_n (by omega)]
    have hS : isS 25 2 := Or.inr ⟨rfl, rfl⟩
    obtain ⟨h1, h2, h3, ⟨h4, h5⟩, ⟨h6, h7⟩, ⟨h8, h9⟩, h10, k, h11, h12⟩ := hR
    have hI : ∀ a i, a ≤ 24 → slI 25 c b I a i = I a i := fun a i y => slI_o (by omega)
    have hJ : ∀ a i, a ≤ 24 → slJ 25 c b J a i = J a i := fun a i y => slJ_o (by omega)
    have hf : FR (fun a _ => 25 ≤ a) I (slI 25 c b I) J (slJ 25 c b J) := ⟨fun a i y => hI a i (by omega), fun a i y => hJ a i (by omega)⟩
    have hb2 := PL_fr h4 hf (fun i x y => by omega)
    have hfin : RC (t, (w, h, last), b, ps, upO f c (some b), z) (slI 25 c b I) (slJ 25 c b J) := by
      refine ⟨h1, TX_n h2 (fun a i x y => hI a i (by omega)), Fld_fr h3 hf (fun a i x y => by omega), ⟨hb2, h5⟩, ⟨PT_n h6 (fun a i x y => hI a i y) (fun a i x y => hJ a i y), h7⟩, ⟨SL_put h8, fun i q y => ?_⟩, by rw [hJ 0 7 (by omega)]; exact h10, k, PL_fr h11 hf (fun i x y => by omega), h12⟩
      have y' : (if i = c then some b else f i) = some q := y
      split at y'
      · cases y'; exact h5
      · exact h9 i q y'
    rw [e, e2]
    refine call_of_wp (by decide) (Nat.le_of_ble_eq_true rfl) ?_
    refine wp_iload_n (pc := 0) (i := 1) dX5_keep_0 rfl rfl ?_
    refine wp_cSP1 (pc := 1) dX5_keep_1 lm_X5_201 m_X5_isSlot (Nat.le_of_ble_eq_true rfl) sp_X5_isSlot ?_
    rw [hx]
    refine wp_if_neB (pc := 4) (tgt := 9) dX5_keep_4 (by decide) (fun c_4 => ?_) (fun c_4 => ?_)
    · refine wp_aload_n (pc := 9) (i := 0) dX5_keep_9 rfl rfl (by first | with_reducible assumption | rfl) ?_
      refine wp_getR (pc := 10) dX5_keep_10 lf_X5_50 (by first | with_reducible assumption | rfl) (by first | with_reducible assumption | rfl) rfl (by first | with_reducible assumption | rfl) (by first | with_reducible assumption | rfl) ?_
      refine wp_iload_n (pc := 13) (i := 1) dX5_keep_13 rfl rfl ?_
      refine wp_aload_n (pc := 14) (i := 0) dX5_keep_14 rfl rfl (by first | with_reducible assumption | rfl) ?_
      refine wp_getR (pc := 15) dX5_keep_15 lf_X5_32 (by first | with_reducible assumption | rfl) (by first | with_reducible assumption | rfl) rfl (by first | with_reducible assumption | rfl) (by first | with_reducible assumption | rfl) ?_
      refine wp_cVV2 (pc := 18) (ci := 3) dX5_keep_18 lm_X5_222 m_X3_set (by first | with_reducible assumption | rfl) (by first | with_reducible assumption | rfl) (by decide) rfl (Nat.le_of_ble_eq_true rfl) (sp_X3_set hS hc isP12 hb) (fun I_18 J_18 h_18 => ?_)
      obtain ⟨rfl, rfl⟩ := h_18
      refine wp_aload_n (pc := 21) (i := 0) dX5_keep_21 rfl rfl (by first | with_reducible assumption | rfl) ?_
      refine wp_getR (pc := 22) dX5_keep_22 lf_X5_32 (by first | with_reducible assumption | rfl) (by first | with_reducible assumption | rfl) rfl (by first | with_reducible assumption | rfl) (by first | with_reducible assumption | rfl) ?_
      refine wp_cVP0 (pc := 25) (ci := 2) dX5_keep_25 lm_X5_219 m_X2_menCount (by first | with_reducible assumption | rfl) (by first | with_reducible assumption | rfl) (by decide) rfl (Nat.le_of_ble_eq_true rfl) (sp_X2_menCount isP12 hb2) ?_
      refine wp_ireturn (pc := 28) dX5_keep_28 rfl ?_
      exact aq_i rfl hfin
    · exact Bool.noConfusion c_4
set_option maxHeartbeats 16000000 in
theorem sp_X5_again {x : Int32} (hR : RepC t w h last b ps f z I J) : CALL ΩC (d + 4) kX5_again [.ref 0, .int x] I J (AQ (aAgain f x) (sAgain x (t, (w, h, last), b, ps, f, z))) := by
  have hb := hR.2.2.2.1.1
  have hB := hR.2.2.2.1.2
  have hSl := hR.2.2.2.2.2.1.1
  have hSB := hR.2.2.2.2.2.1.2
  have hS : isS 25 2 := Or.inr ⟨rfl, rfl⟩
  cases hx : inB x 2
  · have e : aAgain f x = -1 := if_neg (by rw [hx]; exact Bool.false_ne_true)
    have e2 : sAgain x (t, (w, h, last), b, ps, f, z) = (t, (w, h, last), b, ps, f, z) := if_neg (by rw [hx]; exact Bool.false_ne_true)
    rw [e, e2]
    refine call_of_wp (by decide) (Nat.le_of_ble_eq_true rfl) ?_
    refine wp_iload_n (pc := 0) (i := 1) dX5_again_0 rfl rfl ?_
    refine wp_cSP1 (pc := 1) dX5_again_1 lm_X5_201 m_X5_isSlot (Nat.le_of_ble_eq_true rfl) sp_X5_isSlot ?_
    rw [hx]
    refine wp_if_neB (pc := 4) (tgt := 9) dX5_again_4 (by decide) (fun c_4 => ?_) (fun c_4 => ?_)
    · exact Bool.noConfusion c_4
    · refine wp_iconst (pc := 7) (v := (-1)) dX5_again_7 (by decide +kernel) ?_
      refine wp_ireturn (pc := 8) dX5_again_8 rfl ?_
      exact aq_i rfl hR
  · obtain ⟨c, hc, rfl⟩ := inB_t (by omega) hx
    have hcc := cI_n (n := c) (by omega)
    have hO : ∀ b, f c = some b → b.2.2.1 < 2 := fun q y => (hSB c q y).2.2.2.1
    have eA : aAgain f (nI c) = match f c with | none => -3 | some q => nI (cnt (fun k => wht q.1 k || blk q.1 k)) := by
      unfold aAgain
      rw [if_pos hx, hcc]
    have eS : sAgain (nI c) (t, (w, h, last), b, ps, f, z) = match f c with | none => (t, (w, h, last), b, ps, f, z) | some q => (t, (w, h, last), q, [], f, z) := by
      unfold sAgain
      rw [if_pos hx, hcc]
    have hh := sp_X3_holds (d := d + 2) hS hc hSl hO
    cases hf : f c with
    | none =>
      have e : aAgain f (nI c) = -3 := by rw [eA, hf]
      have e2 : sAgain (nI c) (t, (w, h, last), b, ps, f, z) = (t, (w, h, last), b, ps, f, z) := by rw [eS, hf]
      rw [hf] at hh
      rw [e, e2]
      refine call_of_wp (by decide) (Nat.le_of_ble_eq_true rfl) ?_
      refine wp_iload_n (pc := 0) (i := 1) dX5_again_0 rfl rfl ?_
      refine wp_cSP1 (pc := 1) dX5_again_1 lm_X5_201 m_X5_isSlot (Nat.le_of_ble_eq_true rfl) sp_X5_isSlot ?_
      rw [hx]
      refine wp_if_neB (pc := 4) (tgt := 9) dX5_again_4 (by decide) (fun c_4 => ?_) (fun c_4 => ?_)
      · refine wp_aload_n (pc := 9) (i := 0) dX5_again_9 rfl rfl (by first | with_reducible assumption | rfl) ?_
        refine wp_getR (pc := 10) dX5_again_10 lf_X5_50 (by first | with_reducible assumption | rfl) (by first | with_reducible assumption | rfl) rfl (by first | with_reducible assumption | rfl) (by first | with_reducible assumption | rfl) ?_
        refine wp_iload_n (pc := 13) (i := 1) dX5_again_13 rfl rfl ?_
        refine wp_cVP1 (pc := 14) (ci := 3) dX5_again_14 lm_X5_204 m_X3_holds (by first | with_reducible assumption | rfl) (by first | with_reducible assumption | rfl) (by decide) rfl (Nat.le_of_ble_eq_true rfl) hh ?_
        refine wp_if_neB (pc := 17) (tgt := 23) dX5_again_17 (by decide) (fun c_17 => ?_) (fun c_17 => ?_)
        · exact Bool.noConfusion c_17
        · refine wp_bipush (pc := 20) (v := (-3)) dX5_again_20 (by decide +kernel) ?_
          refine wp_ireturn (pc := 22) dX5_again_22 rfl ?_
          exact aq_i rfl hR
      · exact Bool.noConfusion c_4
    | some q =>
      have e : aAgain f (nI c) = nI (cnt (fun k => wht q.1 k || blk q.1 k)) := by rw [eA, hf]
      have e2 : sAgain (nI c) (t, (w, h, last), b, ps, f, z) = (t, (w, h, last), q, [], f, z) := by rw [eS, hf]
      have hBq := hSB c q hf
      have hb2 : PL 12 q (uI (uI (wI 12 q I) 19 1 (nI 0)) 19 2 (nI 0)) (wJ 12 q J) := PL_fr PL_w (⟨fun a i y => by
        have : ¬ a = 19 := y
        simp [uI, this], fun _ _ _ => rfl⟩ : FR (fun a _ => a = 19) (wI 12 q I) (uI (uI (wI 12 q I) 19 1 (nI 0)) 19 2 (nI 0)) (wJ 12 q J) (wJ 12 q J)) (fun i x y => by omega)
      obtain ⟨fP, hfP⟩ := PT_sl hR.2.2.2.2.1.1
      have hfin : RC (t, (w, h, last), q, [], f, z) (uI (uI (wI 12 q I) 19 1 (nI 0)) 19 2 (nI 0)) (wJ 12 q J) := by
        refine RepC_bd hR ⟨fun a i y => ?_, fun a i y => wJ_n (by omega)⟩ hb2 hBq (PT_clear (SL_n hfP (fun a i x y => wI_n (by omega)) (fun a i x y => wJ_n (by omega)))) (fun k hk => by cases hk)
        have y1 : ¬ a = 12 := by omega
        have y2 : ¬ a = 19 := by omega
        simp [wI, uI, y1, y2]
      rw [hf] at hh
      rw [e, e2]
      refine call_of_wp (by decide) (Nat.le_of_ble_eq_true rfl) ?_
      refine wp_iload_n (pc := 0) (i := 1) dX5_again_0 rfl rfl ?_
      refine wp_cSP1 (pc := 1) dX5_again_1 lm_X5_201 m_X5_isSlot (Nat.le_of_ble_eq_true rfl) sp_X5_isSlot ?_
      rw [hx]
      refine wp_if_neB (pc := 4) (tgt := 9) dX5_again_4 (by decide) (fun c_4 => ?_) (fun c_4 => ?_)
      · refine wp_aload_n (pc := 9) (i := 0) dX5_again_9 rfl rfl (by first | with_reducible assumption | rfl) ?_
        refine wp_getR (pc := 10) dX5_again_10 lf_X5_50 (by first | with_reducible assumption | rfl) (by first | with_reducible assumption | rfl) rfl (by first | with_reducible assumption | rfl) (by first | with_reducible assumption | rfl) ?_
        refine wp_iload_n (pc := 13) (i := 1) dX5_again_13 rfl rfl ?_
        refine wp_cVP1 (pc := 14) (ci := 3) dX5_again_14 lm_X5_204 m_X3_holds (by first | with_reducible assumption | rfl) (by first | with_reducible assumption | rfl) (by decide) rfl (Nat.le_of_ble_eq_true rfl) hh ?_
        refine wp_if_neB (pc := 17) (tgt := 23) dX5_again_17 (by decide) (fun c_17 => ?_) (fun c_17 => ?_)
        · refine wp_aload_n (pc := 23) (i := 0) dX5_again_23 rfl rfl (by first | with_reducible assumption | rfl) ?_
          refine wp_getR (pc := 24) dX5_again_24 lf_X5_50 (by first | with_reducible assumption | rfl) (by first | with_reducible assumption | rfl) rfl (by first | with_reducible assumption | rfl) (by first | with_reducible assumption | rfl) ?_
          refine wp_iload_n (pc := 27) (i := 1) dX5_again_27 rfl rfl ?_
          refine wp_aload_n (pc := 28) (i := 0) dX5_again_28 rfl rfl (by first | with_reducible assumption | rfl) ?_
          refine wp_getR (pc := 29) dX5_again_29 lf_X5_32 (by first | with_reducible assumption | rfl) (by first | with_reducible assumption | rfl) rfl (by first | with_reducible assumption | rfl) (by first | with_reducible assumption | rfl) ?_
          refine wp_cVV2 (pc := 32) (ci := 3) dX5_again_32 lm_X5_207 m_X3_get (by first | with_reducible assumption | rfl) (by first | with_reducible assumption | rfl) (by decide) rfl (Nat.le_of_ble_eq_true rfl) (sp_X3_get hS hc hSl hf hBq.2.2.2.1 hBq.2.2.2.2.1 hBq.1 isP12 hb hB.1) (fun I_32 J_32 h_32 => ?_)
          obtain ⟨rfl, rfl⟩ := h_32
          refine wp_aload_n (pc := 35) (i := 0) dX5_again_35 rfl rfl (by first | with_reducible assumption | rfl) ?_
          refine wp_getR (pc := 36) dX5_again_36 lf_X5_41 (by first | with_reducible assumption | rfl) (by first | with_reducible assumption | rfl) rfl (by first | with_reducible assumption | rfl) (by first | with_reducible assumption | rfl) ?_
          refine wp_cVV0 (pc := 39) (ci := 1) dX5_again_39 lm_X5_103 m_X1_clear (by first | with_reducible assumption | rfl) (by first | with_reducible assumption | rfl) (by decide) rfl (Nat.le_of_ble_eq_true rfl) sp_X1_clear (fun I_39 J_39 h_39 => ?_)
          obtain ⟨rfl, rfl⟩ := h_39
          refine wp_aload_n (pc := 42) (i := 0) dX5_again_42 rfl rfl (by first | with_reducible assumption | rfl) ?_
          refine wp_getR (pc := 43) dX5_again_43 lf_X5_32 (by first | with_reducible assumption | rfl) (by first | with_reducible assumption | rfl) rfl (by first | with_reducible assumption | rfl) (by first | with_reducible assumption | rfl) ?_
          refine wp_cVP0 (pc := 46) (ci := 2) dX5_again_46 lm_X5_219 m_X2_menCount (by first | with_reducible assumption | rfl) (by first | with_reducible assumption | rfl) (by decide) rfl (Nat.le_of_ble_eq_true rfl) (sp_X2_menCount isP12 hb2) ?_
          refine wp_ireturn (pc := 49) dX5_again_49 rfl ?_
          exact aq_i rfl hfin
        · exact Bool.noConfusion c_17
      · exact Bool.noConfusion c_4
theorem RepC_13 {k : Bd} (hR : RepC t w h last b ps f z I J) (hk : ∀ c, c < 16 → k.1 c < 12) : RepC t w h last b ps f z (wI 13 k I) (wJ 13 k J) := by
  have hf : FR (fun a _ => a = 13) I (wI 13 k I) J (wJ 13 k J) := FR.w (fun i => rfl)
  obtain ⟨h1, h2, h3, ⟨h4, h5⟩, ⟨h6, h7⟩, ⟨h8, h9⟩, h10, k0, h11, h12⟩ := hR
  exact ⟨h1, TX_n h2 (fun a i x y => hf.1 a i (by omega)), Fld_fr h3 hf (fun a i x y => by omega), ⟨PL_fr h4 hf (fun i x y => by omega), h5⟩, ⟨PT_n h6 (fun a i x y => hf.1 a i (by omega)) (fun a i x y => hf.2 a i (by omega)), h7⟩, ⟨SL_n h8 (fun a i x y => hf.1 a i (by omega)) (fun a i x y => hf.2 a i (by omega)), h9⟩, by rw [hf.2 0 7 (by omega)]; exact h10, k, PL_w, hk⟩
set_option maxHeartbeats 16000000 in
theorem sp_X5_ways {x y : Int32} (hR : RepC t w h last b ps f z I J) : CALL ΩC (d + 8) kX5_ways [.ref 0, .int x, .int y] I J (AQ (aWays w h last b f x y) (t, (w, h, last), b, ps, f, z)) := by
  have hb := hR.2.2.2.1.1
  have hB := hR.2.2.2.1.2
  have hSl := hR.2.2.2.2.2.1.1
  have hSB := hR.2.2.2.2.2.1.2
  have hl9 := hR.1
  have hS : isS 25 2 := Or.inr ⟨rfl, rfl⟩
  cases hx : inB x 2
  · have e : aWays w h last b f x y = -1 := if_neg (by rw [hx]; exact Bool.false_ne_true)
    rw [e]
    refine call_of_wp (by decide) (Nat.le_of_ble_eq_true rfl) ?_
    refine wp_iload_n (pc := 0) (i := 1) dX5_ways_0 rfl rfl ?_
    refine wp_cSP1 (pc := 1) dX5_ways_1 lm_X5_201 m_X5_isSlot (Nat.le_of_ble_eq_true rfl) sp_X5_isSlot ?_
    rw [hx]
    refine wp_if_neB (pc := 4) (tgt := 9) dX5_ways_4 (by decide) (fun c_4 => ?_) (fun c_4 => ?_)
    · exact Bool.noConfusion c_4
    · refine wp_iconst (pc := 7) (v := (-1)) dX5_ways_7 (by decide +kernel) ?_
      refine wp_ireturn (pc := 8) dX5_ways_8 rfl ?_
      exact aq_i rfl hR
  · obtain ⟨c, hc, rfl⟩ := inB_t (by omega) hx
    have hcc := cI_n (n := c) (by omega)
    by_cases hy : y < nI 1 ∨ nI 3 < y
    · have e : aWays w h last b f (nI c) y = -2 := by unfold aWays; rw [if_pos hx, if_pos hy]
      rw [e]
      refine call_of_wp (by decide) (Nat.le_of_ble_eq_true rfl) ?_
      refine wp_iload_n (pc := 0) (i := 1) dX5_ways_0 rfl rfl ?_
      refine wp_cSP1 (pc := 1) dX5_ways_1 lm_X5_201 m_X5_isSlot (Nat.le_of_ble_eq_true rfl) sp_X5_isSlot ?_
      rw [hx]
      refine wp_if_neB (pc := 4) (tgt := 9) dX5_ways_4 (by decide) (fun c_4 => ?_) (fun c_4 => ?_)
      · refine wp_iload_n (pc := 9) (i := 2) dX5_ways_9 rfl rfl ?_
        refine wp_iconst (pc := 10) (v := nI 1) dX5_ways_10 (by decide +kernel) ?_
        refine wp_icmp_lt (pc := 11) (tgt := 19) dX5_ways_11 (by decide) (fun c_11 => ?_) (fun c_11 => ?_)
        · refine wp_bipush (pc := 19) (v := (-2)) dX5_ways_19 (by decide +kernel) ?_
          refine wp_ireturn (pc := 21) dX5_ways_21 rfl ?_
          exact aq_i rfl hR
        · refine wp_iload_n (pc := 14) (i := 2) dX5_ways_14 rfl rfl ?_
          refine wp_iconst (pc := 15) (v := nI 3) dX5_ways_15 (by decide +kernel) ?_
          refine wp_icmp_le (pc := 16) (tgt := 22) dX5_ways_16 (by decide) (fun c_16 => ?_) (fun c_16 => ?_)
          · exact absurd hy (fun k => k.elim c_11 (Int32.not_lt.mpr c_16))
          · refine wp_bipush (pc := 19) (v := (-2)) dX5_ways_19 (by decide +kernel) ?_
            refine wp_ireturn (pc := 21) dX5_ways_21 rfl ?_
            exact aq_i rfl hR
      · exact Bool.noConfusion c_4
    · obtain ⟨n, n1, n3, rfl⟩ := rngI (by omega) (by omega) hy
      have hcn := cI_n (n := n) (by omega)
      have hO : ∀ b, f c = some b → b.2.2.1 < 2 := fun q y => (hSB c q y).2.2.2.1
      have eA : aWays w h last b f (nI c) (nI n) = match f c with | none => -3 | some q => if (b.2.2.1 + n) % 2 = q.2.2.1 then nI (rws w h last q n b) else nI 0 := by
        unfold aWays
        rw [if_pos hx, if_neg hy, hcc, hcn]
      have hh := sp_X3_holds (d := d + 6) hS hc hSl hO
      cases hf : f c with
      | none =>
        have e : aWays w h last b f (nI c) (nI n) = -3 := by rw [eA, hf]
        rw [hf] at hh
        rw [e]
        refine call_of_wp (by decide) (Nat.le_of_ble_eq_true rfl) ?_
        refine wp_iload_n (pc := 0) (i := 1) dX5_ways_0 rfl rfl ?_
        refine wp_cSP1 (pc := 1) dX5_ways_1 lm_X5_201 m_X5_isSlot (Nat.le_of_ble_eq_true rfl) sp_X5_isSlot ?_
        rw [hx]
        refine wp_if_neB (pc := 4) (tgt := 9) dX5_ways_4 (by decide) (fun c_4 => ?_) (fun c_4 => ?_)
        · refine wp_iload_n (pc := 9) (i := 2) dX5_ways_9 rfl rfl ?_
          refine wp_iconst (pc := 10) (v := nI 1) dX5_ways_10 (by decide +kernel) ?_
          first | (refine wp_icmp_ltN (pc := 11) (tgt := 19) dX5_ways_11 (by decide) (by first | with_reducible assumption | omega) (by first | with_reducible assumption | omega) (fun c_11 => ?_) (fun c_11 => ?_)) | (refine wp_icmp_lt (pc := 11) (tgt := 19) dX5_ways_11 (by decide) (fun c_11 => ?_) (fun c_11 => ?_))
          · exact absurd c_11 (by omega)
          · refine wp_iload_n (pc := 14) (i := 2) dX5_ways_14 rfl rfl ?_
            refine wp_iconst (pc := 15) (v := nI 3) dX5_ways_15 (by decide +kernel) ?_
            first | (refine wp_icmp_leN (pc := 16) (tgt := 22) dX5_ways_16 (by decide) (by first | with_reducible assumption | omega) (by first | with_reducible assumption | omega) (fun c_16 => ?_) (fun c_16 => ?_)) | (refine wp_icmp_le (pc := 16) (tgt := 22) dX5_ways_16 (by decide) (fun c_16 => ?_) (fun c_16 => ?_))
            · refine wp_aload_n (pc := 22) (i := 0) dX5_ways_22 rfl rfl (by first | with_reducible assumption | rfl) ?_
              refine wp_getR (pc := 23) dX5_ways_23 lf_X5_50 (by first | with_reducible assumption | rfl) (by first | with_reducible assumption | rfl) rfl (by first | with_reducible assumption | rfl) (by first | with_reducible assumption | rfl) ?_
              refine wp_iload_n (pc := 26) (i := 1) dX5_ways_26 rfl rfl ?_
              refine wp_cVP1 (pc := 27) (ci := 3) dX5_ways_27 lm_X5_204 m_X3_holds (by first | with_reducible assumption | rfl) (by first | with_reducible assumption | rfl) (by decide) rfl (Nat.le_of_ble_eq_true rfl) hh ?_
              refine wp_if_neB (pc := 30) (tgt := 36) dX5_ways_30 (by decide) (fun c_30 => ?_) (fun c_30 => ?_)
              · exact Bool.noConfusion c_30
              · refine wp_bipush (pc := 33) (v := (-3)) dX5_ways_33 (by decide +kernel) ?_
                refine wp_ireturn (pc := 35) dX5_ways_35 rfl ?_
                exact aq_i rfl hR
            · exact absurd n3 c_16
        · exact Bool.noConfusion c_4
      | some q =>
        have e : aWays w h last b f (nI c) (nI n) = if (b.2.2.1 + n) % 2 = q.2.2.1 then nI (rws w h last q n b) else nI 0 := by rw [eA, hf]
        have hBq := hSB c q hf
        have hqo := hBq.2.2.2.1
        have hbo := hB.2.2.2.1
        obtain ⟨k, hk1, hk2⟩ := hR.2.2.2.2.2.2.2
        have hR2 := RepC_13 hR hBq.1
        have hF2 := hR2.2.2.1
        have hb2 := hR2.2.2.2.1.1
        have e9 : wI 13 q I 12 9 = nI b.2.2.1 := hb2.1 9 (by omega) (by omega)
        have e9q : wI 13 q I 13 9 = nI q.2.2.1 := (PL_w (p := 13) (b := q) (I := I) (J := J)).1 9 (by omega) (by omega)
        have hrt := rT_12 (d := d) hl9 (wI 13 q I) (wJ 13 q J) b q n hF2 hb2 hB PL_w hBq n3
        rw [hf] at hh
        rw [e]
        by_cases hpar : (b.2.2.1 + n) % 2 = q.2.2.1
        · rw [if_pos hpar]
          refine call_of_wp (by decide) (Nat.le_of_ble_eq_true rfl) ?_
          refine wp_iload_n (pc := 0) (i := 1) dX5_ways_0 rfl rfl ?_
          refine wp_cSP1 (pc := 1) dX5_ways_1 lm_X5_201 m_X5_isSlot (Nat.le_of_ble_eq_true rfl) sp_X5_isSlot ?_
          rw [hx]
          refine wp_if_neB (pc := 4) (tgt := 9) dX5_ways_4 (by decide) (fun c_4 => ?_) (fun c_4 => ?_)
          · refine wp_iload_n (pc := 9) (i := 2) dX5_ways_9 rfl rfl ?_
            refine wp_iconst (pc := 10) (v := nI 1) dX5_ways_10 (by decide +kernel) ?_
            first | (refine wp_icmp_ltN (pc := 11) (tgt := 19) dX5_ways_11 (by decide) (by first | with_reducible assumption | omega) (by first | with_reducible assumption | omega) (fun c_11 => ?_) (fun c_11 => ?_)) | (refine wp_icmp_lt (pc := 11) (tgt := 19) dX5_ways_11 (by decide) (fun c_11 => ?_) (fun c_11 => ?_))
            · exact absurd c_11 (by omega)
            · refine wp_iload_n (pc := 14) (i := 2) dX5_ways_14 rfl rfl ?_
              refine wp_iconst (pc := 15) (v := nI 3) dX5_ways_15 (by decide +kernel) ?_
              first | (refine wp_icmp_leN (pc := 16) (tgt := 22) dX5_ways_16 (by decide) (by first | with_reducible assumption | omega) (by first | with_reducible assumption | omega) (fun c_16 => ?_) (fun c_16 => ?_)) | (refine wp_icmp_le (pc := 16) (tgt := 22) dX5_ways_16 (by decide) (fun c_16 => ?_) (fun c_16 => ?_))
              · refine wp_aload_n (pc := 22) (i := 0) dX5_ways_22 rfl rfl (by first | with_reducible assumption | rfl) ?_
                refine wp_getR (pc := 23) dX5_ways_23 lf_X5_50 (by first | with_reducible assumption | rfl) (by first | with_reducible assumption | rfl) rfl (by first | with_reducible assumption | rfl) (by first | with_reducible assumption | rfl) ?_
                refine wp_iload_n (pc := 26) (i := 1) dX5_ways_26 rfl rfl ?_
                refine wp_cVP1 (pc := 27) (ci := 3) dX5_ways_27 lm_X5_204 m_X3_holds (by first | with_reducible assumption | rfl) (by first | with_reducible assumption | rfl) (by decide) rfl (Nat.le_of_ble_eq_true rfl) hh ?_
                refine wp_if_neB (pc := 30) (tgt := 36) dX5_ways_30 (by decide) (fun c_30 => ?_) (fun c_30 => ?_)
                · refine wp_aload_n (pc := 36) (i := 0) dX5_ways_36 rfl rfl (by first | with_reducible assumption | rfl) ?_
                  refine wp_getR (pc := 37) dX5_ways_37 lf_X5_50 (by first | with_reducible assumption | rfl) (by first | with_reducible assumption | rfl) rfl (by first | with_reducible assumption | rfl) (by first | with_reducible assumption | rfl) ?_
                  refine wp_iload_n (pc := 40) (i := 1) dX5_ways_40 rfl rfl ?_
                  refine wp_aload_n (pc := 41) (i := 0) dX5_ways_41 rfl rfl (by first | with_reducible assumption | rfl) ?_
                  refine wp_getR (pc := 42) dX5_ways_42 lf_X5_35 (by first | with_reducible assumption | rfl) (by first | with_reducible assumption | rfl) rfl (by first | with_reducible assumption | rfl) (by first | with_reducible assumption | rfl) ?_
                  refine wp_cVV2 (pc := 45) (ci := 3) dX5_ways_45 lm_X5_207 m_X3_get (by first | with_reducible assumption | rfl) (by first | with_reducible assumption | rfl) (by decide) rfl (Nat.le_of_ble_eq_true rfl) (sp_X3_get hS hc hSl hf hBq.2.2.2.1 hBq.2.2.2.2.1 hBq.1 isP13 hk1 hk2) (fun I_45 J_45 h_45 => ?_)
                  obtain ⟨rfl, rfl⟩ := h_45
                  refine wp_aload_n (pc := 48) (i := 0) dX5_ways_48 rfl rfl (by first | with_reducible assumption | rfl) ?_
                  refine wp_getR (pc := 49) dX5_ways_49 lf_X5_32 (by first | with_reducible assumption | rfl) (by first | with_reducible assumption | rfl) rfl (by first | with_reducible assumption | rfl) (by first | with_reducible assumption | rfl) ?_
                  refine wp_getI (pc := 52) dX5_ways_52 lf_X5_100 (by first | with_reducible assumption | rfl) (by first | with_reducible assumption | rfl) rfl ?_
                  rw [e9]
                  refine wp_iload_n (pc := 55) (i := 2) dX5_ways_55 rfl rfl ?_
                  first | (refine wp_iaddN (pc := 56) dX5_ways_56 ?_) | (refine wp_iadd (pc := 56) dX5_ways_56 ?_)
                  refine wp_iconst (pc := 57) (v := nI 2) dX5_ways_57 (by decide +kernel) ?_
                  refine wp_iremN (pc := 58) dX5_ways_58 (by first | with_reducible assumption | omega) (by first | with_reducible assumption | omega) (by first | with_reducible assumption | omega) ?_
                  rw [hpar]
                  refine wp_aload_n (pc := 59) (i := 0) dX5_ways_59 rfl rfl (by first | with_reducible assumption | rfl) ?_
                  refine wp_getR (pc := 60) dX5_ways_60 lf_X5_35 (by first | with_reducible assumption | rfl) (by first | with_reducible assumption | rfl) rfl (by first | with_reducible assumption | rfl) (by first | with_reducible assumption | rfl) ?_
                  refine wp_getI (pc := 63) dX5_ways_63 lf_X5_100 (by first | with_reducible assumption | rfl) (by first | with_reducible assumption | rfl) rfl ?_
                  rw [e9q]
                  first | (refine wp_icmp_neN (pc := 66) (tgt := 88) dX5_ways_66 (by decide) (by first | with_reducible assumption | omega) (by first | with_reducible assumption | omega) (fun c_66 => ?_) (fun c_66 => ?_)) | (refine wp_icmp_ne (pc := 66) (tgt := 88) dX5_ways_66 (by decide) (fun c_66 => ?_) (fun c_66 => ?_))
                  · exact absurd rfl c_66
                  · refine wp_aload_n (pc := 69) (i := 0) dX5_ways_69 rfl rfl (by first | with_reducible assumption | rfl) ?_
                    refine wp_getR (pc := 70) dX5_ways_70 lf_X5_19 (by first | with_reducible assumption | rfl) (by first | with_reducible assumption | rfl) rfl (by first | with_reducible assumption | rfl) (by first | with_reducible assumption | rfl) ?_
                    refine wp_aload_n (pc := 73) (i := 0) dX5_ways_73 rfl rfl (by first | with_reducible assumption | rfl) ?_
                    refine wp_getR (pc := 74) dX5_ways_74 lf_X5_32 (by first | with_reducible assumption | rfl) (by first | with_reducible assumption | rfl) rfl (by first | with_reducible assumption | rfl) (by first | with_reducible assumption | rfl) ?_
                    refine wp_aload_n (pc := 77) (i := 0) dX5_ways_77 rfl rfl (by first | with_reducible assumption | rfl) ?_
                    refine wp_getR (pc := 78) dX5_ways_78 lf_X5_35 (by first | with_reducible assumption | rfl) (by first | with_reducible assumption | rfl) rfl (by first | with_reducible assumption | rfl) (by first | with_reducible assumption | rfl) ?_
                    refine wp_iload_n (pc := 81) (i := 2) dX5_ways_81 rfl rfl ?_
                    refine wp_cSI4 (pc := 82) dX5_ways_82 lm_X5_211 m_X5_rowsTo (Nat.le_of_ble_eq_true rfl) hrt (fun x_82 I_82 J_82 h_82 => ?_)
                    obtain ⟨rfl, hf2⟩ := h_82
                    refine wp_goto (pc := 85) (tgt := 89) dX5_ways_85 (by decide) ?_
                    refine wp_ireturn (pc := 89) dX5_ways_89 rfl ?_
                    exact aq_i rfl (RepC_fr hR2 hf2)
                · exact Bool.noConfusion c_30
              · exact absurd n3 c_16
          · exact Bool.noConfusion c_4
        · rw [if_neg hpar]
          have hp2 : (b.2.2.1 + n) % 2 < 2 := Nat.mod_lt _ (by decide)
          have hbn : b.2.2.1 + n < 2147483648 := by omega
          generalize hv : (b.2.2.1 + n) % 2 = v at hpar hp2
          refine call_of_wp (by decide) (Nat.le_of_ble_eq_true rfl) ?_
          refine wp_iload_n (pc := 0) (i := 1) dX5_ways_0 rfl rfl ?_
          refine wp_cSP1 (pc := 1) dX5_ways_1 lm_X5_201 m_X5_isSlot (Nat.le_of_ble_eq_true rfl) sp_X5_isSlot ?_
          rw [hx]
          refine wp_if_neB (pc := 4) (tgt := 9) dX5_ways_4 (by decide) (fun c_4 => ?_) (fun c_4 => ?_)
          · refine wp_iload_n (pc := 9) (i := 2) dX5_ways_9 rfl rfl ?_
            refine wp_iconst (pc := 10) (v := nI 1) dX5_ways_10 (by decide +kernel) ?_
            first | (refine wp_icmp_ltN (pc := 11) (tgt := 19) dX5_ways_11 (by decide) (by first | with_reducible assumption | omega) (by first | with_reducible assumption | omega) (fun c_11 => ?_) (fun c_11 => ?_)) | (refine wp_icmp_lt (pc := 11) (tgt := 19) dX5_ways_11 (by decide) (fun c_11 => ?_) (fun c_11 => ?_))
            · exact absurd c_11 (by omega)
            · refine wp_iload_n (pc := 14) (i := 2) dX5_ways_14 rfl rfl ?_
              refine wp_iconst (pc := 15) (v := nI 3) dX5_ways_15 (by decide +kernel) ?_
              first | (refine wp_icmp_leN (pc := 16) (tgt := 22) dX5_ways_16 (by decide) (by first | with_reducible assumption | omega) (by first | with_reducible assumption | omega) (fun c_16 => ?_) (fun c_16 => ?_)) | (refine wp_icmp_le (pc := 16) (tgt := 22) dX5_ways_16 (by decide) (fun c_16 => ?_) (fun c_16 => ?_))
              · refine wp_aload_n (pc := 22) (i := 0) dX5_ways_22 rfl rfl (by first | with_reducible assumption | rfl) ?_
                refine wp_getR (pc := 23) dX5_ways_23 lf_X5_50 (by first | with_reducible assumption | rfl) (by first | with_reducible assumption | rfl) rfl (by first | with_reducible assumption | rfl) (by first | with_reducible assumption | rfl) ?_
                refine wp_iload_n (pc := 26) (i := 1) dX5_ways_26 rfl rfl ?_
                refine wp_cVP1 (pc := 27) (ci := 3) dX5_ways_27 lm_X5_204 m_X3_holds (by first | with_reducible assumption | rfl) (by first | with_reducible assumption | rfl) (by decide) rfl (Nat.le_of_ble_eq_true rfl) hh ?_
                refine wp_if_neB (pc := 30) (tgt := 36) dX5_ways_30 (by decide) (fun c_30 => ?_) (fun c_30 => ?_)
                · refine wp_aload_n (pc := 36) (i := 0) dX5_ways_36 rfl rfl (by first | with_reducible assumption | rfl) ?_
                  refine wp_getR (pc := 37) dX5_ways_37 lf_X5_50 (by first | with_reducible assumption | rfl) (by first | with_reducible assumption | rfl) rfl (by first | with_reducible assumption | rfl) (by first | with_reducible assumption | rfl) ?_
                  refine wp_iload_n (pc := 40) (i := 1) dX5_ways_40 rfl rfl ?_
                  refine wp_aload_n (pc := 41) (i := 0) dX5_ways_41 rfl rfl (by first | with_reducible assumption | rfl) ?_
                  refine wp_getR (pc := 42) dX5_ways_42 lf_X5_35 (by first | with_reducible assumption | rfl) (by first | with_reducible assumption | rfl) rfl (by first | with_reducible assumption | rfl) (by first | with_reducible assumption | rfl) ?_
                  refine wp_cVV2 (pc := 45) (ci := 3) dX5_ways_45 lm_X5_207 m_X3_get (by first | with_reducible assumption | rfl) (by first | with_reducible assumption | rfl) (by decide) rfl (Nat.le_of_ble_eq_true rfl) (sp_X3_get hS hc hSl hf hBq.2.2.2.1 hBq.2.2.2.2.1 hBq.1 isP13 hk1 hk2) (fun I_45 J_45 h_45 => ?_)
                  obtain ⟨rfl, rfl⟩ := h_45
                  refine wp_aload_n (pc := 48) (i := 0) dX5_ways_48 rfl rfl (by first | with_reducible assumption | rfl) ?_
                  refine wp_getR (pc := 49) dX5_ways_49 lf_X5_32 (by first | with_reducible assumption | rfl) (by first | with_reducible assumption | rfl) rfl (by first | with_reducible assumption | rfl) (by first | with_reducible assumption | rfl) ?_
                  refine wp_getI (pc := 52) dX5_ways_52 lf_X5_100 (by first | with_reducible assumption | rfl) (by first | with_reducible assumption | rfl) rfl ?_
                  rw [e9]
                  refine wp_iload_n (pc := 55) (i := 2) dX5_ways_55 rfl rfl ?_
                  first | (refine wp_iaddN (pc := 56) dX5_ways_56 ?_) | (refine wp_iadd (pc := 56) dX5_ways_56 ?_)
                  refine wp_iconst (pc := 57) (v := nI 2) dX5_ways_57 (by decide +kernel) ?_
                  refine wp_iremN (pc := 58) dX5_ways_58 (by first | with_reducible assumption | omega) (by first | with_reducible assumption | omega) (by first | with_reducible assumption | omega) ?_
                  rw [hv]
                  refine wp_aload_n (pc := 59) (i := 0) dX5_ways_59 rfl rfl (by first | with_reducible assumption | rfl) ?_
                  refine wp_getR (pc := 60) dX5_ways_60 lf_X5_35 (by first | with_reducible assumption | rfl) (by first | with_reducible assumption | rfl) rfl (by first | with_reducible assumption | rfl) (by first | with_reducible assumption | rfl) ?_
                  refine wp_getI (pc := 63) dX5_ways_63 lf_X5_100 (by first | with_reducible assumption | rfl) (by first | with_reducible assumption | rfl) rfl ?_
                  rw [e9q]
                  first | (refine wp_icmp_neN (pc := 66) (tgt := 88) dX5_ways_66 (by decide) (by first | with_reducible assumption | omega) (by first | with_reducible assumption | omega) (fun c_66 => ?_) (fun c_66 => ?_)) | (refine wp_icmp_ne (pc := 66) (tgt := 88) dX5_ways_66 (by decide) (fun c_66 => ?_) (fun c_66 => ?_))
                  · refine wp_iconst (pc := 88) (v := nI 0) dX5_ways_88 (by decide +kernel) ?_
                    refine wp_ireturn (pc := 89) dX5_ways_89 rfl ?_
                    exact aq_i rfl hR2
                  · exact absurd c_66 hpar
                · exact Bool.noConfusion c_30
              · exact absurd n3 c_16
          · exact Bool.noConfusion c_4
end PU4
