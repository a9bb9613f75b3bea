/-! THE REFERENCE'S CALLS, 6: play, the ways -/
/-- whether a board lies as another -/
def likB (n : Nat) (c q : Bd) : Bool := decide (c.2.2.1 = q.2.2.1) && decide (∀ j, j < n → c.1 j = q.1 j ∧ c.2.1 j = q.2.1 j)
/-- in how many rows of m PLIES -/
def wyM (w h last : Nat) (q : Bd) : Nat → Bd → Nat
  | 0, c => (likB (w * h) c q).toNat
  | m + 1, c => ((PLY w h c).map (fun x => wyM w h last q m (mkB last c x))).sum
theorem asc_inj : ∀ a, a < 12 → ∀ b, b < 12 → (asc a = asc b ↔ a = b) := by decide +kernel
section MWA
variable {d : Nat} {I : MemI} {J : MemJ} {t : List Nat} {w h last : Nat} {b : Bd} {ps : List Bd} {f : Nat → Option Bd} {z : Int64}
theorem PLY_0 {c : Bd} (hl : ¬ c.2.2.2 = 2) : (PLY w h c).length = 0 := by unfold PLY; rw [if_pos hl]; rfl
set_option maxHeartbeats 16000000 in
theorem sp_X6_play {x : Int32} (hR : RepM t w h last b ps f z I J) : CALL ΩM (d + 7) kX6_play [.ref 0, .int x] I J (AM (aPlay w h last b z x) (t, (w, h, last), b, ps, f, zPlay w h last b z x)) := by
  have n16 := (RepM_16 hR).2
  have hl9 := hR.1
  have hi1 : inL x.toInt64 (lN 1) (lN 40) = decide (¬ (x < nI 1 ∨ nI 40 < x)) := inL_rng (by decide) (by decide)
  by_cases hx : x < nI 1 ∨ nI 40 < x
  · have ho : outP x = true := decide_eq_true hx
    have e : aPlay w h last b z x = -2 := if_pos ho
    have e2 : zPlay w h last b z x = z := if_pos ho
    rw [decide_eq_false (fun k => k hx)] at hi1
    rw [e, e2]
    refine call_of_wp (by decide) (Nat.le_of_ble_eq_true rfl) ?_
    refine wp_iload_n (pc := 0) (i := 1) dX6_play_0 rfl rfl ?_
    refine wp_i2l (pc := 1) dX6_play_1 ?_
    refine wp_lconst (pc := 2) (v := lN 1) dX6_play_2 (by decide +kernel) ?_
    refine wp_ldc2_w (pc := 3) (v := lN 40) dX6_play_3 kl_X6_199 ?_
    refine wp_cSP3 (pc := 6) dX6_play_6 lm_X6_56 m_X6_in (Nat.le_of_ble_eq_true rfl) sp_X6_in ?_
    rw [hi1]
    refine wp_if_neB (pc := 9) (tgt := 15) dX6_play_9 (by decide) (fun c_9 => ?_) (fun c_9 => ?_)
    · exact Bool.noConfusion c_9
    · refine wp_bipush (pc := 12) (v := (-2)) dX6_play_12 (by decide +kernel) ?_
      refine wp_ireturn (pc := 14) dX6_play_14 rfl ?_
      exact am_i rfl hR
  · have ho : ¬ outP x = true := fun k => hx (of_decide_eq_true k)
    obtain ⟨n, n1, n40, rfl⟩ := rngI (by omega) (by omega) hx
    have hcn := cI_n (n := n) (by omega)
    have hin : inL (lN n) (lN 1) (lN 40) = true := by rw [inL_nn (by omega) (by omega) (by omega)]; exact decide_eq_true ⟨n1, n40⟩
    have e : aPlay w h last b z (nI n) = nI (cnt (fun c => wht (plyZ w h last n z b).2.1 c || blk (plyZ w h last n z b).2.1 c)) := by unfold aPlay; rw [if_neg ho, hcn]
    have e2 : zPlay w h last b z (nI n) = (plyZ w h last n z b).1 := by unfold zPlay; rw [if_neg ho, hcn]
    rw [e, e2]
    clear e e2
    have fin : ∀ (c : Bd) (lev : Nat) (I2 : MemI) (J2 : MemJ) (zz : Int64) (L : Lcs), lget L 0 = some (.ref 0) → lget L 2 = some (.int (nI lev)) → lev < 2 → FI scrM I I2 → LX (w * h) lev c I2 → Bok (w * h) c → J2 0 16 = zz → WP ΩM (d + 7) kX6_play 96 L [] I2 J2 (AM (nI (cnt (fun k => wht c.1 k || blk c.1 k))) (t, (w, h, last), b, ps, f, zz)) := by
      intro c lev I2 J2 zz L hL hL2 hlv hfr hc hcB hzz
      have hR2 := RepM_fr hR hfr
      have hR3 : RM (t, (w, h, last), b, ps, f, zz) I2 J2 := ⟨hR2.1, hR2.2.1, hR2.2.2.1, hR2.2.2.2.1, hR2.2.2.2.2.1, hR2.2.2.2.2.2.1, hzz⟩
      have hmn := sp_X6_men (d := d + 5) (J := J2) hR2.2.2.1.1 (LX_V n16 hc) hcB (show lev < 4 by omega)
      refine wp_aload_n (pc := 96) (i := 0) dX6_play_96 rfl hL rfl ?_
      refine wp_iload_n (pc := 97) (i := 2) dX6_play_97 rfl hL2 ?_
      refine wp_cVP1 (pc := 98) (ci := 6) dX6_play_98 lm_X6_205 m_X6_men (by first | with_reducible assumption | rfl) (by first | with_reducible assumption | rfl) (by decide) rfl (Nat.le_of_ble_eq_true rfl) hmn ?_
      refine wp_ireturn (pc := 101) dX6_play_101 rfl ?_
      exact am_i rfl hR3
    have loop : ∀ m i lev (c : Bd) (zz : Int64) (I2 : MemI) (J2 : MemJ), m + i = n → lev < 2 → FI scrM I I2 → LX (w * h) lev c I2 → Bok (w * h) c → J2 0 16 = zz → plyZ w h last m zz c = plyZ w h last n z b → WP ΩM (d + 7) kX6_play 19 [(0, .ref 0), (1, .int (nI n)), (2, .int (nI lev)), (3, .int (nI i))] [] I2 J2 (AM (nI (cnt (fun c => wht (plyZ w h last n z b).2.1 c || blk (plyZ w h last n z b).2.1 c))) (t, (w, h, last), b, ps, f, (plyZ w h last n z b).1)) := by
      intro m
      induction m with
      | zero =>
        intro i lev c zz I2 J2 hi hlv hfr hc hcB hzz he
        have hi' : i = n := (Nat.zero_add i).symm.trans hi
        have g := fin c lev I2 J2 zz [(0, .ref 0), (1, .int (nI n)), (2, .int (nI lev)), (3, .int (nI i))] rfl rfl hlv hfr hc hcB hzz
        rw [← he]
        refine wp_iload_n (pc := 19) (i := 3) dX6_play_19 rfl rfl ?_
        refine wp_iload_n (pc := 20) (i := 1) dX6_play_20 rfl rfl ?_
        first | (refine wp_icmp_geN (pc := 21) (tgt := 96) dX6_play_21 (by decide) (by first | with_reducible assumption | omega) (by first | with_reducible assumption | omega) (fun c_21 => ?_) (fun c_21 => ?_)) | (refine wp_icmp_ge (pc := 21) (tgt := 96) dX6_play_21 (by decide) (fun c_21 => ?_) (fun c_21 => ?_))
        · exact g
        · exact absurd (show n ≤ i by omega) c_21
      | succ m ih =>
        intro i lev c zz I2 J2 hi hlv hfr hc hcB hzz he
        have hil : i < n := by omega
        have hR2 := RepM_fr hR hfr
        have f4 := hc.2.2
        by_cases hl : c.2.2.2 = 2
        · have f49 : I2 4 lev = -9 := by rw [f4, hl]; rfl
          have hpos := PLY_pos (w := w) (h := h) hcB hl
          have hlen := PLY_len (w := w) (h := h) hcB.2.2.2.1
          have hli := sp_X6_list (d := d) (J := J2) hR2.2.2.1.1 hc hcB (show lev < 4 by omega)
          obtain ⟨kz, hk1, hk2, hk3⟩ := lN_of (nxZ zz)
          have ei : ixZ (nxZ zz) (PLY w h c).length = kz / 2 ^ 33 % (PLY w h c).length := by unfold ixZ; rw [hk2]
          have hil2 : kz / 2 ^ 33 % (PLY w h c).length < (PLY w h c).length := Nat.mod_lt _ hpos
          have hkz : kz / 2 ^ 33 < 2 ^ 63 := Nat.lt_of_le_of_lt (Nat.div_le_div_right (Nat.le_of_lt hk1)) (by decide)
          have e1 : plyZ w h last (m + 1) zz c = plyZ w h last m (nxZ zz) (mkB last c ((PLY w h c).getD (kz / 2 ^ 33 % (PLY w h c).length) 0)) := by rw [plyZ, if_neg (by omega), ei]
          have hne : ¬ lN (PLY w h c).length = 0 := fun k => by
            have := (lN_inj64 (by omega) (by decide)).mp (show lN (PLY w h c).length = lN 0 from k)
            omega
          have hrem := pk_lRem (a := kz / 2 ^ 33) (b := (PLY w h c).length) hkz hpos (by omega)
          have hok := PLY_ok hcB (PLY_get hil2)
          have hlg := okP_leg hok
          have hcB2 := Bok_mk hcB hlg.1 hlg.2 hl9
          have hzI : ∀ v, uJ J2 0 16 v 0 16 = v := fun v => by simp [uJ]
          have h1 := fun I4 J4 a1 a2 a3 => ih (i + 1) 1 (mkB last c ((PLY w h c).getD (kz / 2 ^ 33 % (PLY w h c).length) 0)) (nxZ zz) I4 J4 (by omega) (by decide) a1 a2 hcB2 a3 (e1.symm.trans he)
          generalize hix : kz / 2 ^ 33 % (PLY w h c).length = ix at hil2 hok hrem h1
          clear ih fin
          refine wp_iload_n (pc := 19) (i := 3) dX6_play_19 rfl rfl ?_
          refine wp_iload_n (pc := 20) (i := 1) dX6_play_20 rfl rfl ?_
          first | (refine wp_icmp_geN (pc := 21) (tgt := 96) dX6_play_21 (by decide) (by first | with_reducible assumption | omega) (by first | with_reducible assumption | omega) (fun c_21 => ?_) (fun c_21 => ?_)) | (refine wp_icmp_ge (pc := 21) (tgt := 96) dX6_play_21 (by decide) (fun c_21 => ?_) (fun c_21 => ?_))
          · exact absurd c_21 (by omega)
          · refine wp_aload_n (pc := 24) (i := 0) dX6_play_24 rfl rfl (by first | with_reducible assumption | rfl) ?_
            refine wp_getR (pc := 25) dX6_play_25 lf_X6_19 (by first | with_reducible assumption | rfl) (by first | with_reducible assumption | rfl) rfl (by first | with_reducible assumption | rfl) (by first | with_reducible assumption | rfl) ?_
            refine wp_iload_n (pc := 28) (i := 2) dX6_play_28 rfl rfl ?_
            refine wp_iald (pc := 29) dX6_play_29 (by first | with_reducible assumption | rfl) (by first | with_reducible assumption | rfl) (by first | with_reducible assumption | omega) (by first | decide | omega) ?_
            rw [f49]
            refine wp_bipush (pc := 30) (v := (-9)) dX6_play_30 (by decide +kernel) ?_
            refine wp_icmp_ne (pc := 32) (tgt := 96) dX6_play_32 (by decide) (fun c_32 => ?_) (fun c_32 => ?_)
            · exact absurd rfl c_32
            · refine wp_aload_n (pc := 35) (i := 0) dX6_play_35 rfl rfl (by first | with_reducible assumption | rfl) ?_
              refine wp_iload_n (pc := 36) (i := 2) dX6_play_36 rfl rfl ?_
              refine wp_cVI1 (pc := 37) (ci := 6) dX6_play_37 lm_X6_130 m_X6_list (by first | with_reducible assumption | rfl) (by first | with_reducible assumption | rfl) (by decide) rfl (Nat.le_of_ble_eq_true rfl) hli (fun x_37 I_37 J_37 h_37 => ?_)
              obtain ⟨rfl, q1, q2, rfl⟩ := h_37
              have hR4 := RepM_fr hR2 (LsT_fr q1)
              have hc4 : LX (w * h) lev c I_37 := LX_n hc (by omega) (fun a i y1 y2 y3 => q1.2 a i (by omega) (by omega)) (q1.2 3 lev (by omega) (by omega)) (q1.2 4 lev (by omega) (by omega))
              have q6 := q1.1 ix hil2
              have hmk := sp_X6_make (d := d + 3) (J := uJ J_37 0 16 (nxZ zz)) hR4.2.2.1.1 hR4.2.2.1.2 hc4 hcB hl hok (show lev < 4 by omega) (show 1 < 4 by decide)
              refine wp_istore (pc := 40) dX6_play_40 (by decide) ?_
              refine wp_aload_n (pc := 42) (i := 0) dX6_play_42 rfl rfl (by first | with_reducible assumption | rfl) ?_
              refine wp_aload_n (pc := 43) (i := 0) dX6_play_43 rfl rfl (by first | with_reducible assumption | rfl) ?_
              refine wp_getJ (pc := 44) dX6_play_44 lf_X6_195 (by first | with_reducible assumption | rfl) (by first | with_reducible assumption | rfl) rfl ?_
              rw [hzz]
              refine wp_ldc2_w (pc := 47) (v := lN 6364136223846793005) dX6_play_47 kl_X6_201 ?_
              refine wp_lmul (pc := 50) dX6_play_50 ?_
              refine wp_ldc2_w (pc := 51) (v := lN 1442695040888963407) dX6_play_51 kl_X6_203 ?_
              refine wp_ladd (pc := 54) dX6_play_54 ?_
              rw [show zz * lN 6364136223846793005 + lN 1442695040888963407 = nxZ zz from rfl]
              refine wp_putJ (pc := 55) dX6_play_55 lf_X6_195 (by first | with_reducible assumption | rfl) (by first | with_reducible assumption | rfl) rfl rfl ?_
              refine wp_aload_n (pc := 58) (i := 0) dX6_play_58 rfl rfl (by first | with_reducible assumption | rfl) ?_
              refine wp_iload_n (pc := 59) (i := 2) dX6_play_59 rfl rfl ?_
              refine wp_iconst (pc := 60) (v := nI 1) dX6_play_60 (by decide +kernel) ?_
              refine wp_aload_n (pc := 61) (i := 0) dX6_play_61 rfl rfl (by first | with_reducible assumption | rfl) ?_
              refine wp_getR (pc := 62) dX6_play_62 lf_X6_25 (by first | with_reducible assumption | rfl) (by first | with_reducible assumption | rfl) rfl (by first | with_reducible assumption | rfl) (by first | with_reducible assumption | rfl) ?_
              refine wp_sipush (pc := 65) (v := nI 256) dX6_play_65 (by decide +kernel) ?_
              refine wp_iload_n (pc := 68) (i := 2) dX6_play_68 rfl rfl ?_
              first | (refine wp_imulN (pc := 69) dX6_play_69 ?_) | (refine wp_imul (pc := 69) dX6_play_69 ?_)
              refine wp_aload_n (pc := 70) (i := 0) dX6_play_70 rfl rfl (by first | with_reducible assumption | rfl) ?_
              refine wp_getJ (pc := 71) dX6_play_71 lf_X6_195 (by first | with_reducible assumption | rfl) (by first | with_reducible assumption | rfl) rfl ?_
              rw [hzI, hk3]
              refine wp_bipush (pc := 74) (v := nI 33) dX6_play_74 (by decide +kernel) ?_
              first | (refine wp_lushrN (pc := 76) dX6_play_76 (by first | with_reducible assumption | omega) (by first | with_reducible assumption | omega) ?_) | (refine wp_lushr (pc := 76) dX6_play_76 ?_)
              refine wp_iload (pc := 77) dX6_play_77 rfl ?_
              first | (refine wp_i2lN (pc := 79) dX6_play_79 (by first | with_reducible assumption | omega) ?_) | (refine wp_i2l (pc := 79) dX6_play_79 ?_)
              refine wp_lrem (pc := 80) dX6_play_80 (by first | with_reducible assumption | rfl) ?_
              rw [hrem]
              first | (refine wp_l2iN (pc := 81) dX6_play_81 ?_) | (refine wp_l2i (pc := 81) dX6_play_81 ?_)
              first | (refine wp_iaddN (pc := 82) dX6_play_82 ?_) | (refine wp_iadd (pc := 82) dX6_play_82 ?_)
              rw [← hk3]
              refine wp_iald (pc := 83) dX6_play_83 (by first | with_reducible assumption | rfl) (by first | with_reducible assumption | rfl) (by first | with_reducible assumption | omega) (by first | decide | omega) ?_
              rw [q6]
              refine wp_cVI3 (pc := 84) (ci := 6) dX6_play_84 lm_X6_143 m_X6_make (by first | with_reducible assumption | rfl) (by first | with_reducible assumption | rfl) (by decide) rfl (Nat.le_of_ble_eq_true rfl) hmk (fun x_84 I_84 J_84 h_84 => ?_)
              obtain ⟨m1, m2, m3, rfl⟩ := h_84
              refine wp_pop (pc := 87) dX6_play_87 rfl ?_
              refine wp_iconst (pc := 88) (v := nI 1) dX6_play_88 (by decide +kernel) ?_
              refine wp_istore_n (pc := 89) (i := 2) dX6_play_89 rfl (by decide) ?_
              first | (refine wp_iincN (pc := 90) (m := 1) dX6_play_90 rfl rfl (by decide) ?_) | (refine wp_iinc (pc := 90) dX6_play_90 rfl rfl (by decide) ?_)
              refine wp_goto (pc := 93) (tgt := 19) dX6_play_93 (by decide) ?_
              refine wp_drop 4 ?_
              exact h1 _ _ ((hfr.trans (LsT_fr q1)).trans (FM_fr (by decide) m3)) m2 (hzI _)
        · have e1 : plyZ w h last (m + 1) zz c = (zz, c) := by unfold plyZ; rw [if_pos (PLY_0 hl)]
          have g := fin c lev I2 J2 zz [(0, .ref 0), (1, .int (nI n)), (2, .int (nI lev)), (3, .int (nI i))] rfl rfl hlv hfr hc hcB hzz
          have hne := lsI_ne hl hcB.2.2.2.2.1
          rw [← he, e1]
          refine wp_iload_n (pc := 19) (i := 3) dX6_play_19 rfl rfl ?_
          refine wp_iload_n (pc := 20) (i := 1) dX6_play_20 rfl rfl ?_
          first | (refine wp_icmp_geN (pc := 21) (tgt := 96) dX6_play_21 (by decide) (by first | with_reducible assumption | omega) (by first | with_reducible assumption | omega) (fun c_21 => ?_) (fun c_21 => ?_)) | (refine wp_icmp_ge (pc := 21) (tgt := 96) dX6_play_21 (by decide) (fun c_21 => ?_) (fun c_21 => ?_))
          · exact absurd c_21 (by omega)
          · refine wp_aload_n (pc := 24) (i := 0) dX6_play_24 rfl rfl (by first | with_reducible assumption | rfl) ?_
            refine wp_getR (pc := 25) dX6_play_25 lf_X6_19 (by first | with_reducible assumption | rfl) (by first | with_reducible assumption | rfl) rfl (by first | with_reducible assumption | rfl) (by first | with_reducible assumption | rfl) ?_
            refine wp_iload_n (pc := 28) (i := 2) dX6_play_28 rfl rfl ?_
            refine wp_iald (pc := 29) dX6_play_29 (by first | with_reducible assumption | rfl) (by first | with_reducible assumption | rfl) (by first | with_reducible assumption | omega) (by first | decide | omega) ?_
            rw [f4]
            refine wp_bipush (pc := 30) (v := (-9)) dX6_play_30 (by decide +kernel) ?_
            refine wp_icmp_ne (pc := 32) (tgt := 96) dX6_play_32 (by decide) (fun c_32 => ?_) (fun c_32 => ?_)
            · exact g
            · exact absurd c_32 hne
    have h00 := loop n 0 0 b z I J rfl (by decide) FI.refl hR.2.2.2.1.1 hR.2.2.2.1.2 hR.2.2.2.2.2.2 rfl
    refine call_of_wp (by decide) (Nat.le_of_ble_eq_true rfl) ?_
    refine wp_iload_n (pc := 0) (i := 1) dX6_play_0 rfl rfl ?_
    first | (refine wp_i2lN (pc := 1) dX6_play_1 (by first | with_reducible assumption | omega) ?_) | (refine wp_i2l (pc := 1) dX6_play_1 ?_)
    refine wp_lconst (pc := 2) (v := lN 1) dX6_play_2 (by decide +kernel) ?_
    refine wp_ldc2_w (pc := 3) (v := lN 40) dX6_play_3 kl_X6_199 ?_
    refine wp_cSP3 (pc := 6) dX6_play_6 lm_X6_56 m_X6_in (Nat.le_of_ble_eq_true rfl) sp_X6_in ?_
    rw [hin]
    refine wp_if_neB (pc := 9) (tgt := 15) dX6_play_9 (by decide) (fun c_9 => ?_) (fun c_9 => ?_)
    · refine wp_iconst (pc := 15) (v := nI 0) dX6_play_15 (by decide +kernel) ?_
      refine wp_istore_n (pc := 16) (i := 2) dX6_play_16 rfl (by decide) ?_
      refine wp_iconst (pc := 17) (v := nI 0) dX6_play_17 (by decide +kernel) ?_
      refine wp_istore_n (pc := 18) (i := 3) dX6_play_18 rfl (by decide) ?_
      exact h00
    · exact Bool.noConfusion c_9
set_option maxHeartbeats 16000000 in
theorem sp_X6_isLike {k s : Nat} {c q : Bd} (hW : WH w h I) (hL : LV (w * h) k c I) (hB : Bok (w * h) c) (hk : k < 4) (hs : s < 2) (hq : RW (w * h) 12 (34 * s) q I) (hQ : Bok (w * h) q) : CALL ΩM d kX6_isLike [.ref 0, .int (nI k), .int (nI s)] I J (PQ (.int (bI (likB (w * h) c q))) I J) := by
  have n16 := (WH_n hW).2
  have e0 := hW.2.1
  have e1 := hW.2.2
  have f3 := hL.2.1
  have f32 := hq.2.1
  have hco := hB.2.2.2.1
  have hqo := hQ.2.2.2.1
  have loop : ∀ m j, m + j = w * h → WP ΩM d kX6_isLike 30 [(0, .ref 0), (1, .int (nI k)), (2, .int (nI s)), (3, .int (bI (decide (c.2.2.1 = q.2.2.1) && decide (∀ i, i < j → c.1 i = q.1 i ∧ c.2.1 i = q.2.1 i)))), (4, .int (nI j))] [] I J (PQ (.int (bI (likB (w * h) c q))) I J) := by
    intro m
    induction m with
    | zero =>
      intro j hj
      have hj' : j = w * h := (Nat.zero_add j).symm.trans hj
      rw [hj']
      refine wp_iload (pc := 30) dX6_isLike_30 rfl ?_
      refine wp_aload_n (pc := 32) (i := 0) dX6_isLike_32 rfl rfl (by first | with_reducible assumption | rfl) ?_
      refine wp_getI (pc := 33) dX6_isLike_33 lf_X6_47 (by first | with_reducible assumption | rfl) (by first | with_reducible assumption | rfl) rfl ?_
      rw [e0]
      refine wp_aload_n (pc := 36) (i := 0) dX6_isLike_36 rfl rfl (by first | with_reducible assumption | rfl) ?_
      refine wp_getI (pc := 37) dX6_isLike_37 lf_X6_51 (by first | with_reducible assumption | rfl) (by first | with_reducible assumption | rfl) rfl ?_
      rw [e1]
      first | (refine wp_imulN (pc := 40) dX6_isLike_40 ?_) | (refine wp_imul (pc := 40) dX6_isLike_40 ?_)
      first | (refine wp_icmp_geN (pc := 41) (tgt := 117) dX6_isLike_41 (by decide) (by first | with_reducible assumption | omega) (by first | with_reducible assumption | omega) (fun c_41 => ?_) (fun c_41 => ?_)) | (refine wp_icmp_ge (pc := 41) (tgt := 117) dX6_isLike_41 (by decide) (fun c_41 => ?_) (fun c_41 => ?_))
      · refine wp_iload_n (pc := 117) (i := 3) dX6_isLike_117 rfl rfl ?_
        refine wp_zreturn (pc := 118) dX6_isLike_118 rfl (by first | exact bI_narrow _ | exact nI_narrow01 (by omega) | decide +kernel | assumption) ?_
        exact pq_i rfl
      · exact absurd (Nat.le_refl _) c_41
    | succ m ih =>
      intro j hj
      have hjn : j < w * h := by omega
      have ec := hL.1 j hjn
      have eq1 := (hq.1 j (by omega)).1
      have eq2 := (hq.1 j (by omega)).2
      have cc : ccd (w * h) q.1 j = asc (q.1 j) := if_pos hjn
      rw [cc] at eq1
      have hsc := hB.1 j (by omega)
      have hsq := hQ.1 j (by omega)
      have htc := hB.2.1 j (by omega)
      have htq := hQ.2.1 j (by omega)
      have ha1 := asc_lt (c.1 j)
      have ha2 := asc_lt (q.1 j)
      have hinj := asc_inj _ hsc _ hsq
      have h0 := ih (j + 1) (by omega)
      clear ih
      have hst : (∀ i, i < j + 1 → c.1 i = q.1 i ∧ c.2.1 i = q.2.1 i) ↔ ((∀ i, i < j → c.1 i = q.1 i ∧ c.2.1 i = q.2.1 i) ∧ (c.1 j = q.1 j ∧ c.2.1 j = q.2.1 j)) := by
        constructor
        · intro g; exact ⟨fun i hi => g i (by omega), g j (by omega)⟩
        · intro g i hi
          rcases Nat.lt_succ_iff_lt_or_eq.mp hi with y | y
          · exact g.1 i y
          · rw [y]; exact g.2
      cases hv : (decide (c.2.2.1 = q.2.2.1) && decide (∀ i, i < j → c.1 i = q.1 i ∧ c.2.1 i = q.2.1 i))
      · have en : (decide (c.2.2.1 = q.2.2.1) && decide (∀ i, i < j + 1 → c.1 i = q.1 i ∧ c.2.1 i = q.2.1 i)) = false := by
          rw [Bool.and_eq_false_iff] at hv ⊢
          rcases hv with y | y
          · exact Or.inl y
          · exact Or.inr (decide_eq_false (fun g => (of_decide_eq_false y) (hst.mp g).1))
        rw [en, bI_f] at h0
        refine wp_iload (pc := 30) dX6_isLike_30 rfl ?_
        refine wp_aload_n (pc := 32) (i := 0) dX6_isLike_32 rfl rfl (by first | with_reducible assumption | rfl) ?_
        refine wp_getI (pc := 33) dX6_isLike_33 lf_X6_47 (by first | with_reducible assumption | rfl) (by first | with_reducible assumption | rfl) rfl ?_
        rw [e0]
        refine wp_aload_n (pc := 36) (i := 0) dX6_isLike_36 rfl rfl (by first | with_reducible assumption | rfl) ?_
        refine wp_getI (pc := 37) dX6_isLike_37 lf_X6_51 (by first | with_reducible assumption | rfl) (by first | with_reducible assumption | rfl) rfl ?_
        rw [e1]
        first | (refine wp_imulN (pc := 40) dX6_isLike_40 ?_) | (refine wp_imul (pc := 40) dX6_isLike_40 ?_)
        first | (refine wp_icmp_geN (pc := 41) (tgt := 117) dX6_isLike_41 (by decide) (by first | with_reducible assumption | omega) (by first | with_reducible assumption | omega) (fun c_41 => ?_) (fun c_41 => ?_)) | (refine wp_icmp_ge (pc := 41) (tgt := 117) dX6_isLike_41 (by decide) (fun c_41 => ?_) (fun c_41 => ?_))
        · exact absurd c_41 (by omega)
        · refine wp_iload_n (pc := 44) (i := 3) dX6_isLike_44 rfl rfl ?_
          refine wp_if_eqB (pc := 45) (tgt := 109) dX6_isLike_45 (by decide) (fun c_45 => ?_) (fun c_45 => ?_)
          · refine wp_iconst (pc := 109) (v := nI 0) dX6_isLike_109 (by decide +kernel) ?_
            refine wp_istore_n (pc := 110) (i := 3) dX6_isLike_110 rfl (by decide) ?_
            first | (refine wp_iincN (pc := 111) (m := 1) dX6_isLike_111 rfl rfl (by decide) ?_) | (refine wp_iinc (pc := 111) dX6_isLike_111 rfl rfl (by decide) ?_)
            refine wp_goto (pc := 114) (tgt := 30) dX6_isLike_114 (by decide) ?_
            exact h0
          · exact Bool.noConfusion c_45
      · rw [Bool.and_eq_true] at hv
        have hv2 := of_decide_eq_true hv.2
        have en : (decide (c.2.2.1 = q.2.2.1) && decide (∀ i, i < j + 1 → c.1 i = q.1 i ∧ c.2.1 i = q.2.1 i)) = decide (c.1 j = q.1 j ∧ c.2.1 j = q.2.1 j) := by
          rw [hv.1, Bool.true_and]
          exact decide_eq_decide.mpr ⟨fun g => (hst.mp g).2, fun g => hst.mpr ⟨hv2, g⟩⟩
        rw [en] at h0
        have ec1 := ec.1
        have ec2 := ec.2
        refine wp_iload (pc := 30) dX6_isLike_30 rfl ?_
        refine wp_aload_n (pc := 32) (i := 0) dX6_isLike_32 rfl rfl (by first | with_reducible assumption | rfl) ?_
        refine wp_getI (pc := 33) dX6_isLike_33 lf_X6_47 (by first | with_reducible assumption | rfl) (by first | with_reducible assumption | rfl) rfl ?_
        rw [e0]
        refine wp_aload_n (pc := 36) (i := 0) dX6_isLike_36 rfl rfl (by first | with_reducible assumption | rfl) ?_
        refine wp_getI (pc := 37) dX6_isLike_37 lf_X6_51 (by first | with_reducible assumption | rfl) (by first | with_reducible assumption | rfl) rfl ?_
        rw [e1]
        first | (refine wp_imulN (pc := 40) dX6_isLike_40 ?_) | (refine wp_imul (pc := 40) dX6_isLike_40 ?_)
        first | (refine wp_icmp_geN (pc := 41) (tgt := 117) dX6_isLike_41 (by decide) (by first | with_reducible assumption | omega) (by first | with_reducible assumption | omega) (fun c_41 => ?_) (fun c_41 => ?_)) | (refine wp_icmp_ge (pc := 41) (tgt := 117) dX6_isLike_41 (by decide) (fun c_41 => ?_) (fun c_41 => ?_))
        · exact absurd c_41 (by omega)
        · refine wp_iload_n (pc := 44) (i := 3) dX6_isLike_44 rfl rfl ?_
          refine wp_if_eqB (pc := 45) (tgt := 109) dX6_isLike_45 (by decide) (fun c_45 => ?_) (fun c_45 => ?_)
          · exact Bool.noConfusion c_45
          · refine wp_aload_n (pc := 48) (i := 0) dX6_isLike_48 rfl rfl (by first | with_reducible assumption | rfl) ?_
            refine wp_getR (pc := 49) dX6_isLike_49 lf_X6_7 (by first | with_reducible assumption | rfl) (by first | with_reducible assumption | rfl) rfl (by first | with_reducible assumption | rfl) (by first | with_reducible assumption | rfl) ?_
            refine wp_bipush (pc := 52) (v := nI 16) dX6_isLike_52 (by decide +kernel) ?_
            refine wp_iload_n (pc := 54) (i := 1) dX6_isLike_54 rfl rfl ?_
            first | (refine wp_imulN (pc := 55) dX6_isLike_55 ?_) | (refine wp_imul (pc := 55) dX6_isLike_55 ?_)
            refine wp_iload (pc := 56) dX6_isLike_56 rfl ?_
            first | (refine wp_iaddN (pc := 58) dX6_isLike_58 ?_) | (refine wp_iadd (pc := 58) dX6_isLike_58 ?_)
            refine wp_iald (pc := 59) dX6_isLike_59 (by first | with_reducible assumption | rfl) (by first | with_reducible assumption | rfl) (by first | with_reducible assumption | omega) (by first | decide | omega) ?_
            rw [ec1]
            refine wp_aload_n (pc := 60) (i := 0) dX6_isLike_60 rfl rfl (by first | with_reducible assumption | rfl) ?_
            refine wp_getR (pc := 61) dX6_isLike_61 lf_X6_44 (by first | with_reducible assumption | rfl) (by first | with_reducible assumption | rfl) rfl (by first | with_reducible assumption | rfl) (by first | with_reducible assumption | rfl) ?_
            refine wp_bipush (pc := 64) (v := nI 34) dX6_isLike_64 (by decide +kernel) ?_
            refine wp_iload_n (pc := 66) (i := 2) dX6_isLike_66 rfl rfl ?_
            first | (refine wp_imulN (pc := 67) dX6_isLike_67 ?_) | (refine wp_imul (pc := 67) dX6_isLike_67 ?_)
            refine wp_iload (pc := 68) dX6_isLike_68 rfl ?_
            first | (refine wp_iaddN (pc := 70) dX6_isLike_70 ?_) | (refine wp_iadd (pc := 70) dX6_isLike_70 ?_)
            refine wp_iald (pc := 71) dX6_isLike_71 (by first | with_reducible assumption | rfl) (by first | with_reducible assumption | rfl) (by first | with_reducible assumption | omega) (by first | decide | omega) ?_
            rw [eq1]
            first | (refine wp_icmp_neN (pc := 72) (tgt := 109) dX6_isLike_72 (by decide) (by first | with_reducible assumption | omega) (by first | with_reducible assumption | omega) (fun c_72 => ?_) (fun c_72 => ?_)) | (refine wp_icmp_ne (pc := 72) (tgt := 109) dX6_isLike_72 (by decide) (fun c_72 => ?_) (fun c_72 => ?_))
            · refine wp_iconst (pc := 109) (v := nI 0) dX6_isLike_109 (by decide +kernel) ?_
              refine wp_istore_n (pc := 110) (i := 3) dX6_isLike_110 rfl (by decide) ?_
              first | (refine wp_iincN (pc := 111) (m := 1) dX6_isLike_111 rfl rfl (by decide) ?_) | (refine wp_iinc (pc := 111) dX6_isLike_111 rfl rfl (by decide) ?_)
              refine wp_goto (pc := 114) (tgt := 30) dX6_isLike_114 (by decide) ?_
              first
                | (have g2 : c.2.1 j = q.2.1 j := c_102; have g1 : asc (c.1 j) = asc (q.1 j) := c_72; rw [decide_eq_true ⟨hinj.mp g1, g2⟩, bI_t] at h0; exact h0)
                | (have g2 : ¬ c.2.1 j = q.2.1 j := c_102; rw [decide_eq_false (fun y => g2 y.2), bI_f] at h0; exact h0)
                | (have g1 : ¬ asc (c.1 j) = asc (q.1 j) := c_72; rw [decide_eq_false (fun y => g1 (hinj.mpr y.1)), bI_f] at h0; exact h0)
            · refine wp_aload_n (pc := 75) (i := 0) dX6_isLike_75 rfl rfl (by first | with_reducible assumption | rfl) ?_
              refine wp_getR (pc := 76) dX6_isLike_76 lf_X6_13 (by first | with_reducible assumption | rfl) (by first | with_reducible assumption | rfl) rfl (by first | with_reducible assumption | rfl) (by first | with_reducible assumption | rfl) ?_
              refine wp_bipush (pc := 79) (v := nI 16) dX6_isLike_79 (by decide +kernel) ?_
              refine wp_iload_n (pc := 81) (i := 1) dX6_isLike_81 rfl rfl ?_
              first | (refine wp_imulN (pc := 82) dX6_isLike_82 ?_) | (refine wp_imul (pc := 82) dX6_isLike_82 ?_)
              refine wp_iload (pc := 83) dX6_isLike_83 rfl ?_
              first | (refine wp_iaddN (pc := 85) dX6_isLike_85 ?_) | (refine wp_iadd (pc := 85) dX6_isLike_85 ?_)
              refine wp_iald (pc := 86) dX6_isLike_86 (by first | with_reducible assumption | rfl) (by first | with_reducible assumption | rfl) (by first | with_reducible assumption | omega) (by first | decide | omega) ?_
              rw [ec2]
              refine wp_aload_n (pc := 87) (i := 0) dX6_isLike_87 rfl rfl (by first | with_reducible assumption | rfl) ?_
              refine wp_getR (pc := 88) dX6_isLike_88 lf_X6_44 (by first | with_reducible assumption | rfl) (by first | with_reducible assumption | rfl) rfl (by first | with_reducible assumption | rfl) (by first | with_reducible assumption | rfl) ?_
              refine wp_bipush (pc := 91) (v := nI 34) dX6_isLike_91 (by decide +kernel) ?_
              refine wp_iload_n (pc := 93) (i := 2) dX6_isLike_93 rfl rfl ?_
              first | (refine wp_imulN (pc := 94) dX6_isLike_94 ?_) | (refine wp_imul (pc := 94) dX6_isLike_94 ?_)
              refine wp_bipush (pc := 95) (v := nI 16) dX6_isLike_95 (by decide +kernel) ?_
              first | (refine wp_iaddN (pc := 97) dX6_isLike_97 ?_) | (refine wp_iadd (pc := 97) dX6_isLike_97 ?_)
              refine wp_iload (pc := 98) dX6_isLike_98 rfl ?_
              first | (refine wp_iaddN (pc := 100) dX6_isLike_100 ?_) | (refine wp_iadd (pc := 100) dX6_isLike_100 ?_)
              refine wp_iald (pc := 101) dX6_isLike_101 (by first | with_reducible assumption | rfl) (by first | with_reducible assumption | rfl) (by first | with_reducible assumption | omega) (by first | decide | omega) ?_
              rw [eq2]
              first | (refine wp_icmp_neN (pc := 102) (tgt := 109) dX6_isLike_102 (by decide) (by first | with_reducible assumption | omega) (by first | with_reducible assumption | omega) (fun c_102 => ?_) (fun c_102 => ?_)) | (refine wp_icmp_ne (pc := 102) (tgt := 109) dX6_isLike_102 (by decide) (fun c_102 => ?_) (fun c_102 => ?_))
              · refine wp_iconst (pc := 109) (v := nI 0) dX6_isLike_109 (by decide +kernel) ?_
                refine wp_istore_n (pc := 110) (i := 3) dX6_isLike_110 rfl (by decide) ?_
                first | (refine wp_iincN (pc := 111) (m := 1) dX6_isLike_111 rfl rfl (by decide) ?_) | (refine wp_iinc (pc := 111) dX6_isLike_111 rfl rfl (by decide) ?_)
                refine wp_goto (pc := 114) (tgt := 30) dX6_isLike_114 (by decide) ?_
                first
                  | (have g2 : c.2.1 j = q.2.1 j := c_102; have g1 : asc (c.1 j) = asc (q.1 j) := c_72; rw [decide_eq_true ⟨hinj.mp g1, g2⟩, bI_t] at h0; exact h0)
                  | (have g2 : ¬ c.2.1 j = q.2.1 j := c_102; rw [decide_eq_false (fun y => g2 y.2), bI_f] at h0; exact h0)
                  | (have g1 : ¬ asc (c.1 j) = asc (q.1 j) := c_72; rw [decide_eq_false (fun y => g1 (hinj.mpr y.1)), bI_f] at h0; exact h0)
              · refine wp_iconst (pc := 105) (v := nI 1) dX6_isLike_105 (by decide +kernel) ?_
                refine wp_goto (pc := 106) (tgt := 110) dX6_isLike_106 (by decide) ?_
                refine wp_istore_n (pc := 110) (i := 3) dX6_isLike_110 rfl (by decide) ?_
                first | (refine wp_iincN (pc := 111) (m := 1) dX6_isLike_111 rfl rfl (by decide) ?_) | (refine wp_iinc (pc := 111) dX6_isLike_111 rfl rfl (by decide) ?_)
                refine wp_goto (pc := 114) (tgt := 30) dX6_isLike_114 (by decide) ?_
                first
                  | (have g2 : c.2.1 j = q.2.1 j := c_102; have g1 : asc (c.1 j) = asc (q.1 j) := c_72; rw [decide_eq_true ⟨hinj.mp g1, g2⟩, bI_t] at h0; exact h0)
                  | (have g2 : ¬ c.2.1 j = q.2.1 j := c_102; rw [decide_eq_false (fun y => g2 y.2), bI_f] at h0; exact h0)
                  | (have g1 : ¬ asc (c.1 j) = asc (q.1 j) := c_72; rw [decide_eq_false (fun y => g1 (hinj.mpr y.1)), bI_f] at h0; exact h0)
  have h00 := loop (w * h) 0 rfl
  have ez : ∀ j, j = 0 → (decide (c.2.2.1 = q.2.2.1) && decide (∀ i, i < j → c.1 i = q.1 i ∧ c.2.1 i = q.2.1 i)) = decide (c.2.2.1 = q.2.2.1) := by
    intro j hj
    rw [decide_eq_true (p := ∀ i, i < j → c.1 i = q.1 i ∧ c.2.1 i = q.2.1 i) (fun i hi => by omega), Bool.and_true]
  rw [ez 0 rfl] at h00
  refine call_of_wp (by decide) (Nat.le_of_ble_eq_true rfl) ?_
  refine wp_aload_n (pc := 0) (i := 0) dX6_isLike_0 rfl rfl (by first | with_reducible assumption | rfl) ?_
  refine wp_getR (pc := 1) dX6_isLike_1 lf_X6_16 (by first | with_reducible assumption | rfl) (by first | with_reducible assumption | rfl) rfl (by first | with_reducible assumption | rfl) (by first | with_reducible assumption | rfl) ?_
  refine wp_iload_n (pc := 4) (i := 1) dX6_isLike_4 rfl rfl ?_
  refine wp_iald (pc := 5) dX6_isLike_5 (by first | with_reducible assumption | rfl) (by first | with_reducible assumption | rfl) (by first | with_reducible assumption | omega) (by first | decide | omega) ?_
  rw [f3]
  refine wp_aload_n (pc := 6) (i := 0) dX6_isLike_6 rfl rfl (by first | with_reducible assumption | rfl) ?_
  refine wp_getR (pc := 7) dX6_isLike_7 lf_X6_44 (by first | with_reducible assumption | rfl) (by first | with_reducible assumption | rfl) rfl (by first | with_reducible assumption | rfl) (by first | with_reducible assumption | rfl) ?_
  refine wp_bipush (pc := 10) (v := nI 34) dX6_isLike_10 (by decide +kernel) ?_
  refine wp_iload_n (pc := 12) (i := 2) dX6_isLike_12 rfl rfl ?_
  first | (refine wp_imulN (pc := 13) dX6_isLike_13 ?_) | (refine wp_imul (pc := 13) dX6_isLike_13 ?_)
  refine wp_bipush (pc := 14) (v := nI 32) dX6_isLike_14 (by decide +kernel) ?_
  first | (refine wp_iaddN (pc := 16) dX6_isLike_16 ?_) | (refine wp_iadd (pc := 16) dX6_isLike_16 ?_)
  refine wp_iald (pc := 17) dX6_isLike_17 (by first | with_reducible assumption | rfl) (by first | with_reducible assumption | rfl) (by first | with_reducible assumption | omega) (by first | decide | omega) ?_
  rw [f32]
  first | (refine wp_icmp_neN (pc := 18) (tgt := 25) dX6_isLike_18 (by decide) (by first | with_reducible assumption | omega) (by first | with_reducible assumption | omega) (fun c_18 => ?_) (fun c_18 => ?_)) | (refine wp_icmp_ne (pc := 18) (tgt := 25) dX6_isLike_18 (by decide) (fun c_18 => ?_) (fun c_18 => ?_))
  · refine wp_iconst (pc := 25) (v := nI 0) dX6_isLike_25 (by decide +kernel) ?_
    refine wp_istore_n (pc := 26) (i := 3) dX6_isLike_26 rfl (by decide) ?_
    refine wp_iconst (pc := 27) (v := nI 0) dX6_isLike_27 (by decide +kernel) ?_
    refine wp_istore (pc := 28) dX6_isLike_28 (by decide) ?_
    first
      | (have g : c.2.2.1 = q.2.2.1 := c_18; rw [decide_eq_true g, bI_t] at h00; exact h00)
      | (have g : ¬ c.2.2.1 = q.2.2.1 := c_18; rw [decide_eq_false g, bI_f] at h00; exact h00)
  · refine wp_iconst (pc := 21) (v := nI 1) dX6_isLike_21 (by decide +kernel) ?_
    refine wp_goto (pc := 22) (tgt := 26) dX6_isLike_22 (by decide) ?_
    refine wp_istore_n (pc := 26) (i := 3) dX6_isLike_26 rfl (by decide) ?_
    refine wp_iconst (pc := 27) (v := nI 0) dX6_isLike_27 (by decide +kernel) ?_
    refine wp_istore (pc := 28) dX6_isLike_28 (by decide) ?_
    first
      | (have g : c.2.2.1 = q.2.2.1 := c_18; rw [decide_eq_true g, bI_t] at h00; exact h00)
      | (have g : ¬ c.2.2.1 = q.2.2.1 := c_18; rw [decide_eq_false g, bI_f] at h00; exact h00)
end MWA
